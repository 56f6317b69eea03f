def sCl (M : fl_M) (f g : Nat) : fl_M := wI (wI (wI (wI (wI (cCp M g f) 286 g (M.1 286 f)) 287 g (M.1 287 f)) 288 g (M.1 288 f)) 289 g (M.1 289 f)) 290 g (M.1 290 f)
theorem sCl_rd (M : fl_M) {f g : Nat} (hfg : f ≠ g) (a k : Nat) : (sCl M f g).1 a k = if 286 ≤ a ∧ a ≤ 290 then (if k = f then M.1 a g else if k = g then M.1 a f else M.1 a k) else M.1 a k := by
  unfold sCl
  by_cases h : 286 ≤ a ∧ a ≤ 290
  · rw [if_pos h]
    by_cases hg : k = g
    · subst hg
      rw [if_neg (Ne.symm hfg), if_pos rfl]
      rcases (show a = 286 ∨ a = 287 ∨ a = 288 ∨ a = 289 ∨ a = 290 by omega) with rfl | rfl | rfl | rfl | rfl <;> simp [wI, fl_u]
    · rw [rdI_ne (Or.inr hg), rdI_ne (Or.inr hg), rdI_ne (Or.inr hg), rdI_ne (Or.inr hg), rdI_ne (Or.inr hg), cCp_rd]
      by_cases hf : k = f
      · rw [if_pos ⟨h.1, h.2, hf⟩, if_pos hf]
      · rw [if_neg (fun q => hf q.2.2), if_neg hf, if_neg hg]
  · rw [if_neg h, rdI_ne (Or.inl (by omega)), rdI_ne (Or.inl (by omega)), rdI_ne (Or.inl (by omega)), rdI_ne (Or.inl (by omega)), rdI_ne (Or.inl (by omega)), cCp_rd, if_neg (by omega)]
theorem zFx_sCl {M : fl_M} {f g : Nat} (hfg : f ≠ g) (hf : f < 192) (hg : g < 192) (h : zFx M.1) : zFx (sCl M f g).1 := by
  intro c hc
  rw [sCl_rd M hfg, if_pos (by omega)]
  split
  · exact h g hg
  · split
    · exact h f hf
    · exact h c hc
set_option maxHeartbeats 4000000 in
set_option maxRecDepth 100000 in
theorem c_R_swapCell (l : Launch) (w : fl_W) (M : fl_M) (o : Nat) (hR : zRf o M.2) (hz : zFx M.1) (f g : Nat) (hf : f < 192) (hg : g < 192) : CT l y_R_swapCell w_R_swapCell rm_R_swapCell w zN [.ref (w.2.2 + 278), .int (nI f), .int (nI g)] M none (sCl M f g) := by
  refine CT.of (cc := b_R_swapCell) (own := "CompatibilityJudgeModel") (by decide) rfl rfl (Nat.le_of_ble_eq_true rfl) ?_
  intro p9 e9 s9 m9 ag9 bl9 mt9 c9 K
  show XW p9 l e9 (rm_R_swapCell) s9 m9 ag9 bl9 mt9 c9 8 0 0 (MQ bl9 (CQ w zN none (sCl M f g)) ag9 s9 0 0 (fun q : Nat => w.2.2 ≤ q)) w zN M 0 [(0, .ref (w.2.2 + 278)), (1, .int (nI f)), (2, .int (nI g))] []
  refine x_aload_n (pc := 0) K 0 d_R_swapCell_0 rfl ?_
  refine x_getr (pc := 1) K (n := 278) (n' := 286) (k := 7) (zlt shR) shR rfl hR.r286 rfl (by decide) (fun _ q => zmem (uw_R _ q)) (zmem lk_R_32) d_R_swapCell_1 ?_
  refine x_iload_n (pc := 4) K 1 d_R_swapCell_4 rfl ?_
  refine x_iald (pc := 5) K (n := 286) (j := f) rfl (by omega) (zlt sh286) sh286 rfl (by decide) d_R_swapCell_5 ?_
  refine x_istore_n (pc := 6) K (lv' := [(3, .int (M.1 286 f)), (0, .ref (w.2.2 + 278)), (1, .int (nI f)), (2, .int (nI g))]) d_R_swapCell_6 (by decide) rfl ?_
  refine x_aload_n (pc := 7) K 1 d_R_swapCell_7 rfl ?_
  refine x_getr (pc := 8) K (n := 278) (n' := 287) (k := 8) (zlt shR) shR rfl hR.r287 rfl (by decide) (fun _ q => zmem (uw_R _ q)) (zmem lk_R_35) d_R_swapCell_8 ?_
  refine x_iload_n (pc := 11) K 2 d_R_swapCell_11 rfl ?_
  refine x_iald (pc := 12) K (n := 287) (j := f) rfl (by omega) (zlt sh287) sh287 rfl (by decide) d_R_swapCell_12 ?_
  refine x_istore (pc := 13) K (lv' := [(4, .int (M.1 287 f)), (3, .int (M.1 286 f)), (0, .ref (w.2.2 + 278)), (1, .int (nI f)), (2, .int (nI g))]) d_R_swapCell_13 (by decide) rfl ?_
  refine x_aload_n (pc := 15) K 2 d_R_swapCell_15 rfl ?_
  refine x_getr (pc := 16) K (n := 278) (n' := 288) (k := 9) (zlt shR) shR rfl hR.r288 rfl (by decide) (fun _ q => zmem (uw_R _ q)) (zmem lk_R_38) d_R_swapCell_16 ?_
  refine x_iload_n (pc := 19) K 3 d_R_swapCell_19 rfl ?_
  refine x_iald (pc := 20) K (n := 288) (j := f) rfl (by omega) (zlt sh288) sh288 rfl (by decide) d_R_swapCell_20 ?_
  refine x_istore (pc := 21) K (lv' := [(5, .int (M.1 288 f)), (4, .int (M.1 287 f)), (3, .int (M.1 286 f)), (0, .ref (w.2.2 + 278)), (1, .int (nI f)), (2, .int (nI g))]) d_R_swapCell_21 (by decide) rfl ?_
  refine x_aload_n (pc := 23) K 3 d_R_swapCell_23 rfl ?_
  refine x_getr (pc := 24) K (n := 278) (n' := 289) (k := 10) (zlt shR) shR rfl hR.r289 rfl (by decide) (fun _ q => zmem (uw_R _ q)) (zmem lk_R_41) d_R_swapCell_24 ?_
  refine x_iload_n (pc := 27) K 4 d_R_swapCell_27 rfl ?_
  refine x_zald (pc := 28) K (n := 289) (j := f) rfl (by omega) (zlt sh289) sh289 rfl (by decide) d_R_swapCell_28 ?_
  refine x_istore (pc := 29) K (lv' := [(6, .int (M.1 289 f)), (5, .int (M.1 288 f)), (4, .int (M.1 287 f)), (3, .int (M.1 286 f)), (0, .ref (w.2.2 + 278)), (1, .int (nI f)), (2, .int (nI g))]) d_R_swapCell_29 (by decide) rfl ?_
  refine x_aload_n (pc := 31) K 4 d_R_swapCell_31 rfl ?_
  refine x_getr (pc := 32) K (n := 278) (n' := 290) (k := 11) (zlt shR) shR rfl hR.r290 rfl (by decide) (fun _ q => zmem (uw_R _ q)) (zmem lk_R_44) d_R_swapCell_32 ?_
  refine x_iload_n (pc := 35) K 5 d_R_swapCell_35 rfl ?_
  refine x_iald (pc := 36) K (n := 290) (j := f) rfl (by omega) (zlt sh290) sh290 rfl (by decide) d_R_swapCell_36 ?_
  refine x_istore (pc := 37) K (lv' := [(7, .int (M.1 290 f)), (6, .int (M.1 289 f)), (5, .int (M.1 288 f)), (4, .int (M.1 287 f)), (3, .int (M.1 286 f)), (0, .ref (w.2.2 + 278)), (1, .int (nI f)), (2, .int (nI g))]) d_R_swapCell_37 (by decide) rfl ?_
  refine x_aload_n (pc := 39) K 5 d_R_swapCell_39 rfl ?_
  refine x_iload_n (pc := 40) K 7 d_R_swapCell_40 rfl ?_
  refine x_iload_n (pc := 41) K 6 d_R_swapCell_41 rfl ?_
  refine x_callVv (pc := 42) K (As := [.int (nI g), .int (nI f)]) (rest := []) (c_R_copyCell l w M o hR hz g f (by omega) (by omega)) (zcwV K.ts lk_R_83 im_R_copyCell se_R_copyCell ii_R co_R_copyCell pd_R_copyCell ⟨rfl, rfl⟩ ⟨by decide, by decide⟩) (zlt shR) shR rfl rfl rfl (Nat.le_of_ble_eq_true rfl) ⟨Nat.zero_le _, Nat.zero_le _⟩ d_R_swapCell_42 ?_
  refine x_aload_n (pc := 45) K 5 d_R_swapCell_45 rfl ?_
  refine x_getr (pc := 46) K (n := 278) (n' := 286) (k := 7) (zlt shR) shR rfl hR.r286 rfl (by decide) (fun _ q => zmem (uw_R _ q)) (zmem lk_R_32) d_R_swapCell_46 ?_
  refine x_iload_n (pc := 49) K 7 d_R_swapCell_49 rfl ?_
  refine x_iload_n (pc := 50) K 4 d_R_swapCell_50 rfl ?_
  refine x_iast (pc := 51) K (n := 286) (j := g) (x := M.1 286 f) rfl (by omega) (zlt sh286) sh286 rfl (by decide) d_R_swapCell_51 ?_
  refine x_aload_n (pc := 52) K 5 d_R_swapCell_52 rfl ?_
  refine x_getr (pc := 53) K (n := 278) (n' := 287) (k := 8) (zlt shR) shR rfl hR.r287 rfl (by decide) (fun _ q => zmem (uw_R _ q)) (zmem lk_R_35) d_R_swapCell_53 ?_
  refine x_iload_n (pc := 56) K 7 d_R_swapCell_56 rfl ?_
  refine x_iload (pc := 57) K 3 d_R_swapCell_57 rfl ?_
  refine x_iast (pc := 59) K (n := 287) (j := g) (x := M.1 287 f) rfl (by omega) (zlt sh287) sh287 rfl (by decide) d_R_swapCell_59 ?_
  refine x_aload_n (pc := 60) K 5 d_R_swapCell_60 rfl ?_
  refine x_getr (pc := 61) K (n := 278) (n' := 288) (k := 9) (zlt shR) shR rfl hR.r288 rfl (by decide) (fun _ q => zmem (uw_R _ q)) (zmem lk_R_38) d_R_swapCell_61 ?_
  refine x_iload_n (pc := 64) K 7 d_R_swapCell_64 rfl ?_
  refine x_iload (pc := 65) K 2 d_R_swapCell_65 rfl ?_
  refine x_iast (pc := 67) K (n := 288) (j := g) (x := M.1 288 f) rfl (by omega) (zlt sh288) sh288 rfl (by decide) d_R_swapCell_67 ?_
  refine x_aload_n (pc := 68) K 5 d_R_swapCell_68 rfl ?_
  refine x_getr (pc := 69) K (n := 278) (n' := 289) (k := 10) (zlt shR) shR rfl hR.r289 rfl (by decide) (fun _ q => zmem (uw_R _ q)) (zmem lk_R_41) d_R_swapCell_69 ?_
  refine x_iload_n (pc := 72) K 7 d_R_swapCell_72 rfl ?_
  refine x_iload (pc := 73) K 1 d_R_swapCell_73 rfl ?_
  refine x_zast (pc := 75) K (n := 289) (j := g) (x := M.1 289 f) (hz f hf) rfl (by omega) (zlt sh289) sh289 rfl (by decide) d_R_swapCell_75 ?_
  refine x_aload_n (pc := 76) K 5 d_R_swapCell_76 rfl ?_
  refine x_getr (pc := 77) K (n := 278) (n' := 290) (k := 11) (zlt shR) shR rfl hR.r290 rfl (by decide) (fun _ q => zmem (uw_R _ q)) (zmem lk_R_44) d_R_swapCell_77 ?_
  refine x_iload_n (pc := 80) K 7 d_R_swapCell_80 rfl ?_
  refine x_iload (pc := 81) K 0 d_R_swapCell_81 rfl ?_
  refine x_iast (pc := 83) K (n := 290) (j := g) (x := M.1 290 f) rfl (by omega) (zlt sh290) sh290 rfl (by decide) d_R_swapCell_83 ?_
  exact x_vret (pc := 84) K rfl (rfl) d_R_swapCell_84
def sH (M : fl_M) (t : Nat) : fl_M := wI (wI (wI (wI (wI (wI (cHd M (12 + t) t) 279 (12 + t) (M.1 279 t)) 280 (12 + t) (M.1 280 t)) 281 (12 + t) (M.1 281 t)) 282 (12 + t) (M.1 282 t)) 283 (12 + t) (M.1 283 t)) 285 (12 + t) (M.1 285 t)
theorem sH_rd (M : fl_M) (t a k : Nat) : (sH M t).1 a k = if 279 ≤ a ∧ a ≤ 283 ∨ a = 285 then (if k = t then M.1 a (12 + t) else if k = 12 + t then M.1 a t else M.1 a k) else M.1 a k := by
  unfold sH
  by_cases h : 279 ≤ a ∧ a ≤ 283 ∨ a = 285
  · rw [if_pos h]
    by_cases hg : k = 12 + t
    · subst hg
      rw [if_neg (by omega), if_pos rfl]
      rcases (show a = 279 ∨ a = 280 ∨ a = 281 ∨ a = 282 ∨ a = 283 ∨ a = 285 by omega) with rfl | rfl | rfl | rfl | rfl | rfl <;> simp [wI, fl_u]
    · rw [rdI_ne (Or.inr hg), rdI_ne (Or.inr hg), rdI_ne (Or.inr hg), rdI_ne (Or.inr hg), rdI_ne (Or.inr hg), rdI_ne (Or.inr hg), cHd_rd]
      by_cases hf : k = t
      · rw [if_pos ⟨h, hf⟩, if_pos hf]
      · rw [if_neg (fun q => hf q.2), if_neg hf, if_neg hg]
  · rw [if_neg h, rdI_ne (Or.inl (by omega)), rdI_ne (Or.inl (by omega)), rdI_ne (Or.inl (by omega)), rdI_ne (Or.inl (by omega)), rdI_ne (Or.inl (by omega)), rdI_ne (Or.inl (by omega)), cHd_rd, if_neg (fun q => h q.1)]
theorem zDf_sH {M : fl_M} {t : Nat} (ht : t < 12) (h : zDf M.1) : zDf (sH M t).1 := by
  intro c hc
  rw [sH_rd, if_pos (by omega)]
  split
  · exact h _ (by omega)
  · split
    · exact h _ (by omega)
    · exact h c hc
def sF (M : fl_M) (k : Nat) : fl_M := wI (wI M 284 k (M.1 284 (36 + k))) 284 (36 + k) (M.1 284 k)
def sw1 (M : fl_M) : Nat → Nat → fl_M
  | _, 0 => M
  | t, k + 1 => sw1 (sH M t) (t + 1) k
def sw2 (M : fl_M) : Nat → Nat → fl_M
  | _, 0 => M
  | t, k + 1 => sw2 (sF M t) (t + 1) k
def sw3 (M : fl_M) : Nat → Nat → fl_M
  | _, 0 => M
  | t, k + 1 => sw3 (sCl M t (96 + t)) (t + 1) k
def xSW (M : fl_M) : fl_M := sw3 (sw2 (sw1 M 0 12) 0 36) 0 96
set_option maxHeartbeats 4000000 in
set_option maxRecDepth 100000 in
theorem l3_R_swap (l : Launch) (w : fl_W) (M : fl_M) (o : Nat) (Y : fl_M) {p9 : Program} {e9 : Env} {s9 : State} {m9 : MethodId} {ag9 : Array Value} {bl9 : List Frame} {mt9 : Method} {c9 : Code} (K : XC p9 s9 m9 ag9 mt9 c9 b_R_swap 8 none w_R_swap "CompatibilityJudgeModel" w) : ∀ (k : Nat) (i : Nat) (X : fl_M), i ≤ 96 → 96 + 1 ≤ i + k → zRf o X.2 → zFx X.1 → sw3 X i (96 - i) = Y → XW p9 l e9 (rm_R_swap) s9 m9 ag9 bl9 mt9 c9 8 0 0 (MQ bl9 (CQ w zN none Y) ag9 s9 0 0 (fun q : Nat => w.2.2 ≤ q)) w zN X 181 [(1, .int (nI i)), (0, .ref (w.2.2 + 278))] [] := by
  intro k
  induction k with
  | zero =>
    intro i X hi hk
    exact absurd hk (by omega)
  | succ k ih =>
    intro i X hi hk hR hx hf
    refine x_iload_n (pc := 181) K 0 d_R_swap_181 rfl ?_
    refine x_bipush (pc := 182) K (v := nI 96) d_R_swap_182 (by decide) ?_
    refine x_icmp_ge (pc := 184) K (tgt := 202) d_R_swap_184 (by decide) (fun c184 => ?_) (fun c184 => ?_)
    · skip
      have hic : i = 96 := by have := (nI_leI (a := 96) (by omega) (by omega)).mp c184; omega
      rw [hic, Nat.sub_self] at hf
      exact x_vret (pc := 202) K rfl (by subst hf; rfl) d_R_swap_202
    · skip
      have hic : i < 96 := Nat.not_le.mp (fun q => c184 (nI_le (a := 96) q (by omega)))
      rw [show 96 - i = (96 - (i + 1)) + 1 by omega, sw3] at hf
      refine x_aload_n (pc := 187) K 1 d_R_swap_187 rfl ?_
      refine x_iload_n (pc := 188) K 0 d_R_swap_188 rfl ?_
      refine x_bipush (pc := 189) K (v := nI 96) d_R_swap_189 (by decide) ?_
      refine x_iload_n (pc := 191) K 0 d_R_swap_191 rfl ?_
      refine x_iadd (pc := 192) K d_R_swap_192 ?_
      refine x_eqi (y := nI (96 + i)) (nI_add _ _) ?_
      refine x_callVv (pc := 193) K (As := [.int (nI i), .int (nI (96 + i))]) (rest := []) (c_R_swapCell l w X o hR hx i (96 + i) (by omega) (by omega)) (zcwV K.ts lk_R_97 im_R_swapCell se_R_swapCell ii_R co_R_swapCell pd_R_swapCell ⟨rfl, rfl⟩ ⟨by decide, by decide⟩) (zlt shR) shR rfl rfl rfl (Nat.le_of_ble_eq_true rfl) ⟨Nat.zero_le _, Nat.zero_le _⟩ d_R_swap_193 ?_
      refine x_iinc (pc := 196) K (v := nI (i + 1)) (lv' := [(1, .int (nI (i + 1))), (0, .ref (w.2.2 + 278))]) 0 d_R_swap_196 rfl (nI_1 _) (by decide) rfl ?_
      refine x_goto (pc := 199) K (tgt := 181) d_R_swap_199 (by decide) ?_
      refine x_lv [0, 1] rfl ?_
      exact ih (i + 1) _ (by omega) (by omega) hR (zFx_sCl (by omega) (by omega) (by omega) hx) hf
set_option maxHeartbeats 4000000 in
set_option maxRecDepth 100000 in
theorem l2_R_swap (l : Launch) (w : fl_W) (M : fl_M) (o : Nat) (Y : fl_M) {p9 : Program} {e9 : Env} {s9 : State} {m9 : MethodId} {ag9 : Array Value} {bl9 : List Frame} {mt9 : Method} {c9 : Code} (K : XC p9 s9 m9 ag9 mt9 c9 b_R_swap 8 none w_R_swap "CompatibilityJudgeModel" w) : ∀ (k : Nat) (i : Nat) (X : fl_M), i ≤ 36 → 36 + 1 ≤ i + k → zRf o X.2 → zFx X.1 → sw2 X i (36 - i) = Y → XW p9 l e9 (rm_R_swap) s9 m9 ag9 bl9 mt9 c9 8 0 0 (MQ bl9 (CQ w zN none (sw3 Y 0 96)) ag9 s9 0 0 (fun q : Nat => w.2.2 ≤ q)) w zN X 135 [(1, .int (nI i)), (0, .ref (w.2.2 + 278))] [] := by
  intro k
  induction k with
  | zero =>
    intro i X hi hk
    exact absurd hk (by omega)
  | succ k ih =>
    intro i X hi hk hR hx hf
    refine x_iload_n (pc := 135) K 0 d_R_swap_135 rfl ?_
    refine x_bipush (pc := 136) K (v := nI 36) d_R_swap_136 (by decide) ?_
    refine x_icmp_ge (pc := 138) K (tgt := 179) d_R_swap_138 (by decide) (fun c138 => ?_) (fun c138 => ?_)
    · skip
      have hic : i = 36 := by have := (nI_leI (a := 36) (by omega) (by omega)).mp c138; omega
      rw [hic, Nat.sub_self] at hf
      refine x_iconst (pc := 179) K (v := nI 0) d_R_swap_179 (by decide) ?_
      refine x_istore_n (pc := 180) K (lv' := [(1, .int (nI 0)), (0, .ref (w.2.2 + 278))]) d_R_swap_180 (by decide) rfl ?_
      have hf : X = Y := hf
      subst hf
      refine x_lv [0, 1] rfl ?_
      exact l3_R_swap l w M o _ K 97 0 _ (by omega) (by omega) hR hx rfl
    · skip
      have hic : i < 36 := Nat.not_le.mp (fun q => c138 (nI_le (a := 36) q (by omega)))
      rw [show 36 - i = (36 - (i + 1)) + 1 by omega, sw2] at hf
      refine x_aload_n (pc := 141) K 1 d_R_swap_141 rfl ?_
      refine x_getr (pc := 142) K (n := 278) (n' := 284) (k := 5) (zlt shR) shR rfl hR.r284 rfl (by decide) (fun _ q => zmem (uw_R _ q)) (zmem lk_R_26) d_R_swap_142 ?_
      refine x_iload_n (pc := 145) K 0 d_R_swap_145 rfl ?_
      refine x_iald (pc := 146) K (n := 284) (j := i) rfl (by omega) (zlt sh284) sh284 rfl (by decide) d_R_swap_146 ?_
      refine x_istore_n (pc := 147) K (lv' := [(2, .int (X.1 284 i)), (1, .int (nI i)), (0, .ref (w.2.2 + 278))]) d_R_swap_147 (by decide) rfl ?_
      refine x_aload_n (pc := 148) K 2 d_R_swap_148 rfl ?_
      refine x_getr (pc := 149) K (n := 278) (n' := 284) (k := 5) (zlt shR) shR rfl hR.r284 rfl (by decide) (fun _ q => zmem (uw_R _ q)) (zmem lk_R_26) d_R_swap_149 ?_
      refine x_iload_n (pc := 152) K 1 d_R_swap_152 rfl ?_
      refine x_aload_n (pc := 153) K 2 d_R_swap_153 rfl ?_
      refine x_getr (pc := 154) K (n := 278) (n' := 284) (k := 5) (zlt shR) shR rfl hR.r284 rfl (by decide) (fun _ q => zmem (uw_R _ q)) (zmem lk_R_26) d_R_swap_154 ?_
      refine x_bipush (pc := 157) K (v := nI 36) d_R_swap_157 (by decide) ?_
      refine x_iload_n (pc := 159) K 1 d_R_swap_159 rfl ?_
      refine x_iadd (pc := 160) K d_R_swap_160 ?_
      refine x_eqi (y := nI (36 + i)) (nI_add _ _) ?_
      refine x_iald (pc := 161) K (n := 284) (j := 36 + i) rfl (by omega) (zlt sh284) sh284 rfl (by decide) d_R_swap_161 ?_
      refine x_iast (pc := 162) K (n := 284) (j := i) (x := X.1 284 (36 + i)) rfl (by omega) (zlt sh284) sh284 rfl (by decide) d_R_swap_162 ?_
      refine x_aload_n (pc := 163) K 2 d_R_swap_163 rfl ?_
      refine x_getr (pc := 164) K (n := 278) (n' := 284) (k := 5) (zlt shR) shR rfl hR.r284 rfl (by decide) (fun _ q => zmem (uw_R _ q)) (zmem lk_R_26) d_R_swap_164 ?_
      refine x_bipush (pc := 167) K (v := nI 36) d_R_swap_167 (by decide) ?_
      refine x_iload_n (pc := 169) K 1 d_R_swap_169 rfl ?_
      refine x_iadd (pc := 170) K d_R_swap_170 ?_
      refine x_eqi (y := nI (36 + i)) (nI_add _ _) ?_
      refine x_iload_n (pc := 171) K 0 d_R_swap_171 rfl ?_
      refine x_iast (pc := 172) K (n := 284) (j := 36 + i) (x := X.1 284 i) rfl (by omega) (zlt sh284) sh284 rfl (by decide) d_R_swap_172 ?_
      refine x_iinc (pc := 173) K (v := nI (i + 1)) (lv' := [(1, .int (nI (i + 1))), (2, .int (X.1 284 i)), (0, .ref (w.2.2 + 278))]) 1 d_R_swap_173 rfl (nI_1 _) (by decide) rfl ?_
      refine x_goto (pc := 176) K (tgt := 135) d_R_swap_176 (by decide) ?_
      refine x_lv [0, 2] rfl ?_
      exact ih (i + 1) _ (by omega) (by omega) hR (fun c hc => by rw [rdI_ne (Or.inl (by decide)), rdI_ne (Or.inl (by decide))]; exact hx c hc) hf
set_option maxHeartbeats 4000000 in
set_option maxRecDepth 100000 in
theorem l1_R_swap (l : Launch) (w : fl_W) (M : fl_M) (o : Nat) (Y : fl_M) {p9 : Program} {e9 : Env} {s9 : State} {m9 : MethodId} {ag9 : Array Value} {bl9 : List Frame} {mt9 : Method} {c9 : Code} (K : XC p9 s9 m9 ag9 mt9 c9 b_R_swap 8 none w_R_swap "CompatibilityJudgeModel" w) : ∀ (k : Nat) (i : Nat) (X : fl_M), i ≤ 12 → 12 + 1 ≤ i + k → zRf o X.2 → zDf X.1 → zFx X.1 → sw1 X i (12 - i) = Y → XW p9 l e9 (rm_R_swap) s9 m9 ag9 bl9 mt9 c9 8 0 0 (MQ bl9 (CQ w zN none (sw3 (sw2 Y 0 36) 0 96)) ag9 s9 0 0 (fun q : Nat => w.2.2 ≤ q)) w zN X 2 [(1, .int (nI i)), (0, .ref (w.2.2 + 278))] [] := by
  intro k
  induction k with
  | zero =>
    intro i X hi hk
    exact absurd hk (by omega)
  | succ k ih =>
    intro i X hi hk hR hd hx hf
    refine x_iload_n (pc := 2) K 0 d_R_swap_2 rfl ?_
    refine x_bipush (pc := 3) K (v := nI 12) d_R_swap_3 (by decide) ?_
    refine x_icmp_ge (pc := 5) K (tgt := 133) d_R_swap_5 (by decide) (fun c5 => ?_) (fun c5 => ?_)
    · skip
      have hic : i = 12 := by have := (nI_leI (a := 12) (by omega) (by omega)).mp c5; omega
      rw [hic, Nat.sub_self] at hf
      refine x_iconst (pc := 133) K (v := nI 0) d_R_swap_133 (by decide) ?_
      refine x_istore_n (pc := 134) K (lv' := [(1, .int (nI 0)), (0, .ref (w.2.2 + 278))]) d_R_swap_134 (by decide) rfl ?_
      have hf : X = Y := hf
      subst hf
      refine x_lv [0, 1] rfl ?_
      exact l2_R_swap l w M o _ K 37 0 _ (by omega) (by omega) hR hx rfl
    · skip
      have hic : i < 12 := Nat.not_le.mp (fun q => c5 (nI_le (a := 12) q (by omega)))
      rw [show 12 - i = (12 - (i + 1)) + 1 by omega, sw1] at hf
      refine x_aload_n (pc := 8) K 1 d_R_swap_8 rfl ?_
      refine x_getr (pc := 9) K (n := 278) (n' := 279) (k := 0) (zlt shR) shR rfl hR.r279 rfl (by decide) (fun _ q => zmem (uw_R _ q)) (zmem lk_R_7) d_R_swap_9 ?_
      refine x_iload_n (pc := 12) K 0 d_R_swap_12 rfl ?_
      refine x_zald (pc := 13) K (n := 279) (j := i) rfl (by omega) (zlt sh279) sh279 rfl (by decide) d_R_swap_13 ?_
      refine x_istore_n (pc := 14) K (lv' := [(2, .int (X.1 279 i)), (1, .int (nI i)), (0, .ref (w.2.2 + 278))]) d_R_swap_14 (by decide) rfl ?_
      refine x_aload_n (pc := 15) K 2 d_R_swap_15 rfl ?_
      refine x_getr (pc := 16) K (n := 278) (n' := 280) (k := 1) (zlt shR) shR rfl hR.r280 rfl (by decide) (fun _ q => zmem (uw_R _ q)) (zmem lk_R_13) d_R_swap_16 ?_
      refine x_iload_n (pc := 19) K 1 d_R_swap_19 rfl ?_
      refine x_iald (pc := 20) K (n := 280) (j := i) rfl (by omega) (zlt sh280) sh280 rfl (by decide) d_R_swap_20 ?_
      refine x_istore_n (pc := 21) K (lv' := [(3, .int (X.1 280 i)), (2, .int (X.1 279 i)), (1, .int (nI i)), (0, .ref (w.2.2 + 278))]) d_R_swap_21 (by decide) rfl ?_
      refine x_aload_n (pc := 22) K 3 d_R_swap_22 rfl ?_
      refine x_getr (pc := 23) K (n := 278) (n' := 281) (k := 2) (zlt shR) shR rfl hR.r281 rfl (by decide) (fun _ q => zmem (uw_R _ q)) (zmem lk_R_17) d_R_swap_23 ?_
      refine x_iload_n (pc := 26) K 2 d_R_swap_26 rfl ?_
      refine x_iald (pc := 27) K (n := 281) (j := i) rfl (by omega) (zlt sh281) sh281 rfl (by decide) d_R_swap_27 ?_
      refine x_istore (pc := 28) K (lv' := [(4, .int (X.1 281 i)), (3, .int (X.1 280 i)), (2, .int (X.1 279 i)), (1, .int (nI i)), (0, .ref (w.2.2 + 278))]) d_R_swap_28 (by decide) rfl ?_
      refine x_aload_n (pc := 30) K 4 d_R_swap_30 rfl ?_
      refine x_getr (pc := 31) K (n := 278) (n' := 282) (k := 3) (zlt shR) shR rfl hR.r282 rfl (by decide) (fun _ q => zmem (uw_R _ q)) (zmem lk_R_20) d_R_swap_31 ?_
      refine x_iload_n (pc := 34) K 3 d_R_swap_34 rfl ?_
      refine x_iald (pc := 35) K (n := 282) (j := i) rfl (by omega) (zlt sh282) sh282 rfl (by decide) d_R_swap_35 ?_
      refine x_istore (pc := 36) K (lv' := [(5, .int (X.1 282 i)), (4, .int (X.1 281 i)), (3, .int (X.1 280 i)), (2, .int (X.1 279 i)), (1, .int (nI i)), (0, .ref (w.2.2 + 278))]) d_R_swap_36 (by decide) rfl ?_
      refine x_aload_n (pc := 38) K 5 d_R_swap_38 rfl ?_
      refine x_getr (pc := 39) K (n := 278) (n' := 283) (k := 4) (zlt shR) shR rfl hR.r283 rfl (by decide) (fun _ q => zmem (uw_R _ q)) (zmem lk_R_23) d_R_swap_39 ?_
      refine x_iload_n (pc := 42) K 4 d_R_swap_42 rfl ?_
      refine x_iald (pc := 43) K (n := 283) (j := i) rfl (by omega) (zlt sh283) sh283 rfl (by decide) d_R_swap_43 ?_
      refine x_istore (pc := 44) K (lv' := [(6, .int (X.1 283 i)), (5, .int (X.1 282 i)), (4, .int (X.1 281 i)), (3, .int (X.1 280 i)), (2, .int (X.1 279 i)), (1, .int (nI i)), (0, .ref (w.2.2 + 278))]) d_R_swap_44 (by decide) rfl ?_
      refine x_aload_n (pc := 46) K 6 d_R_swap_46 rfl ?_
      refine x_getr (pc := 47) K (n := 278) (n' := 285) (k := 6) (zlt shR) shR rfl hR.r285 rfl (by decide) (fun _ q => zmem (uw_R _ q)) (zmem lk_R_29) d_R_swap_47 ?_
      refine x_iload_n (pc := 50) K 5 d_R_swap_50 rfl ?_
      refine x_iald (pc := 51) K (n := 285) (j := i) rfl (by omega) (zlt sh285) sh285 rfl (by decide) d_R_swap_51 ?_
      refine x_istore (pc := 52) K (lv' := [(7, .int (X.1 285 i)), (6, .int (X.1 283 i)), (5, .int (X.1 282 i)), (4, .int (X.1 281 i)), (3, .int (X.1 280 i)), (2, .int (X.1 279 i)), (1, .int (nI i)), (0, .ref (w.2.2 + 278))]) d_R_swap_52 (by decide) rfl ?_
      refine x_aload_n (pc := 54) K 7 d_R_swap_54 rfl ?_
      refine x_bipush (pc := 55) K (v := nI 12) d_R_swap_55 (by decide) ?_
      refine x_iload_n (pc := 57) K 6 d_R_swap_57 rfl ?_
      refine x_iadd (pc := 58) K d_R_swap_58 ?_
      refine x_eqi (y := nI (12 + i)) (nI_add _ _) ?_
      refine x_iload_n (pc := 59) K 6 d_R_swap_59 rfl ?_
      refine x_callVv (pc := 60) K (As := [.int (nI (12 + i)), .int (nI i)]) (rest := []) (c_R_copyHead l w X o hR hd (12 + i) i (by omega) (by omega)) (zcwV K.ts lk_R_94 im_R_copyHead se_R_copyHead ii_R co_R_copyHead pd_R_copyHead ⟨rfl, rfl⟩ ⟨by decide, by decide⟩) (zlt shR) shR rfl rfl rfl (Nat.le_of_ble_eq_true rfl) ⟨Nat.zero_le _, Nat.zero_le _⟩ d_R_swap_60 ?_
      refine x_aload_n (pc := 63) K 7 d_R_swap_63 rfl ?_
      refine x_getr (pc := 64) K (n := 278) (n' := 279) (k := 0) (zlt shR) shR rfl hR.r279 rfl (by decide) (fun _ q => zmem (uw_R _ q)) (zmem lk_R_7) d_R_swap_64 ?_
      refine x_bipush (pc := 67) K (v := nI 12) d_R_swap_67 (by decide) ?_
      refine x_iload_n (pc := 69) K 6 d_R_swap_69 rfl ?_
      refine x_iadd (pc := 70) K d_R_swap_70 ?_
      refine x_eqi (y := nI (12 + i)) (nI_add _ _) ?_
      refine x_iload_n (pc := 71) K 5 d_R_swap_71 rfl ?_
      refine x_zast (pc := 72) K (n := 279) (j := 12 + i) (x := X.1 279 i) (hd i (by omega)) rfl (by omega) (zlt sh279) sh279 rfl (by decide) d_R_swap_72 ?_
      refine x_aload_n (pc := 73) K 7 d_R_swap_73 rfl ?_
      refine x_getr (pc := 74) K (n := 278) (n' := 280) (k := 1) (zlt shR) shR rfl hR.r280 rfl (by decide) (fun _ q => zmem (uw_R _ q)) (zmem lk_R_13) d_R_swap_74 ?_
      refine x_bipush (pc := 77) K (v := nI 12) d_R_swap_77 (by decide) ?_
      refine x_iload_n (pc := 79) K 6 d_R_swap_79 rfl ?_
      refine x_iadd (pc := 80) K d_R_swap_80 ?_
      refine x_eqi (y := nI (12 + i)) (nI_add _ _) ?_
      refine x_iload_n (pc := 81) K 4 d_R_swap_81 rfl ?_
      refine x_iast (pc := 82) K (n := 280) (j := 12 + i) (x := X.1 280 i) rfl (by omega) (zlt sh280) sh280 rfl (by decide) d_R_swap_82 ?_
      refine x_aload_n (pc := 83) K 7 d_R_swap_83 rfl ?_
      refine x_getr (pc := 84) K (n := 278) (n' := 281) (k := 2) (zlt shR) shR rfl hR.r281 rfl (by decide) (fun _ q => zmem (uw_R _ q)) (zmem lk_R_17) d_R_swap_84 ?_
      refine x_bipush (pc := 87) K (v := nI 12) d_R_swap_87 (by decide) ?_
      refine x_iload_n (pc := 89) K 6 d_R_swap_89 rfl ?_
      refine x_iadd (pc := 90) K d_R_swap_90 ?_
      refine x_eqi (y := nI (12 + i)) (nI_add _ _) ?_
      refine x_iload (pc := 91) K 3 d_R_swap_91 rfl ?_
      refine x_iast (pc := 93) K (n := 281) (j := 12 + i) (x := X.1 281 i) rfl (by omega) (zlt sh281) sh281 rfl (by decide) d_R_swap_93 ?_
      refine x_aload_n (pc := 94) K 7 d_R_swap_94 rfl ?_
      refine x_getr (pc := 95) K (n := 278) (n' := 282) (k := 3) (zlt shR) shR rfl hR.r282 rfl (by decide) (fun _ q => zmem (uw_R _ q)) (zmem lk_R_20) d_R_swap_95 ?_
      refine x_bipush (pc := 98) K (v := nI 12) d_R_swap_98 (by decide) ?_
      refine x_iload_n (pc := 100) K 6 d_R_swap_100 rfl ?_
      refine x_iadd (pc := 101) K d_R_swap_101 ?_
      refine x_eqi (y := nI (12 + i)) (nI_add _ _) ?_
      refine x_iload (pc := 102) K 2 d_R_swap_102 rfl ?_
      refine x_iast (pc := 104) K (n := 282) (j := 12 + i) (x := X.1 282 i) rfl (by omega) (zlt sh282) sh282 rfl (by decide) d_R_swap_104 ?_
      refine x_aload_n (pc := 105) K 7 d_R_swap_105 rfl ?_
      refine x_getr (pc := 106) K (n := 278) (n' := 283) (k := 4) (zlt shR) shR rfl hR.r283 rfl (by decide) (fun _ q => zmem (uw_R _ q)) (zmem lk_R_23) d_R_swap_106 ?_
      refine x_bipush (pc := 109) K (v := nI 12) d_R_swap_109 (by decide) ?_
      refine x_iload_n (pc := 111) K 6 d_R_swap_111 rfl ?_
      refine x_iadd (pc := 112) K d_R_swap_112 ?_
      refine x_eqi (y := nI (12 + i)) (nI_add _ _) ?_
      refine x_iload (pc := 113) K 1 d_R_swap_113 rfl ?_
      refine x_iast (pc := 115) K (n := 283) (j := 12 + i) (x := X.1 283 i) rfl (by omega) (zlt sh283) sh283 rfl (by decide) d_R_swap_115 ?_
      refine x_aload_n (pc := 116) K 7 d_R_swap_116 rfl ?_
      refine x_getr (pc := 117) K (n := 278) (n' := 285) (k := 6) (zlt shR) shR rfl hR.r285 rfl (by decide) (fun _ q => zmem (uw_R _ q)) (zmem lk_R_29) d_R_swap_117 ?_
      refine x_bipush (pc := 120) K (v := nI 12) d_R_swap_120 (by decide) ?_
      refine x_iload_n (pc := 122) K 6 d_R_swap_122 rfl ?_
      refine x_iadd (pc := 123) K d_R_swap_123 ?_
      refine x_eqi (y := nI (12 + i)) (nI_add _ _) ?_
      refine x_iload (pc := 124) K 0 d_R_swap_124 rfl ?_
      refine x_iast (pc := 126) K (n := 285) (j := 12 + i) (x := X.1 285 i) rfl (by omega) (zlt sh285) sh285 rfl (by decide) d_R_swap_126 ?_
      refine x_iinc (pc := 127) K (v := nI (i + 1)) (lv' := [(1, .int (nI (i + 1))), (7, .int (X.1 285 i)), (6, .int (X.1 283 i)), (5, .int (X.1 282 i)), (4, .int (X.1 281 i)), (3, .int (X.1 280 i)), (2, .int (X.1 279 i)), (0, .ref (w.2.2 + 278))]) 6 d_R_swap_127 rfl (nI_1 _) (by decide) rfl ?_
      refine x_goto (pc := 130) K (tgt := 2) d_R_swap_130 (by decide) ?_
      refine x_lv [0, 7] rfl ?_
      exact ih (i + 1) _ (by omega) (by omega) hR (zDf_sH (by omega) hd) (fun c hc => by show isZ ((sH X i).1 289 c); rw [sH_rd, if_neg (by omega)]; exact hx c hc) hf
set_option maxHeartbeats 4000000 in
set_option maxRecDepth 100000 in
theorem c_R_swap (l : Launch) (w : fl_W) (M : fl_M) (o : Nat) (hR : zRf o M.2) (hd : zDf M.1) (hx : zFx M.1) : CT l y_R_swap w_R_swap rm_R_swap w zN [.ref (w.2.2 + 278)] M none (xSW M) := by
  refine CT.of (cc := b_R_swap) (own := "CompatibilityJudgeModel") (by decide) rfl rfl (Nat.le_of_ble_eq_true rfl) ?_
  intro p9 e9 s9 m9 ag9 bl9 mt9 c9 K
  show XW p9 l e9 (rm_R_swap) s9 m9 ag9 bl9 mt9 c9 8 0 0 (MQ bl9 (CQ w zN none (xSW M)) ag9 s9 0 0 (fun q : Nat => w.2.2 ≤ q)) w zN M 0 [(0, .ref (w.2.2 + 278))] []
  refine x_iconst (pc := 0) K (v := nI 0) d_R_swap_0 (by decide) ?_
  refine x_istore_n (pc := 1) K (lv' := [(1, .int (nI 0)), (0, .ref (w.2.2 + 278))]) d_R_swap_1 (by decide) rfl ?_
  unfold xSW
  exact l1_R_swap l w M o _ K 13 0 M (by omega) (by omega) hR hd hx rfl
def hcl (μ : Nat → Nat → Int32) : Nat → Nat → Int32 → Int32
  | _, 0, a => a
  | i, k + 1, a => hcl μ (i + 1) k (if μ 291 i = 0 then a else a + 1)
def ccl (μ : Nat → Nat → Int32) (q bb : Nat) : Nat → Nat → Int32 → Int32
  | _, 0, a => a
  | i, k + 1, a => if 4 ≤ q then a else ccl μ q bb (i + 1) k (if μ 279 (12 * bb + i) = 0 then a else a + (if q < 2 then 1 else μ 285 (12 * bb + i)))
def vCn (μ : Nat → Nat → Int32) (q : Nat) : Int32 := ccl μ q (q % 2) 0 12 (if q = 4 then hcl μ 0 168 0 else 0)
set_option maxHeartbeats 4000000 in
set_option maxRecDepth 100000 in
theorem l1_R_count (l : Launch) (w : fl_W) (M : fl_M) (o : Nat) (hR : zRf o M.2) (F V : Int32) {p9 : Program} {e9 : Env} {s9 : State} {m9 : MethodId} {ag9 : Array Value} {bl9 : List Frame} {mt9 : Method} {c9 : Code} (K : XC p9 s9 m9 ag9 mt9 c9 b_R_count 5 (some .int) w_R_count "CompatibilityJudgeModel" w) : ∀ (k : Nat) (i : Nat) (a : Int32), i ≤ 168 → 168 + 1 ≤ i + k → hcl M.1 i (168 - i) a = F → (XW p9 l e9 (rm_R_count) s9 m9 ag9 bl9 mt9 c9 5 0 0 (MQ bl9 (CQ w zN (some (.int V)) M) ag9 s9 0 0 (fun q : Nat => w.2.2 ≤ q)) w zN M 44 [(3, .int (nI 168)), (2, .int F), (0, .ref (w.2.2 + 278)), (1, .int (nI 4))] []) → XW p9 l e9 (rm_R_count) s9 m9 ag9 bl9 mt9 c9 5 0 0 (MQ bl9 (CQ w zN (some (.int V)) M) ag9 s9 0 0 (fun q : Nat => w.2.2 ≤ q)) w zN M 14 [(3, .int (nI i)), (2, .int a), (0, .ref (w.2.2 + 278)), (1, .int (nI 4))] [] := by
  intro k
  induction k with
  | zero =>
    intro i a hi hk
    exact absurd hk (by omega)
  | succ k ih =>
    intro i a hi hk hf hE
    refine x_iload_n (pc := 14) K 0 d_R_count_14 rfl ?_
    refine x_sipush (pc := 15) K (v := nI 168) d_R_count_15 (by decide) ?_
    refine x_icmp_ge (pc := 18) K (tgt := 44) d_R_count_18 (by decide) (fun c18 => ?_) (fun c18 => ?_)
    · skip
      have hic : i = 168 := by have := (nI_leI (a := 168) (by omega) (by omega)).mp c18; omega
      rw [hic, Nat.sub_self] at hf
      subst hic
      have hf : a = F := hf
      subst hf
      refine x_lv [0, 1, 2, 3] rfl ?_
      exact hE
    · skip
      have hic : i < 168 := Nat.not_le.mp (fun q => c18 (nI_le (a := 168) q (by omega)))
      rw [show 168 - i = (168 - (i + 1)) + 1 by omega, hcl] at hf
      refine x_iload_n (pc := 21) K 3 d_R_count_21 rfl ?_
      refine x_iconst (pc := 22) K (v := nI 4) d_R_count_22 (by decide) ?_
      refine x_icmp_ne (pc := 23) K (tgt := 44) d_R_count_23 (by decide) (fun q => absurd q (by decide)) (fun _ => ?_)
      refine x_aload_n (pc := 26) K 2 d_R_count_26 rfl ?_
      refine x_getr (pc := 27) K (n := 278) (n' := 291) (k := 12) (zlt shR) shR rfl hR.r291 rfl (by decide) (fun _ q => zmem (uw_R _ q)) (zmem lk_R_47) d_R_count_27 ?_
      refine x_iload_n (pc := 30) K 0 d_R_count_30 rfl ?_
      refine x_zald (pc := 31) K (n := 291) (j := i) rfl (by omega) (zlt sh291) sh291 rfl (by decide) d_R_count_31 ?_
      refine x_if_eq (pc := 32) K (tgt := 38) d_R_count_32 (by decide) (fun c32 => ?_) (fun c32 => ?_)
      · skip
        rw [if_pos c32] at hf
        refine x_iinc (pc := 38) K (v := nI (i + 1)) (lv' := [(3, .int (nI (i + 1))), (2, .int a), (0, .ref (w.2.2 + 278)), (1, .int (nI 4))]) 0 d_R_count_38 rfl (nI_1 _) (by decide) rfl ?_
        refine x_goto (pc := 41) K (tgt := 14) d_R_count_41 (by decide) ?_
        refine x_lv [0, 1, 2, 3] rfl ?_
        exact ih (i + 1) _ (by omega) (by omega) hf hE
      · skip
        rw [if_neg c32] at hf
        refine x_iinc (pc := 35) K (v := a + 1) (lv' := [(2, .int (a + 1)), (3, .int (nI i)), (0, .ref (w.2.2 + 278)), (1, .int (nI 4))]) 1 d_R_count_35 rfl (rfl) (by decide) rfl ?_
        refine x_iinc (pc := 38) K (v := nI (i + 1)) (lv' := [(3, .int (nI (i + 1))), (2, .int (a + 1)), (0, .ref (w.2.2 + 278)), (1, .int (nI 4))]) 1 d_R_count_38 rfl (nI_1 _) (by decide) rfl ?_
        refine x_goto (pc := 41) K (tgt := 14) d_R_count_41 (by decide) ?_
        refine x_lv [0, 1, 2, 3] rfl ?_
        exact ih (i + 1) _ (by omega) (by omega) hf hE
set_option maxHeartbeats 4000000 in
set_option maxRecDepth 100000 in
theorem l2_R_count (l : Launch) (w : fl_W) (M : fl_M) (o : Nat) (hR : zRf o M.2) (q : Nat) (hq : q ≤ 4) (bb : Nat) (hb : bb < 2) (F : Int32) {p9 : Program} {e9 : Env} {s9 : State} {m9 : MethodId} {ag9 : Array Value} {bl9 : List Frame} {mt9 : Method} {c9 : Code} (K : XC p9 s9 m9 ag9 mt9 c9 b_R_count 5 (some .int) w_R_count "CompatibilityJudgeModel" w) : ∀ (k : Nat) (i : Nat) (a : Int32), i ≤ 12 → 12 + 1 ≤ i + k → ccl M.1 q bb i (12 - i) a = F → XW p9 l e9 (rm_R_count) s9 m9 ag9 bl9 mt9 c9 5 0 0 (MQ bl9 (CQ w zN (some (.int F)) M) ag9 s9 0 0 (fun q : Nat => w.2.2 ≤ q)) w zN M 54 [(4, .int (nI (12 * bb + i))), (3, .int (nI bb)), (2, .int a), (0, .ref (w.2.2 + 278)), (1, .int (nI q))] [] := by
  intro k
  induction k with
  | zero =>
    intro i a hi hk
    exact absurd hk (by omega)
  | succ k ih =>
    intro i a hi hk hf
    refine x_iload (pc := 54) K 0 d_R_count_54 rfl ?_
    refine x_bipush (pc := 56) K (v := nI 12) d_R_count_56 (by decide) ?_
    refine x_iload_n (pc := 58) K 1 d_R_count_58 rfl ?_
    refine x_imul (pc := 59) K d_R_count_59 ?_
    refine x_eqi (y := nI (12 * bb)) (pk_mul _ _) ?_
    refine x_bipush (pc := 60) K (v := nI 12) d_R_count_60 (by decide) ?_
    refine x_iadd (pc := 62) K d_R_count_62 ?_
    refine x_eqi (y := nI ((12 * bb) + 12)) (nI_add _ _) ?_
    refine x_icmp_ge (pc := 63) K (tgt := 106) d_R_count_63 (by decide) (fun c63 => ?_) (fun c63 => ?_)
    · skip
      have hic : i = 12 := by have := (nI_leI (by omega) (by omega)).mp c63; omega
      rw [hic, Nat.sub_self] at hf
      refine x_iload_n (pc := 106) K 2 d_R_count_106 rfl ?_
      exact x_iret (pc := 107) K (by subst hf; rfl) (rfl) d_R_count_107
    · skip
      have hic : i < 12 := by have := Nat.not_le.mp (fun z => c63 (nI_le z (by omega))); omega
      rw [show 12 - i = (12 - (i + 1)) + 1 by omega, ccl] at hf
      refine x_iload_n (pc := 66) K 4 d_R_count_66 rfl ?_
      refine x_iconst (pc := 67) K (v := nI 4) d_R_count_67 (by decide) ?_
      refine x_icmp_ge (pc := 68) K (tgt := 106) d_R_count_68 (by decide) (fun c68 => ?_) (fun c68 => ?_)
      · skip
        have h4 : 4 ≤ q := (nI_leI (by omega) (by omega)).mp c68
        rw [if_pos h4] at hf
        refine x_iload_n (pc := 106) K 2 d_R_count_106 rfl ?_
        exact x_iret (pc := 107) K (by subst hf; rfl) (rfl) d_R_count_107
      · skip
        have h4 : ¬ 4 ≤ q := fun z => c68 (nI_le z (by omega))
        rw [if_neg h4] at hf
        refine x_aload_n (pc := 71) K 3 d_R_count_71 rfl ?_
        refine x_getr (pc := 72) K (n := 278) (n' := 279) (k := 0) (zlt shR) shR rfl hR.r279 rfl (by decide) (fun _ q => zmem (uw_R _ q)) (zmem lk_R_7) d_R_count_72 ?_
        refine x_iload (pc := 75) K 0 d_R_count_75 rfl ?_
        refine x_zald (pc := 77) K (n := 279) (j := 12 * bb + i) rfl (by omega) (zlt sh279) sh279 rfl (by decide) d_R_count_77 ?_
        refine x_if_eq (pc := 78) K (tgt := 100) d_R_count_78 (by decide) (fun c78 => ?_) (fun c78 => ?_)
        · skip
          rw [if_pos c78] at hf
          refine x_iinc (pc := 100) K (v := nI (12 * bb + (i + 1))) (lv' := [(4, .int (nI (12 * bb + (i + 1)))), (3, .int (nI bb)), (2, .int a), (0, .ref (w.2.2 + 278)), (1, .int (nI q))]) 0 d_R_count_100 rfl (nI_1 _) (by decide) rfl ?_
          refine x_goto (pc := 103) K (tgt := 54) d_R_count_103 (by decide) ?_
          refine x_lv [0, 1, 2, 3, 4] rfl ?_
          exact ih (i + 1) _ (by omega) (by omega) hf
        · skip
          rw [if_neg c78] at hf
          refine x_iload_n (pc := 81) K 2 d_R_count_81 rfl ?_
          refine x_iload_n (pc := 82) K 4 d_R_count_82 rfl ?_
          refine x_iconst (pc := 83) K (v := nI 2) d_R_count_83 (by decide) ?_
          refine x_icmp_ge (pc := 84) K (tgt := 91) d_R_count_84 (by decide) (fun c84 => ?_) (fun c84 => ?_)
          · skip
            have h2 : ¬ q < 2 := by have := (nI_leI (a := 2) (by omega) (by omega)).mp c84; omega
            rw [if_neg h2] at hf
            refine x_aload_n (pc := 91) K 3 d_R_count_91 rfl ?_
            refine x_getr (pc := 92) K (n := 278) (n' := 285) (k := 6) (zlt shR) shR rfl hR.r285 rfl (by decide) (fun _ q => zmem (uw_R _ q)) (zmem lk_R_29) d_R_count_92 ?_
            refine x_iload (pc := 95) K 0 d_R_count_95 rfl ?_
            refine x_iald (pc := 97) K (n := 285) (j := 12 * bb + i) rfl (by omega) (zlt sh285) sh285 rfl (by decide) d_R_count_97 ?_
            refine x_iadd (pc := 98) K d_R_count_98 ?_
            refine x_istore_n (pc := 99) K (lv' := [(2, .int (a + (M.1 285 (12 * bb + i)))), (4, .int (nI (12 * bb + i))), (3, .int (nI bb)), (0, .ref (w.2.2 + 278)), (1, .int (nI q))]) d_R_count_99 (by decide) rfl ?_
            refine x_iinc (pc := 100) K (v := nI (12 * bb + (i + 1))) (lv' := [(4, .int (nI (12 * bb + (i + 1)))), (2, .int (a + (M.1 285 (12 * bb + i)))), (3, .int (nI bb)), (0, .ref (w.2.2 + 278)), (1, .int (nI q))]) 1 d_R_count_100 rfl (nI_1 _) (by decide) rfl ?_
            refine x_goto (pc := 103) K (tgt := 54) d_R_count_103 (by decide) ?_
            refine x_lv [0, 2, 1, 3, 4] rfl ?_
            exact ih (i + 1) _ (by omega) (by omega) hf
          · skip
            have h2 : q < 2 := Nat.not_le.mp (fun z => c84 (nI_le (a := 2) z (by omega)))
            rw [if_pos h2] at hf
            refine x_iconst (pc := 87) K (v := 1) d_R_count_87 (by decide) ?_
            refine x_goto (pc := 88) K (tgt := 98) d_R_count_88 (by decide) ?_
            refine x_iadd (pc := 98) K d_R_count_98 ?_
            refine x_istore_n (pc := 99) K (lv' := [(2, .int (a + 1)), (4, .int (nI (12 * bb + i))), (3, .int (nI bb)), (0, .ref (w.2.2 + 278)), (1, .int (nI q))]) d_R_count_99 (by decide) rfl ?_
            refine x_iinc (pc := 100) K (v := nI (12 * bb + (i + 1))) (lv' := [(4, .int (nI (12 * bb + (i + 1)))), (2, .int (a + 1)), (3, .int (nI bb)), (0, .ref (w.2.2 + 278)), (1, .int (nI q))]) 1 d_R_count_100 rfl (nI_1 _) (by decide) rfl ?_
            refine x_goto (pc := 103) K (tgt := 54) d_R_count_103 (by decide) ?_
            refine x_lv [0, 2, 1, 3, 4] rfl ?_
            exact ih (i + 1) _ (by omega) (by omega) hf
set_option maxHeartbeats 4000000 in
set_option maxRecDepth 100000 in
theorem c_R_countN (l : Launch) (w : fl_W) (M : fl_M) (o : Nat) (hR : zRf o M.2) (q : Nat) (hq : q ≤ 4) : CT l y_R_count w_R_count rm_R_count w zN [.ref (w.2.2 + 278), .int (nI q)] M (some (.int (vCn M.1 q))) M := by
  refine CT.of (cc := b_R_count) (own := "CompatibilityJudgeModel") (by decide) rfl rfl (Nat.le_of_ble_eq_true rfl) ?_
  intro p9 e9 s9 m9 ag9 bl9 mt9 c9 K
  show XW p9 l e9 (rm_R_count) s9 m9 ag9 bl9 mt9 c9 5 0 0 (MQ bl9 (CQ w zN (some (.int (vCn M.1 q))) M) ag9 s9 0 0 (fun q : Nat => w.2.2 ≤ q)) w zN M 0 [(0, .ref (w.2.2 + 278)), (1, .int (nI q))] []
  refine x_iconst (pc := 0) K (v := nI 0) d_R_count_0 (by decide) ?_
  refine x_istore_n (pc := 1) K (lv' := [(2, .int (nI 0)), (0, .ref (w.2.2 + 278)), (1, .int (nI q))]) d_R_count_1 (by decide) rfl ?_
  refine x_iload_n (pc := 2) K 2 d_R_count_2 rfl ?_
  refine x_iconst (pc := 3) K (v := nI 4) d_R_count_3 (by decide) ?_
  refine x_callS (pc := 4) K (As := [.int (nI q), .int (nI 4)]) (rest := []) (c_R_out l w M (nI q) (nI 4)) (zcwS K.ts lk_R_59 sm_R_out ii_R co_R_out pd_R_out ⟨rfl, rfl⟩ ⟨by decide, by decide⟩) rfl rfl (Nat.le_of_ble_eq_true rfl) ⟨Nat.zero_le _, Nat.zero_le _⟩ d_R_count_4 ?_
  refine x_ifeqB (pc := 7) K (tgt := 12) d_R_count_7 (by decide) (fun c7 => ?_) (fun c7 => ?_)
  · skip
    refine x_iconst (pc := 12) K (v := nI 0) d_R_count_12 (by decide) ?_
    refine x_istore_n (pc := 13) K (lv' := [(3, .int (nI 0)), (2, .int (nI 0)), (0, .ref (w.2.2 + 278)), (1, .int (nI q))]) d_R_count_13 (by decide) rfl ?_
    by_cases hq4 : q = 4
    · subst hq4
      refine x_lv [0, 1, 2, 3] rfl ?_
      refine l1_R_count l w M o hR _ _ K 169 0 _ (by omega) (by omega) rfl ?_
      refine x_iload_n (pc := 44) K 3 d_R_count_44 rfl ?_
      refine x_iconst (pc := 45) K (v := nI 2) d_R_count_45 (by decide) ?_
      refine x_irem (pc := 46) K d_R_count_46 (by decide) ?_
      refine x_eqi (y := nI (4 % 2)) (pk_rem (by omega) (by omega) (by omega)) ?_
      refine x_istore_n (pc := 47) K (lv' := [(3, .int (nI (4 % 2))), (2, .int (hcl M.1 0 168 0)), (0, .ref (w.2.2 + 278)), (1, .int (nI 4))]) d_R_count_47 (by decide) rfl ?_
      refine x_bipush (pc := 48) K (v := nI 12) d_R_count_48 (by decide) ?_
      refine x_iload_n (pc := 50) K 0 d_R_count_50 rfl ?_
      refine x_imul (pc := 51) K d_R_count_51 ?_
      refine x_eqi (y := nI (12 * (4 % 2))) (pk_mul _ _) ?_
      refine x_istore (pc := 52) K (lv' := [(4, .int (nI (12 * (4 % 2)))), (3, .int (nI (4 % 2))), (2, .int (hcl M.1 0 168 0)), (0, .ref (w.2.2 + 278)), (1, .int (nI 4))]) d_R_count_52 (by decide) rfl ?_
      refine x_lv [0, 1, 2, 3, 4] rfl ?_
      exact l2_R_count l w M o hR 4 (by omega) (4 % 2) (by omega) (vCn M.1 4) K 13 0 (hcl M.1 0 168 0) (by omega) (by omega) (by unfold vCn; rw [if_pos rfl])
    · skip
      refine x_iload_n (pc := 14) K 0 d_R_count_14 rfl ?_
      refine x_sipush (pc := 15) K (v := nI 168) d_R_count_15 (by decide) ?_
      refine x_icmp_ge (pc := 18) K (tgt := 44) d_R_count_18 (by decide) (fun q => absurd q (by decide)) (fun _ => ?_)
      refine x_iload_n (pc := 21) K 3 d_R_count_21 rfl ?_
      refine x_iconst (pc := 22) K (v := nI 4) d_R_count_22 (by decide) ?_
      refine x_icmp_ne (pc := 23) K (tgt := 44) d_R_count_23 (by decide) (fun c23 => ?_) (fun c23 => absurd c23 (fun z => hq4 ((nI_eq (by omega) (by omega)).mp z)))
      refine x_iload_n (pc := 44) K 3 d_R_count_44 rfl ?_
      refine x_iconst (pc := 45) K (v := nI 2) d_R_count_45 (by decide) ?_
      refine x_irem (pc := 46) K d_R_count_46 (by decide) ?_
      refine x_eqi (y := nI (q % 2)) (pk_rem (by omega) (by omega) (by omega)) ?_
      refine x_istore_n (pc := 47) K (lv' := [(3, .int (nI (q % 2))), (2, .int (nI 0)), (0, .ref (w.2.2 + 278)), (1, .int (nI q))]) d_R_count_47 (by decide) rfl ?_
      refine x_bipush (pc := 48) K (v := nI 12) d_R_count_48 (by decide) ?_
      refine x_iload_n (pc := 50) K 0 d_R_count_50 rfl ?_
      refine x_imul (pc := 51) K d_R_count_51 ?_
      refine x_eqi (y := nI (12 * (q % 2))) (pk_mul _ _) ?_
      refine x_istore (pc := 52) K (lv' := [(4, .int (nI (12 * (q % 2)))), (3, .int (nI (q % 2))), (2, .int (nI 0)), (0, .ref (w.2.2 + 278)), (1, .int (nI q))]) d_R_count_52 (by decide) rfl ?_
      refine x_lv [0, 1, 2, 3, 4] rfl ?_
      exact l2_R_count l w M o hR q (by omega) (q % 2) (by omega) (vCn M.1 q) K 13 0 (nI 0) (by omega) (by omega) (by unfold vCn; rw [if_neg hq4]; rfl)
  · skip
    exact absurd c7 (by rintro (z | z); exact nI_pos (by omega) z; exact nI_nlt (a := 4) (b := q) hq (by omega) z)
set_option maxHeartbeats 4000000 in
set_option maxRecDepth 100000 in
theorem c_R_countX (l : Launch) (w : fl_W) (M : fl_M) (o : Nat) (hR : zRf o M.2) (x : Int32) (hx : x < 0 ∨ (4 : Int32) < x) : CT l y_R_count w_R_count rm_R_count w zN [.ref (w.2.2 + 278), .int x] M (some (.int (-1))) M := by
  refine CT.of (cc := b_R_count) (own := "CompatibilityJudgeModel") (by decide) rfl rfl (Nat.le_of_ble_eq_true rfl) ?_
  intro p9 e9 s9 m9 ag9 bl9 mt9 c9 K
  show XW p9 l e9 (rm_R_count) s9 m9 ag9 bl9 mt9 c9 5 0 0 (MQ bl9 (CQ w zN (some (.int (-1))) M) ag9 s9 0 0 (fun q : Nat => w.2.2 ≤ q)) w zN M 0 [(0, .ref (w.2.2 + 278)), (1, .int x)] []
  refine x_iconst (pc := 0) K (v := nI 0) d_R_count_0 (by decide) ?_
  refine x_istore_n (pc := 1) K (lv' := [(2, .int (nI 0)), (0, .ref (w.2.2 + 278)), (1, .int x)]) d_R_count_1 (by decide) rfl ?_
  refine x_iload_n (pc := 2) K 2 d_R_count_2 rfl ?_
  refine x_iconst (pc := 3) K (v := 4) d_R_count_3 (by decide) ?_
  refine x_callS (pc := 4) K (As := [.int x, .int 4]) (rest := []) (c_R_out l w M x 4) (zcwS K.ts lk_R_59 sm_R_out ii_R co_R_out pd_R_out ⟨rfl, rfl⟩ ⟨by decide, by decide⟩) rfl rfl (Nat.le_of_ble_eq_true rfl) ⟨Nat.zero_le _, Nat.zero_le _⟩ d_R_count_4 ?_
  refine x_ifeqB (pc := 7) K (tgt := 12) d_R_count_7 (by decide) (fun c7 => ?_) (fun c7 => ?_)
  · skip
    exact absurd hx c7
  · skip
    refine x_iconst (pc := 10) K (v := (-1)) d_R_count_10 (by decide) ?_
    exact x_iret (pc := 11) K (rfl) (rfl) d_R_count_11
def cpl (M : fl_M) : Nat → Nat → fl_M
  | _, 0 => M
  | t, k + 1 => cpl (cRw M t (12 + t)) (t + 1) k
theorem zFx_cr2 {f g : Nat} (hf : f < 24) : ∀ (k i : Nat) (M : fl_M), i + k ≤ 8 → zFx M.1 → zFx (cr2 M f g i k).1 := by
  intro k
  induction k with
  | zero => intro i M _ h; exact h
  | succ k ih => intro i M h1 h; rw [cr2]; exact ih _ _ (by omega) (zFx_cp h (by omega))
theorem cr2_rd {f g a j : Nat} (h : a < 286 ∨ 290 < a) : ∀ (k i : Nat) (M : fl_M), (cr2 M f g i k).1 a j = M.1 a j := by
  intro k
  induction k with
  | zero => intro i M; rfl
  | succ k ih => intro i M; rw [cr2, ih, cCp_rd, if_neg (by omega)]
theorem cRw_2 {M : fl_M} {f g : Nat} : (cRw M f g).2 = M.2 := by unfold cRw; rw [cr2_2, cr1_2]; rfl
theorem zFx_cRw {M : fl_M} {f g : Nat} (hf : f < 24) (h : zFx M.1) : zFx (cRw M f g).1 := by
  unfold cRw
  refine zFx_cr2 hf _ _ _ (by omega) (fun c hc => ?_)
  rw [cr1_rd (by decide), cHd_rd, if_neg (by omega)]
  exact h c hc
theorem zDf_cRw {M : fl_M} {f g : Nat} (hf : f < 24) (h : zDf M.1) : zDf (cRw M f g).1 := by
  intro c hc
  unfold cRw
  rw [cr2_rd (by omega), cr1_rd (by decide), cHd_rd]
  split
  · exact h f hf
  · exact h c hc
set_option maxHeartbeats 4000000 in
set_option maxRecDepth 100000 in
theorem lp_R_copy (l : Launch) (w : fl_W) (M : fl_M) (o : Nat) (Y : fl_M) {p9 : Program} {e9 : Env} {s9 : State} {m9 : MethodId} {ag9 : Array Value} {bl9 : List Frame} {mt9 : Method} {c9 : Code} (K : XC p9 s9 m9 ag9 mt9 c9 b_R_copy 2 (some .int) w_R_copy "CompatibilityJudgeModel" w) : ∀ (k : Nat) (i : Nat) (X : fl_M), i ≤ 12 → 12 + 1 ≤ i + k → zRf o X.2 → zDf X.1 → zFx X.1 → cpl X i (12 - i) = Y → XW p9 l e9 (rm_R_copy) s9 m9 ag9 bl9 mt9 c9 2 0 0 (MQ bl9 (CQ w zN (some (.int (vCn Y.1 1))) Y) ag9 s9 0 0 (fun q : Nat => w.2.2 ≤ q)) w zN X 2 [(1, .int (nI i)), (0, .ref (w.2.2 + 278))] [] := by
  intro k
  induction k with
  | zero =>
    intro i X hi hk
    exact absurd hk (by omega)
  | succ k ih =>
    intro i X hi hk hR hd hx hf
    refine x_iload_n (pc := 2) K 0 d_R_copy_2 rfl ?_
    refine x_bipush (pc := 3) K (v := nI 12) d_R_copy_3 (by decide) ?_
    refine x_icmp_ge (pc := 5) K (tgt := 23) d_R_copy_5 (by decide) (fun c5 => ?_) (fun c5 => ?_)
    · skip
      have hic : i = 12 := by have := (nI_leI (a := 12) (by omega) (by omega)).mp c5; omega
      rw [hic, Nat.sub_self] at hf
      refine x_aload_n (pc := 23) K 1 d_R_copy_23 rfl ?_
      refine x_iconst (pc := 24) K (v := nI 1) d_R_copy_24 (by decide) ?_
      refine x_callV (pc := 25) K (As := [.int (nI 1)]) (rest := []) (c_R_countN l w X o hR 1 (by omega)) (zcwV K.ts lk_R_90 im_R_count se_R_count ii_R co_R_count pd_R_count ⟨rfl, rfl⟩ ⟨by decide, by decide⟩) (zlt shR) shR rfl rfl rfl (Nat.le_of_ble_eq_true rfl) ⟨Nat.zero_le _, Nat.zero_le _⟩ d_R_copy_25 ?_
      exact x_iret (pc := 28) K (by subst hf; rfl) (by subst hf; rfl) d_R_copy_28
    · skip
      have hic : i < 12 := Nat.not_le.mp (fun q => c5 (nI_le (a := 12) q (by omega)))
      rw [show 12 - i = (12 - (i + 1)) + 1 by omega, cpl] at hf
      refine x_aload_n (pc := 8) K 1 d_R_copy_8 rfl ?_
      refine x_iload_n (pc := 9) K 0 d_R_copy_9 rfl ?_
      refine x_bipush (pc := 10) K (v := nI 12) d_R_copy_10 (by decide) ?_
      refine x_iload_n (pc := 12) K 0 d_R_copy_12 rfl ?_
      refine x_iadd (pc := 13) K d_R_copy_13 ?_
      refine x_eqi (y := nI (12 + i)) (nI_add _ _) ?_
      refine x_callVv (pc := 14) K (As := [.int (nI i), .int (nI (12 + i))]) (rest := []) (c_R_copyRow l w X o hR hd hx i (12 + i) (by omega) (by omega)) (zcwV K.ts lk_R_87 im_R_copyRow se_R_copyRow ii_R co_R_copyRow pd_R_copyRow ⟨rfl, rfl⟩ ⟨by decide, by decide⟩) (zlt shR) shR rfl rfl rfl (Nat.le_of_ble_eq_true rfl) ⟨Nat.zero_le _, Nat.zero_le _⟩ d_R_copy_14 ?_
      refine x_iinc (pc := 17) K (v := nI (i + 1)) (lv' := [(1, .int (nI (i + 1))), (0, .ref (w.2.2 + 278))]) 0 d_R_copy_17 rfl (nI_1 _) (by decide) rfl ?_
      refine x_goto (pc := 20) K (tgt := 2) d_R_copy_20 (by decide) ?_
      refine x_lv [0, 1] rfl ?_
      exact ih (i + 1) _ (by omega) (by omega) (by rw [cRw_2]; exact hR) (zDf_cRw (by omega) hd) (zFx_cRw (by omega) hx) hf
set_option maxHeartbeats 4000000 in
set_option maxRecDepth 100000 in
theorem c_R_copy (l : Launch) (w : fl_W) (M : fl_M) (o : Nat) (hR : zRf o M.2) (hd : zDf M.1) (hx : zFx M.1) : CT l y_R_copy w_R_copy rm_R_copy w zN [.ref (w.2.2 + 278)] M (some (.int (vCn (cpl M 0 12).1 1))) (cpl M 0 12) := by
  refine CT.of (cc := b_R_copy) (own := "CompatibilityJudgeModel") (by decide) rfl rfl (Nat.le_of_ble_eq_true rfl) ?_
  intro p9 e9 s9 m9 ag9 bl9 mt9 c9 K
  show XW p9 l e9 (rm_R_copy) s9 m9 ag9 bl9 mt9 c9 2 0 0 (MQ bl9 (CQ w zN (some (.int (vCn (cpl M 0 12).1 1))) (cpl M 0 12)) ag9 s9 0 0 (fun q : Nat => w.2.2 ≤ q)) w zN M 0 [(0, .ref (w.2.2 + 278))] []
  refine x_iconst (pc := 0) K (v := nI 0) d_R_copy_0 (by decide) ?_
  refine x_istore_n (pc := 1) K (lv' := [(1, .int (nI 0)), (0, .ref (w.2.2 + 278))]) d_R_copy_1 (by decide) rfl ?_
  exact lp_R_copy l w M o _ K 13 0 M (by omega) (by omega) hR hd hx rfl
