theorem vCl_in {μ : Nat → Nat → Int32} {b t p : Int32} (hc : ∀ r, r < 24 → rC μ r) (h : ¬ vCl μ b t p < 0) : yCl μ b t p ∧ vCl μ b t p = nI (8 * (12 * ix b + ix t) + ix p) ∧ p = nI (ix p) ∧ ix p < qM μ (12 * ix b + ix t) ∧ ix b < 2 ∧ ix t < 12 := by
  by_cases y : yCl μ b t p
  · have hv : vCl μ b t p = nI (8 * (12 * ix b + ix t)) + p := if_pos y
    obtain ⟨hbx, htx⟩ := okT_ix (badT_iff.mp y.1)
    have hb2 := hbx.2
    have ht12 := htx.2
    have hc9 := (hc (12 * ix b + ix t) (by omega)).2
    have hp0 : ¬ p < 0 := fun z => y.2.2 (Or.inl z)
    have hp1 : ¬ nI (qM μ (12 * ix b + ix t)) ≤ p := by
      intro z
      refine y.2.2 (Or.inr ?_)
      rw [hc9.1]
      rcases Nat.eq_zero_or_pos (qM μ (12 * ix b + ix t)) with q | q
      · rw [q]
        rw [Int32.lt_iff_toInt_lt]
        rw [Int32.lt_iff_toInt_lt, Int32.toInt_zero] at hp0
        have e : (nI 0 - 1 : Int32).toInt = -1 := by decide
        rw [e]
        omega
      · rw [show (1 : Int32) = nI 1 from by decide, pk_sub q, Int32.lt_iff_toInt_lt, nI_toInt (by omega)]
        rw [Int32.le_iff_toInt_le, nI_toInt (by omega)] at z
        omega
    have hpx := ix_of (qM μ (12 * ix b + ix t)) (by omega) hp0 hp1
    refine ⟨y, ?_, hpx.1, hpx.2, hb2, ht12⟩
    rw [hv]
    conv => lhs; rw [hpx.1]
    rw [nI_add]
  · exact absurd (show vCl μ b t p < 0 by unfold vCl; rw [if_neg y]; decide) h
abbrev yRC (μ : Nat → Nat → Int32) (b t p : Int32) : Prop := ¬ vCl μ b t p < 0 ∧ μ 286 (8 * (12 * ix b + ix t) + ix p) = 0
def xRC (M : fl_M) (b t p v : Int32) : fl_M := wI (wI M 289 (8 * (12 * ix b + ix t) + ix p) 1) 290 (8 * (12 * ix b + ix t) + ix p) v
set_option maxHeartbeats 4000000 in
set_option maxRecDepth 100000 in
theorem c_R_constant (l : Launch) (w : fl_W) (M : fl_M) (o : Nat) (hR : zRf o M.2) (hc : ∀ r, r < 24 → rC M.1 r) (b t p v : Int32) : CT l y_R_constant w_R_constant rm_R_constant w zN [.ref (w.2.2 + 278), .int b, .int t, .int p, .int v] M (some (.int (if yRC M.1 b t p then (if M.1 289 (8 * (12 * ix b + ix t) + ix p) = 0 then 0 else 1) else -1))) (if yRC M.1 b t p then xRC M b t p v else M) := by
  refine CT.of (cc := b_R_constant) (own := "CompatibilityJudgeModel") (by decide) rfl rfl (Nat.le_of_ble_eq_true rfl) ?_
  intro p9 e9 s9 m9 ag9 bl9 mt9 c9 K
  show XW p9 l e9 (rm_R_constant) s9 m9 ag9 bl9 mt9 c9 7 0 0 (MQ bl9 (CQ w zN (some (.int (if yRC M.1 b t p then (if M.1 289 (8 * (12 * ix b + ix t) + ix p) = 0 then 0 else 1) else -1))) (if yRC M.1 b t p then xRC M b t p v else M)) ag9 s9 0 0 (fun q : Nat => w.2.2 ≤ q)) w zN M 0 [(0, .ref (w.2.2 + 278)), (1, .int b), (2, .int t), (3, .int p), (4, .int v)] []
  refine x_aload_n (pc := 0) K 0 d_R_constant_0 rfl ?_
  refine x_iload_n (pc := 1) K 1 d_R_constant_1 rfl ?_
  refine x_iload_n (pc := 2) K 2 d_R_constant_2 rfl ?_
  refine x_iload_n (pc := 3) K 3 d_R_constant_3 rfl ?_
  refine x_callV (pc := 4) K (As := [.int b, .int t, .int p]) (rest := []) (c_R_cell l w M o hR b t p) (zcwV K.ts lk_R_80 im_R_cell se_R_cell ii_R co_R_cell pd_R_cell ⟨rfl, rfl⟩ ⟨by decide, by decide⟩) (zlt shR) shR rfl rfl rfl (Nat.le_of_ble_eq_true rfl) ⟨Nat.zero_le _, Nat.zero_le _⟩ d_R_constant_4 ?_
  refine x_istore (pc := 7) K (lv' := [(5, .int (vCl M.1 b t p)), (0, .ref (w.2.2 + 278)), (1, .int b), (2, .int t), (3, .int p), (4, .int v)]) d_R_constant_7 (by decide) rfl ?_
  refine x_iload (pc := 9) K 0 d_R_constant_9 rfl ?_
  refine x_if_lt (pc := 11) K (tgt := 24) d_R_constant_11 (by decide) (fun c11 => ?_) (fun c11 => ?_)
  · skip
    refine x_iconst (pc := 24) K (v := (-1)) d_R_constant_24 (by decide) ?_
    have hno : ¬ yRC M.1 b t p := fun q => q.1 c11
    exact x_iret (pc := 25) K (by rw [if_neg hno]) (by rw [if_neg hno]) d_R_constant_25
  · skip
    obtain ⟨hy9, hv9, hp9, hq9, hb2, ht12⟩ := vCl_in hc c11
    have h89 := (hc _ (show 12 * ix b + ix t < 24 by omega)).2.2
    refine x_aload_n (pc := 14) K 1 d_R_constant_14 rfl ?_
    refine x_getr (pc := 15) K (n := 278) (n' := 286) (k := 7) (zlt shR) shR rfl hR.r286 rfl (by decide) (fun _ q => zmem (uw_R _ q)) (zmem lk_R_32) d_R_constant_15 ?_
    refine x_iload (pc := 18) K 0 d_R_constant_18 rfl ?_
    refine x_iald (pc := 20) K (n := 286) (j := 8 * (12 * ix b + ix t) + ix p) hv9 (by omega) (zlt sh286) sh286 rfl (by decide) d_R_constant_20 ?_
    refine x_if_eq (pc := 21) K (tgt := 26) d_R_constant_21 (by decide) (fun c21 => ?_) (fun c21 => ?_)
    · skip
      refine x_aload_n (pc := 26) K 1 d_R_constant_26 rfl ?_
      refine x_getr (pc := 27) K (n := 278) (n' := 289) (k := 10) (zlt shR) shR rfl hR.r289 rfl (by decide) (fun _ q => zmem (uw_R _ q)) (zmem lk_R_41) d_R_constant_27 ?_
      refine x_iload (pc := 30) K 0 d_R_constant_30 rfl ?_
      refine x_zald (pc := 32) K (n := 289) (j := 8 * (12 * ix b + ix t) + ix p) hv9 (by omega) (zlt sh289) sh289 rfl (by decide) d_R_constant_32 ?_
      refine x_if_eq (pc := 33) K (tgt := 40) d_R_constant_33 (by decide) (fun c33 => ?_) (fun c33 => ?_)
      · skip
        refine x_iconst (pc := 40) K (v := 0) d_R_constant_40 (by decide) ?_
        refine x_istore (pc := 41) K (lv' := [(6, .int 0), (5, .int (vCl M.1 b t p)), (0, .ref (w.2.2 + 278)), (1, .int b), (2, .int t), (3, .int p), (4, .int v)]) d_R_constant_41 (by decide) rfl ?_
        refine x_aload_n (pc := 43) K 2 d_R_constant_43 rfl ?_
        refine x_getr (pc := 44) K (n := 278) (n' := 289) (k := 10) (zlt shR) shR rfl hR.r289 rfl (by decide) (fun _ q => zmem (uw_R _ q)) (zmem lk_R_41) d_R_constant_44 ?_
        refine x_iload (pc := 47) K 1 d_R_constant_47 rfl ?_
        refine x_iconst (pc := 49) K (v := 1) d_R_constant_49 (by decide) ?_
        refine x_zast (pc := 50) K (n := 289) (j := 8 * (12 * ix b + ix t) + ix p) (x := 1) (Or.inr rfl) hv9 (by omega) (zlt sh289) sh289 rfl (by decide) d_R_constant_50 ?_
        refine x_aload_n (pc := 51) K 2 d_R_constant_51 rfl ?_
        refine x_getr (pc := 52) K (n := 278) (n' := 290) (k := 11) (zlt shR) shR rfl hR.r290 rfl (by decide) (fun _ q => zmem (uw_R _ q)) (zmem lk_R_44) d_R_constant_52 ?_
        refine x_iload (pc := 55) K 1 d_R_constant_55 rfl ?_
        refine x_iload (pc := 57) K 6 d_R_constant_57 rfl ?_
        refine x_iast (pc := 59) K (n := 290) (j := 8 * (12 * ix b + ix t) + ix p) (x := v) hv9 (by omega) (zlt sh290) sh290 rfl (by decide) d_R_constant_59 ?_
        refine x_iload (pc := 60) K 0 d_R_constant_60 rfl ?_
        have hyes : yRC M.1 b t p := ⟨c11, c21⟩
        exact x_iret (pc := 62) K (by rw [if_pos hyes, if_pos c33]) (by rw [if_pos hyes, xRC]) d_R_constant_62
      · skip
        refine x_iconst (pc := 36) K (v := 1) d_R_constant_36 (by decide) ?_
        refine x_goto (pc := 37) K (tgt := 41) d_R_constant_37 (by decide) ?_
        refine x_istore (pc := 41) K (lv' := [(6, .int 1), (5, .int (vCl M.1 b t p)), (0, .ref (w.2.2 + 278)), (1, .int b), (2, .int t), (3, .int p), (4, .int v)]) d_R_constant_41 (by decide) rfl ?_
        refine x_aload_n (pc := 43) K 2 d_R_constant_43 rfl ?_
        refine x_getr (pc := 44) K (n := 278) (n' := 289) (k := 10) (zlt shR) shR rfl hR.r289 rfl (by decide) (fun _ q => zmem (uw_R _ q)) (zmem lk_R_41) d_R_constant_44 ?_
        refine x_iload (pc := 47) K 1 d_R_constant_47 rfl ?_
        refine x_iconst (pc := 49) K (v := 1) d_R_constant_49 (by decide) ?_
        refine x_zast (pc := 50) K (n := 289) (j := 8 * (12 * ix b + ix t) + ix p) (x := 1) (Or.inr rfl) hv9 (by omega) (zlt sh289) sh289 rfl (by decide) d_R_constant_50 ?_
        refine x_aload_n (pc := 51) K 2 d_R_constant_51 rfl ?_
        refine x_getr (pc := 52) K (n := 278) (n' := 290) (k := 11) (zlt shR) shR rfl hR.r290 rfl (by decide) (fun _ q => zmem (uw_R _ q)) (zmem lk_R_44) d_R_constant_52 ?_
        refine x_iload (pc := 55) K 1 d_R_constant_55 rfl ?_
        refine x_iload (pc := 57) K 6 d_R_constant_57 rfl ?_
        refine x_iast (pc := 59) K (n := 290) (j := 8 * (12 * ix b + ix t) + ix p) (x := v) hv9 (by omega) (zlt sh290) sh290 rfl (by decide) d_R_constant_59 ?_
        refine x_iload (pc := 60) K 0 d_R_constant_60 rfl ?_
        have hyes : yRC M.1 b t p := ⟨c11, c21⟩
        exact x_iret (pc := 62) K (by rw [if_pos hyes, if_neg c33]) (by rw [if_pos hyes, xRC]) d_R_constant_62
    · skip
      refine x_iconst (pc := 24) K (v := (-1)) d_R_constant_24 (by decide) ?_
      have hno : ¬ yRC M.1 b t p := fun q => c21 q.2
      exact x_iret (pc := 25) K (by rw [if_neg hno]) (by rw [if_neg hno]) d_R_constant_25
def cc1 (M : fl_M) (n f g : Nat) : fl_M := wI M n g (M.1 n f)
def cCp (M : fl_M) (f g : Nat) : fl_M := cc1 (cc1 (cc1 (cc1 (cc1 M 286 f g) 287 f g) 288 f g) 289 f g) 290 f g
theorem cCp_rd (M : fl_M) (f g a k : Nat) : (cCp M f g).1 a k = if 286 ≤ a ∧ a ≤ 290 ∧ k = g then M.1 a f else M.1 a k := by
  simp only [cCp, cc1, wI, fl_u]
  by_cases hk : k = g
  · subst hk
    by_cases h : 286 ≤ a ∧ a ≤ 290
    · rcases (show a = 286 ∨ a = 287 ∨ a = 288 ∨ a = 289 ∨ a = 290 by omega) with rfl | rfl | rfl | rfl | rfl <;> simp
    · have h1 : a ≠ 286 := by omega
      have h2 : a ≠ 287 := by omega
      have h3 : a ≠ 288 := by omega
      have h4 : a ≠ 289 := by omega
      have h5 : a ≠ 290 := by omega
      simp [h1, h2, h3, h4, h5]
      omega
  · simp [hk]
def zFx (μ : Nat → Nat → Int32) : Prop := ∀ c, c < 192 → isZ (μ 289 c)
theorem zFx_cp {M : fl_M} {f g : Nat} (h : zFx M.1) (hf : f < 192) : zFx (cCp M f g).1 := by
  intro c hc
  rw [cCp_rd]
  split
  · exact h f hf
  · exact h c hc
set_option maxHeartbeats 4000000 in
set_option maxRecDepth 100000 in
theorem c_R_copyCell (l : Launch) (w : fl_W) (M : fl_M) (o : Nat) (hR : zRf o M.2) (hz : zFx M.1) (f g : Nat) (hf : f < 192) (hg : g < 192) : CT l y_R_copyCell w_R_copyCell rm_R_copyCell w zN [.ref (w.2.2 + 278), .int (nI f), .int (nI g)] M none (cCp M f g) := by
  refine CT.of (cc := b_R_copyCell) (own := "CompatibilityJudgeModel") (by decide) rfl rfl (Nat.le_of_ble_eq_true rfl) ?_
  intro p9 e9 s9 m9 ag9 bl9 mt9 c9 K
  show XW p9 l e9 (rm_R_copyCell) s9 m9 ag9 bl9 mt9 c9 3 0 0 (MQ bl9 (CQ w zN none (cCp M f g)) ag9 s9 0 0 (fun q : Nat => w.2.2 ≤ q)) w zN M 0 [(0, .ref (w.2.2 + 278)), (1, .int (nI f)), (2, .int (nI g))] []
  refine x_aload_n (pc := 0) K 0 d_R_copyCell_0 rfl ?_
  refine x_getr (pc := 1) K (n := 278) (n' := 286) (k := 7) (zlt shR) shR rfl hR.r286 rfl (by decide) (fun _ q => zmem (uw_R _ q)) (zmem lk_R_32) d_R_copyCell_1 ?_
  refine x_iload_n (pc := 4) K 2 d_R_copyCell_4 rfl ?_
  refine x_aload_n (pc := 5) K 0 d_R_copyCell_5 rfl ?_
  refine x_getr (pc := 6) K (n := 278) (n' := 286) (k := 7) (zlt shR) shR rfl hR.r286 rfl (by decide) (fun _ q => zmem (uw_R _ q)) (zmem lk_R_32) d_R_copyCell_6 ?_
  refine x_iload_n (pc := 9) K 1 d_R_copyCell_9 rfl ?_
  refine x_iald (pc := 10) K (n := 286) (j := f) rfl (by omega) (zlt sh286) sh286 rfl (by decide) d_R_copyCell_10 ?_
  refine x_iast (pc := 11) K (n := 286) (j := g) (x := M.1 286 f) rfl (by omega) (zlt sh286) sh286 rfl (by decide) d_R_copyCell_11 ?_
  refine x_aload_n (pc := 12) K 0 d_R_copyCell_12 rfl ?_
  refine x_getr (pc := 13) K (n := 278) (n' := 287) (k := 8) (zlt shR) shR rfl hR.r287 rfl (by decide) (fun _ q => zmem (uw_R _ q)) (zmem lk_R_35) d_R_copyCell_13 ?_
  refine x_iload_n (pc := 16) K 2 d_R_copyCell_16 rfl ?_
  refine x_aload_n (pc := 17) K 0 d_R_copyCell_17 rfl ?_
  refine x_getr (pc := 18) K (n := 278) (n' := 287) (k := 8) (zlt shR) shR rfl hR.r287 rfl (by decide) (fun _ q => zmem (uw_R _ q)) (zmem lk_R_35) d_R_copyCell_18 ?_
  refine x_iload_n (pc := 21) K 1 d_R_copyCell_21 rfl ?_
  refine x_iald (pc := 22) K (n := 287) (j := f) rfl (by omega) (zlt sh287) sh287 rfl (by decide) d_R_copyCell_22 ?_
  refine x_iast (pc := 23) K (n := 287) (j := g) (x := (wI M 286 g (M.1 286 f)).1 287 f) rfl (by omega) (zlt sh287) sh287 rfl (by decide) d_R_copyCell_23 ?_
  refine x_aload_n (pc := 24) K 0 d_R_copyCell_24 rfl ?_
  refine x_getr (pc := 25) K (n := 278) (n' := 288) (k := 9) (zlt shR) shR rfl hR.r288 rfl (by decide) (fun _ q => zmem (uw_R _ q)) (zmem lk_R_38) d_R_copyCell_25 ?_
  refine x_iload_n (pc := 28) K 2 d_R_copyCell_28 rfl ?_
  refine x_aload_n (pc := 29) K 0 d_R_copyCell_29 rfl ?_
  refine x_getr (pc := 30) K (n := 278) (n' := 288) (k := 9) (zlt shR) shR rfl hR.r288 rfl (by decide) (fun _ q => zmem (uw_R _ q)) (zmem lk_R_38) d_R_copyCell_30 ?_
  refine x_iload_n (pc := 33) K 1 d_R_copyCell_33 rfl ?_
  refine x_iald (pc := 34) K (n := 288) (j := f) rfl (by omega) (zlt sh288) sh288 rfl (by decide) d_R_copyCell_34 ?_
  refine x_iast (pc := 35) K (n := 288) (j := g) (x := (wI (wI M 286 g (M.1 286 f)) 287 g ((wI M 286 g (M.1 286 f)).1 287 f)).1 288 f) rfl (by omega) (zlt sh288) sh288 rfl (by decide) d_R_copyCell_35 ?_
  refine x_aload_n (pc := 36) K 0 d_R_copyCell_36 rfl ?_
  refine x_getr (pc := 37) K (n := 278) (n' := 289) (k := 10) (zlt shR) shR rfl hR.r289 rfl (by decide) (fun _ q => zmem (uw_R _ q)) (zmem lk_R_41) d_R_copyCell_37 ?_
  refine x_iload_n (pc := 40) K 2 d_R_copyCell_40 rfl ?_
  refine x_aload_n (pc := 41) K 0 d_R_copyCell_41 rfl ?_
  refine x_getr (pc := 42) K (n := 278) (n' := 289) (k := 10) (zlt shR) shR rfl hR.r289 rfl (by decide) (fun _ q => zmem (uw_R _ q)) (zmem lk_R_41) d_R_copyCell_42 ?_
  refine x_iload_n (pc := 45) K 1 d_R_copyCell_45 rfl ?_
  refine x_zald (pc := 46) K (n := 289) (j := f) rfl (by omega) (zlt sh289) sh289 rfl (by decide) d_R_copyCell_46 ?_
  refine x_zast (pc := 47) K (n := 289) (j := g) (x := (wI (wI (wI M 286 g (M.1 286 f)) 287 g ((wI M 286 g (M.1 286 f)).1 287 f)) 288 g ((wI (wI M 286 g (M.1 286 f)) 287 g ((wI M 286 g (M.1 286 f)).1 287 f)).1 288 f)).1 289 f) (show isZ ((cc1 (cc1 (cc1 M 286 f g) 287 f g) 288 f g).1 289 f) from by simpa [cc1, wI, fl_u] using hz f hf) rfl (by omega) (zlt sh289) sh289 rfl (by decide) d_R_copyCell_47 ?_
  refine x_aload_n (pc := 48) K 0 d_R_copyCell_48 rfl ?_
  refine x_getr (pc := 49) K (n := 278) (n' := 290) (k := 11) (zlt shR) shR rfl hR.r290 rfl (by decide) (fun _ q => zmem (uw_R _ q)) (zmem lk_R_44) d_R_copyCell_49 ?_
  refine x_iload_n (pc := 52) K 2 d_R_copyCell_52 rfl ?_
  refine x_aload_n (pc := 53) K 0 d_R_copyCell_53 rfl ?_
  refine x_getr (pc := 54) K (n := 278) (n' := 290) (k := 11) (zlt shR) shR rfl hR.r290 rfl (by decide) (fun _ q => zmem (uw_R _ q)) (zmem lk_R_44) d_R_copyCell_54 ?_
  refine x_iload_n (pc := 57) K 1 d_R_copyCell_57 rfl ?_
  refine x_iald (pc := 58) K (n := 290) (j := f) rfl (by omega) (zlt sh290) sh290 rfl (by decide) d_R_copyCell_58 ?_
  refine x_iast (pc := 59) K (n := 290) (j := g) (x := (wI (wI (wI (wI M 286 g (M.1 286 f)) 287 g ((wI M 286 g (M.1 286 f)).1 287 f)) 288 g ((wI (wI M 286 g (M.1 286 f)) 287 g ((wI M 286 g (M.1 286 f)).1 287 f)).1 288 f)) 289 g ((wI (wI (wI M 286 g (M.1 286 f)) 287 g ((wI M 286 g (M.1 286 f)).1 287 f)) 288 g ((wI (wI M 286 g (M.1 286 f)) 287 g ((wI M 286 g (M.1 286 f)).1 287 f)).1 288 f)).1 289 f)).1 290 f) rfl (by omega) (zlt sh290) sh290 rfl (by decide) d_R_copyCell_59 ?_
  exact x_vret (pc := 60) K rfl (rfl) d_R_copyCell_60
/-- cells from k on move up by one -/
def rko (M : fl_M) : Nat → Nat → fl_M
  | _, 0 => M
  | k, j + 1 => rko (cCp M (k + 1) k) (k + 1) j
theorem rko_2 : ∀ (j k : Nat) (M : fl_M), (rko M k j).2 = M.2 := by
  intro j
  induction j with
  | zero => intro k M; rfl
  | succ j ih => intro k M; rw [rko, ih]; rfl
def xRD (M : fl_M) (b t p : Int32) : fl_M := rko (wI M 285 (12 * ix b + ix t) (nI (qM M.1 (12 * ix b + ix t) - 1))) (8 * (12 * ix b + ix t) + ix p) (qM M.1 (12 * ix b + ix t) - 1 - ix p)
set_option maxHeartbeats 4000000 in
set_option maxRecDepth 100000 in
theorem lp_R_drop (l : Launch) (w : fl_W) (M : fl_M) (o : Nat) (b t p x : Int32) (r : Nat) (hr : r < 24) (m : Nat) (h8 : m ≤ 7) (Y : fl_M) {p9 : Program} {e9 : Env} {s9 : State} {m9 : MethodId} {ag9 : Array Value} {bl9 : List Frame} {mt9 : Method} {c9 : Code} (K : XC p9 s9 m9 ag9 mt9 c9 b_R_drop 7 (some .int) w_R_drop "CompatibilityJudgeModel" w) : ∀ (k : Nat) (i : Nat) (X : fl_M), i ≤ m → m + 1 ≤ i + k → zRf o X.2 → X.1 285 r = nI m → zFx X.1 → rko X (8 * r + i) (m - i) = Y → XW p9 l e9 (rm_R_drop) s9 m9 ag9 bl9 mt9 c9 7 0 0 (MQ bl9 (CQ w zN (some (.int (nI m))) Y) ag9 s9 0 0 (fun q : Nat => w.2.2 ≤ q)) w zN X 38 [(6, .int (nI (8 * r + i))), (5, .int (nI r)), (4, .int x), (0, .ref (w.2.2 + 278)), (1, .int b), (2, .int t), (3, .int p)] [] := by
  intro k
  induction k with
  | zero =>
    intro i X hi hk
    exact absurd hk (by omega)
  | succ k ih =>
    intro i X hi hk hR hm hz hf
    refine x_iload (pc := 38) K 0 d_R_drop_38 rfl ?_
    refine x_bipush (pc := 40) K (v := nI 8) d_R_drop_40 (by decide) ?_
    refine x_iload (pc := 42) K 1 d_R_drop_42 rfl ?_
    refine x_imul (pc := 44) K d_R_drop_44 ?_
    refine x_eqi (y := nI (8 * r)) (pk_mul _ _) ?_
    refine x_aload_n (pc := 45) K 3 d_R_drop_45 rfl ?_
    refine x_getr (pc := 46) K (n := 278) (n' := 285) (k := 6) (zlt shR) shR rfl hR.r285 rfl (by decide) (fun _ q => zmem (uw_R _ q)) (zmem lk_R_29) d_R_drop_46 ?_
    refine x_iload (pc := 49) K 1 d_R_drop_49 rfl ?_
    refine x_iald (pc := 51) K (n := 285) (j := r) rfl (by omega) (zlt sh285) sh285 rfl (by decide) d_R_drop_51 ?_
    refine x_eqi (y := nI m) (hm) ?_
    refine x_iadd (pc := 52) K d_R_drop_52 ?_
    refine x_eqi (y := nI ((8 * r) + m)) (nI_add _ _) ?_
    refine x_icmp_ge (pc := 53) K (tgt := 72) d_R_drop_53 (by decide) (fun c53 => ?_) (fun c53 => ?_)
    · skip
      have hic : i = m := by have := (nI_leI (by omega) (by omega)).mp c53; omega
      rw [hic, Nat.sub_self] at hf
      refine x_aload_n (pc := 72) K 3 d_R_drop_72 rfl ?_
      refine x_getr (pc := 73) K (n := 278) (n' := 285) (k := 6) (zlt shR) shR rfl hR.r285 rfl (by decide) (fun _ q => zmem (uw_R _ q)) (zmem lk_R_29) d_R_drop_73 ?_
      refine x_iload (pc := 76) K 1 d_R_drop_76 rfl ?_
      refine x_iald (pc := 78) K (n := 285) (j := r) rfl (by omega) (zlt sh285) sh285 rfl (by decide) d_R_drop_78 ?_
      refine x_eqi (y := nI m) (hm) ?_
      exact x_iret (pc := 79) K (rfl) (by subst hf; rfl) d_R_drop_79
    · skip
      have hic : i < m := by have := Nat.not_le.mp (fun q => c53 (nI_le q (by omega))); omega
      rw [show m - i = (m - (i + 1)) + 1 by omega, rko] at hf
      refine x_aload_n (pc := 56) K 3 d_R_drop_56 rfl ?_
      refine x_iload (pc := 57) K 0 d_R_drop_57 rfl ?_
      refine x_iconst (pc := 59) K (v := nI 1) d_R_drop_59 (by decide) ?_
      refine x_iadd (pc := 60) K d_R_drop_60 ?_
      refine x_eqi (y := nI ((8 * r + i) + 1)) (nI_add _ _) ?_
      refine x_iload (pc := 61) K 0 d_R_drop_61 rfl ?_
      refine x_callVv (pc := 63) K (As := [.int (nI ((8 * r + i) + 1)), .int (nI (8 * r + i))]) (rest := []) (c_R_copyCell l w X o hR hz ((8 * r + i) + 1) (8 * r + i) (by omega) (by omega)) (zcwV K.ts lk_R_83 im_R_copyCell se_R_copyCell ii_R co_R_copyCell pd_R_copyCell ⟨rfl, rfl⟩ ⟨by decide, by decide⟩) (zlt shR) shR rfl rfl rfl (Nat.le_of_ble_eq_true rfl) ⟨Nat.zero_le _, Nat.zero_le _⟩ d_R_drop_63 ?_
      refine x_iinc (pc := 66) K (v := nI (8 * r + i + 1)) (lv' := [(6, .int (nI (8 * r + i + 1))), (5, .int (nI r)), (4, .int x), (0, .ref (w.2.2 + 278)), (1, .int b), (2, .int t), (3, .int p)]) 0 d_R_drop_66 rfl (nI_1 _) (by decide) rfl ?_
      refine x_goto (pc := 69) K (tgt := 38) d_R_drop_69 (by decide) ?_
      refine x_lv [0, 1, 2, 3, 4, 5, 6] rfl ?_
      exact ih (i + 1) _ (by omega) (by omega) hR (by rw [cCp_rd, if_neg (by omega)]; exact hm) (zFx_cp hz (by omega)) hf
set_option maxHeartbeats 4000000 in
set_option maxRecDepth 100000 in
theorem c_R_drop (l : Launch) (w : fl_W) (M : fl_M) (o : Nat) (hR : zRf o M.2) (hc : ∀ r, r < 24 → rC M.1 r) (hz : zFx M.1) (b t p : Int32) : CT l y_R_drop w_R_drop rm_R_drop w zN [.ref (w.2.2 + 278), .int b, .int t, .int p] M (some (.int (if ¬ vCl M.1 b t p < 0 then nI (qM M.1 (12 * ix b + ix t) - 1) else -1))) (if ¬ vCl M.1 b t p < 0 then xRD M b t p else M) := by
  refine CT.of (cc := b_R_drop) (own := "CompatibilityJudgeModel") (by decide) rfl rfl (Nat.le_of_ble_eq_true rfl) ?_
  intro p9 e9 s9 m9 ag9 bl9 mt9 c9 K
  show XW p9 l e9 (rm_R_drop) s9 m9 ag9 bl9 mt9 c9 7 0 0 (MQ bl9 (CQ w zN (some (.int (if ¬ vCl M.1 b t p < 0 then nI (qM M.1 (12 * ix b + ix t) - 1) else -1))) (if ¬ vCl M.1 b t p < 0 then xRD M b t p else M)) ag9 s9 0 0 (fun q : Nat => w.2.2 ≤ q)) w zN M 0 [(0, .ref (w.2.2 + 278)), (1, .int b), (2, .int t), (3, .int p)] []
  refine x_aload_n (pc := 0) K 0 d_R_drop_0 rfl ?_
  refine x_iload_n (pc := 1) K 1 d_R_drop_1 rfl ?_
  refine x_iload_n (pc := 2) K 2 d_R_drop_2 rfl ?_
  refine x_iload_n (pc := 3) K 3 d_R_drop_3 rfl ?_
  refine x_callV (pc := 4) K (As := [.int b, .int t, .int p]) (rest := []) (c_R_cell l w M o hR b t p) (zcwV K.ts lk_R_80 im_R_cell se_R_cell ii_R co_R_cell pd_R_cell ⟨rfl, rfl⟩ ⟨by decide, by decide⟩) (zlt shR) shR rfl rfl rfl (Nat.le_of_ble_eq_true rfl) ⟨Nat.zero_le _, Nat.zero_le _⟩ d_R_drop_4 ?_
  refine x_istore (pc := 7) K (lv' := [(4, .int (vCl M.1 b t p)), (0, .ref (w.2.2 + 278)), (1, .int b), (2, .int t), (3, .int p)]) d_R_drop_7 (by decide) rfl ?_
  refine x_iload (pc := 9) K 0 d_R_drop_9 rfl ?_
  refine x_if_ge (pc := 11) K (tgt := 16) d_R_drop_11 (by decide) (fun c11 => ?_) (fun c11 => ?_)
  · skip
    have c11n := c11
    have c11 : ¬ vCl M.1 b t p < 0 := Int32.not_lt.mpr c11n
    obtain ⟨hy9, hv9, hp9, hq9, hb2, ht12⟩ := vCl_in hc c11
    have h89 := (hc _ (show 12 * ix b + ix t < 24 by omega)).2.2
    refine x_iload (pc := 16) K 0 d_R_drop_16 rfl ?_
    refine x_eqi (y := nI (8 * (12 * ix b + ix t) + ix p)) (hv9) ?_
    refine x_bipush (pc := 18) K (v := nI 8) d_R_drop_18 (by decide) ?_
    refine x_idiv (pc := 20) K d_R_drop_20 (by decide) ?_
    refine x_eqi (y := nI (12 * ix b + ix t)) (by rw [pk_div (by omega) (by omega) (by omega), show (8 * (12 * ix b + ix t) + ix p) / 8 = 12 * ix b + ix t by omega]) ?_
    refine x_istore (pc := 21) K (lv' := [(5, .int (nI (12 * ix b + ix t))), (4, .int (vCl M.1 b t p)), (0, .ref (w.2.2 + 278)), (1, .int b), (2, .int t), (3, .int p)]) d_R_drop_21 (by decide) rfl ?_
    refine x_aload_n (pc := 23) K 2 d_R_drop_23 rfl ?_
    refine x_getr (pc := 24) K (n := 278) (n' := 285) (k := 6) (zlt shR) shR rfl hR.r285 rfl (by decide) (fun _ q => zmem (uw_R _ q)) (zmem lk_R_29) d_R_drop_24 ?_
    refine x_iload (pc := 27) K 0 d_R_drop_27 rfl ?_
    refine x_dup2 (pc := 29) K d_R_drop_29 rfl rfl ?_
    refine x_iald (pc := 30) K (n := 285) (j := 12 * ix b + ix t) rfl (by omega) (zlt sh285) sh285 rfl (by decide) d_R_drop_30 ?_
    refine x_eqi (y := nI (qM M.1 (12 * ix b + ix t))) ((hc (12 * ix b + ix t) (by omega)).2.1) ?_
    refine x_iconst (pc := 31) K (v := 1) d_R_drop_31 (by decide) ?_
    refine x_isub (pc := 32) K d_R_drop_32 ?_
    refine x_eqi (y := nI (qM M.1 (12 * ix b + ix t) - 1)) (by rw [show (1 : Int32) = nI 1 from by decide]; exact pk_sub (by omega)) ?_
    refine x_iast (pc := 33) K (n := 285) (j := 12 * ix b + ix t) (x := nI (qM M.1 (12 * ix b + ix t) - 1)) rfl (by omega) (zlt sh285) sh285 rfl (by decide) d_R_drop_33 ?_
    refine x_iload (pc := 34) K 1 d_R_drop_34 rfl ?_
    refine x_eqi (y := nI (8 * (12 * ix b + ix t) + ix p)) (hv9) ?_
    refine x_istore (pc := 36) K (lv' := [(6, .int (nI (8 * (12 * ix b + ix t) + ix p))), (5, .int (nI (12 * ix b + ix t))), (4, .int (vCl M.1 b t p)), (0, .ref (w.2.2 + 278)), (1, .int b), (2, .int t), (3, .int p)]) d_R_drop_36 (by decide) rfl ?_
    rw [if_pos c11, if_pos c11]
    refine x_lv [0, 1, 2, 3, 4, 5, 6] rfl ?_
    exact lp_R_drop l w M o b t p _ (12 * ix b + ix t) (by omega) (qM M.1 (12 * ix b + ix t) - 1) (by omega) _ K (qM M.1 (12 * ix b + ix t) + 1) (ix p) _ (by omega) (by omega) hR rdI_eq (fun c hc9 => by rw [rdI_ne (Or.inl (by decide))]; exact hz c hc9) (by unfold xRD; rfl)
  · skip
    have c11 : ¬ ¬ vCl M.1 b t p < 0 := fun z => c11 (Int32.not_lt.mp z)
    refine x_iconst (pc := 14) K (v := (-1)) d_R_drop_14 (by decide) ?_
    exact x_iret (pc := 15) K (by rw [if_neg c11]) (by rw [if_neg c11]) d_R_drop_15
def cHd (M : fl_M) (f g : Nat) : fl_M := cc1 (cc1 (cc1 (cc1 (cc1 (cc1 M 279 f g) 280 f g) 281 f g) 282 f g) 283 f g) 285 f g
theorem cHd_rd (M : fl_M) (f g a k : Nat) : (cHd M f g).1 a k = if (279 ≤ a ∧ a ≤ 283 ∨ a = 285) ∧ k = g then M.1 a f else M.1 a k := by
  simp only [cHd, cc1, wI, fl_u]
  by_cases hk : k = g
  · subst hk
    by_cases h : 279 ≤ a ∧ a ≤ 283 ∨ a = 285
    · rcases (show a = 279 ∨ a = 280 ∨ a = 281 ∨ a = 282 ∨ a = 283 ∨ a = 285 by omega) with rfl | rfl | rfl | rfl | rfl | rfl <;> simp
    · have h1 : a ≠ 279 := by omega
      have h2 : a ≠ 280 := by omega
      have h3 : a ≠ 281 := by omega
      have h4 : a ≠ 282 := by omega
      have h5 : a ≠ 283 := by omega
      have h6 : a ≠ 285 := by omega
      simp [h1, h2, h3, h4, h5, h6]
      omega
  · simp [hk]
def zDf (μ : Nat → Nat → Int32) : Prop := ∀ c, c < 24 → isZ (μ 279 c)
set_option maxHeartbeats 4000000 in
set_option maxRecDepth 100000 in
theorem c_R_copyHead (l : Launch) (w : fl_W) (M : fl_M) (o : Nat) (hR : zRf o M.2) (hz : zDf M.1) (f g : Nat) (hf : f < 24) (hg : g < 24)  : CT l y_R_copyHead w_R_copyHead rm_R_copyHead w zN [.ref (w.2.2 + 278), .int (nI f), .int (nI g)] M none (cHd M f g) := by
  refine CT.of (cc := b_R_copyHead) (own := "CompatibilityJudgeModel") (by decide) rfl rfl (Nat.le_of_ble_eq_true rfl) ?_
  intro p9 e9 s9 m9 ag9 bl9 mt9 c9 K
  show XW p9 l e9 (rm_R_copyHead) s9 m9 ag9 bl9 mt9 c9 3 0 0 (MQ bl9 (CQ w zN none (cHd M f g)) ag9 s9 0 0 (fun q : Nat => w.2.2 ≤ q)) w zN M 0 [(0, .ref (w.2.2 + 278)), (1, .int (nI f)), (2, .int (nI g))] []
  refine x_aload_n (pc := 0) K 0 d_R_copyHead_0 rfl ?_
  refine x_getr (pc := 1) K (n := 278) (n' := 279) (k := 0) (zlt shR) shR rfl hR.r279 rfl (by decide) (fun _ q => zmem (uw_R _ q)) (zmem lk_R_7) d_R_copyHead_1 ?_
  refine x_iload_n (pc := 4) K 2 d_R_copyHead_4 rfl ?_
  refine x_aload_n (pc := 5) K 0 d_R_copyHead_5 rfl ?_
  refine x_getr (pc := 6) K (n := 278) (n' := 279) (k := 0) (zlt shR) shR rfl hR.r279 rfl (by decide) (fun _ q => zmem (uw_R _ q)) (zmem lk_R_7) d_R_copyHead_6 ?_
  refine x_iload_n (pc := 9) K 1 d_R_copyHead_9 rfl ?_
  refine x_zald (pc := 10) K (n := 279) (j := f) rfl (by omega) (zlt sh279) sh279 rfl (by decide) d_R_copyHead_10 ?_
  refine x_zast (pc := 11) K (n := 279) (j := g) (x := M.1 279 f) (hz f hf) rfl (by omega) (zlt sh279) sh279 rfl (by decide) d_R_copyHead_11 ?_
  refine x_aload_n (pc := 12) K 0 d_R_copyHead_12 rfl ?_
  refine x_getr (pc := 13) K (n := 278) (n' := 280) (k := 1) (zlt shR) shR rfl hR.r280 rfl (by decide) (fun _ q => zmem (uw_R _ q)) (zmem lk_R_13) d_R_copyHead_13 ?_
  refine x_iload_n (pc := 16) K 2 d_R_copyHead_16 rfl ?_
  refine x_aload_n (pc := 17) K 0 d_R_copyHead_17 rfl ?_
  refine x_getr (pc := 18) K (n := 278) (n' := 280) (k := 1) (zlt shR) shR rfl hR.r280 rfl (by decide) (fun _ q => zmem (uw_R _ q)) (zmem lk_R_13) d_R_copyHead_18 ?_
  refine x_iload_n (pc := 21) K 1 d_R_copyHead_21 rfl ?_
  refine x_iald (pc := 22) K (n := 280) (j := f) rfl (by omega) (zlt sh280) sh280 rfl (by decide) d_R_copyHead_22 ?_
  refine x_iast (pc := 23) K (n := 280) (j := g) (x := (wI M 279 g (M.1 279 f)).1 280 f) rfl (by omega) (zlt sh280) sh280 rfl (by decide) d_R_copyHead_23 ?_
  refine x_aload_n (pc := 24) K 0 d_R_copyHead_24 rfl ?_
  refine x_getr (pc := 25) K (n := 278) (n' := 281) (k := 2) (zlt shR) shR rfl hR.r281 rfl (by decide) (fun _ q => zmem (uw_R _ q)) (zmem lk_R_17) d_R_copyHead_25 ?_
  refine x_iload_n (pc := 28) K 2 d_R_copyHead_28 rfl ?_
  refine x_aload_n (pc := 29) K 0 d_R_copyHead_29 rfl ?_
  refine x_getr (pc := 30) K (n := 278) (n' := 281) (k := 2) (zlt shR) shR rfl hR.r281 rfl (by decide) (fun _ q => zmem (uw_R _ q)) (zmem lk_R_17) d_R_copyHead_30 ?_
  refine x_iload_n (pc := 33) K 1 d_R_copyHead_33 rfl ?_
  refine x_iald (pc := 34) K (n := 281) (j := f) rfl (by omega) (zlt sh281) sh281 rfl (by decide) d_R_copyHead_34 ?_
  refine x_iast (pc := 35) K (n := 281) (j := g) (x := (wI (wI M 279 g (M.1 279 f)) 280 g ((wI M 279 g (M.1 279 f)).1 280 f)).1 281 f) rfl (by omega) (zlt sh281) sh281 rfl (by decide) d_R_copyHead_35 ?_
  refine x_aload_n (pc := 36) K 0 d_R_copyHead_36 rfl ?_
  refine x_getr (pc := 37) K (n := 278) (n' := 282) (k := 3) (zlt shR) shR rfl hR.r282 rfl (by decide) (fun _ q => zmem (uw_R _ q)) (zmem lk_R_20) d_R_copyHead_37 ?_
  refine x_iload_n (pc := 40) K 2 d_R_copyHead_40 rfl ?_
  refine x_aload_n (pc := 41) K 0 d_R_copyHead_41 rfl ?_
  refine x_getr (pc := 42) K (n := 278) (n' := 282) (k := 3) (zlt shR) shR rfl hR.r282 rfl (by decide) (fun _ q => zmem (uw_R _ q)) (zmem lk_R_20) d_R_copyHead_42 ?_
  refine x_iload_n (pc := 45) K 1 d_R_copyHead_45 rfl ?_
  refine x_iald (pc := 46) K (n := 282) (j := f) rfl (by omega) (zlt sh282) sh282 rfl (by decide) d_R_copyHead_46 ?_
  refine x_iast (pc := 47) K (n := 282) (j := g) (x := (wI (wI (wI M 279 g (M.1 279 f)) 280 g ((wI M 279 g (M.1 279 f)).1 280 f)) 281 g ((wI (wI M 279 g (M.1 279 f)) 280 g ((wI M 279 g (M.1 279 f)).1 280 f)).1 281 f)).1 282 f) rfl (by omega) (zlt sh282) sh282 rfl (by decide) d_R_copyHead_47 ?_
  refine x_aload_n (pc := 48) K 0 d_R_copyHead_48 rfl ?_
  refine x_getr (pc := 49) K (n := 278) (n' := 283) (k := 4) (zlt shR) shR rfl hR.r283 rfl (by decide) (fun _ q => zmem (uw_R _ q)) (zmem lk_R_23) d_R_copyHead_49 ?_
  refine x_iload_n (pc := 52) K 2 d_R_copyHead_52 rfl ?_
  refine x_aload_n (pc := 53) K 0 d_R_copyHead_53 rfl ?_
  refine x_getr (pc := 54) K (n := 278) (n' := 283) (k := 4) (zlt shR) shR rfl hR.r283 rfl (by decide) (fun _ q => zmem (uw_R _ q)) (zmem lk_R_23) d_R_copyHead_54 ?_
  refine x_iload_n (pc := 57) K 1 d_R_copyHead_57 rfl ?_
  refine x_iald (pc := 58) K (n := 283) (j := f) rfl (by omega) (zlt sh283) sh283 rfl (by decide) d_R_copyHead_58 ?_
  refine x_iast (pc := 59) K (n := 283) (j := g) (x := (wI (wI (wI (wI M 279 g (M.1 279 f)) 280 g ((wI M 279 g (M.1 279 f)).1 280 f)) 281 g ((wI (wI M 279 g (M.1 279 f)) 280 g ((wI M 279 g (M.1 279 f)).1 280 f)).1 281 f)) 282 g ((wI (wI (wI M 279 g (M.1 279 f)) 280 g ((wI M 279 g (M.1 279 f)).1 280 f)) 281 g ((wI (wI M 279 g (M.1 279 f)) 280 g ((wI M 279 g (M.1 279 f)).1 280 f)).1 281 f)).1 282 f)).1 283 f) rfl (by omega) (zlt sh283) sh283 rfl (by decide) d_R_copyHead_59 ?_
  refine x_aload_n (pc := 60) K 0 d_R_copyHead_60 rfl ?_
  refine x_getr (pc := 61) K (n := 278) (n' := 285) (k := 6) (zlt shR) shR rfl hR.r285 rfl (by decide) (fun _ q => zmem (uw_R _ q)) (zmem lk_R_29) d_R_copyHead_61 ?_
  refine x_iload_n (pc := 64) K 2 d_R_copyHead_64 rfl ?_
  refine x_aload_n (pc := 65) K 0 d_R_copyHead_65 rfl ?_
  refine x_getr (pc := 66) K (n := 278) (n' := 285) (k := 6) (zlt shR) shR rfl hR.r285 rfl (by decide) (fun _ q => zmem (uw_R _ q)) (zmem lk_R_29) d_R_copyHead_66 ?_
  refine x_iload_n (pc := 69) K 1 d_R_copyHead_69 rfl ?_
  refine x_iald (pc := 70) K (n := 285) (j := f) rfl (by omega) (zlt sh285) sh285 rfl (by decide) d_R_copyHead_70 ?_
  refine x_iast (pc := 71) K (n := 285) (j := g) (x := (wI (wI (wI (wI (wI M 279 g (M.1 279 f)) 280 g ((wI M 279 g (M.1 279 f)).1 280 f)) 281 g ((wI (wI M 279 g (M.1 279 f)) 280 g ((wI M 279 g (M.1 279 f)).1 280 f)).1 281 f)) 282 g ((wI (wI (wI M 279 g (M.1 279 f)) 280 g ((wI M 279 g (M.1 279 f)).1 280 f)) 281 g ((wI (wI M 279 g (M.1 279 f)) 280 g ((wI M 279 g (M.1 279 f)).1 280 f)).1 281 f)).1 282 f)) 283 g ((wI (wI (wI (wI M 279 g (M.1 279 f)) 280 g ((wI M 279 g (M.1 279 f)).1 280 f)) 281 g ((wI (wI M 279 g (M.1 279 f)) 280 g ((wI M 279 g (M.1 279 f)).1 280 f)).1 281 f)) 282 g ((wI (wI (wI M 279 g (M.1 279 f)) 280 g ((wI M 279 g (M.1 279 f)).1 280 f)) 281 g ((wI (wI M 279 g (M.1 279 f)) 280 g ((wI M 279 g (M.1 279 f)).1 280 f)).1 281 f)).1 282 f)).1 283 f)).1 285 f) rfl (by omega) (zlt sh285) sh285 rfl (by decide) d_R_copyHead_71 ?_
  exact x_vret (pc := 72) K rfl (rfl) d_R_copyHead_72
def cr1 (M : fl_M) (f g : Nat) : Nat → Nat → fl_M
  | _, 0 => M
  | i, k + 1 => cr1 (wI M 284 (3 * g + i) (M.1 284 (3 * f + i))) f g (i + 1) k
def cr2 (M : fl_M) (f g : Nat) : Nat → Nat → fl_M
  | _, 0 => M
  | i, k + 1 => cr2 (cCp M (8 * f + i) (8 * g + i)) f g (i + 1) k
def cRw (M : fl_M) (f g : Nat) : fl_M := cr2 (cr1 (cHd M f g) f g 0 3) f g 0 8
theorem cr1_2 {f g : Nat} : ∀ (k i : Nat) (M : fl_M), (cr1 M f g i k).2 = M.2 := by
  intro k
  induction k with
  | zero => intro i M; rfl
  | succ k ih => intro i M; rw [cr1, ih]; rfl
theorem cr2_2 {f g : Nat} : ∀ (k i : Nat) (M : fl_M), (cr2 M f g i k).2 = M.2 := by
  intro k
  induction k with
  | zero => intro i M; rfl
  | succ k ih => intro i M; rw [cr2, ih]; rfl
theorem cr1_rd {f g a j : Nat} (h : a ≠ 284) : ∀ (k i : Nat) (M : fl_M), (cr1 M f g i k).1 a j = M.1 a j := by
  intro k
  induction k with
  | zero => intro i M; rfl
  | succ k ih => intro i M; rw [cr1, ih, rdI_ne (Or.inl h)]
set_option maxHeartbeats 4000000 in
set_option maxRecDepth 100000 in
theorem l2_R_copyRow (l : Launch) (w : fl_W) (M : fl_M) (o : Nat) (f g : Nat) (hf : f < 24) (hg : g < 24) (Y : fl_M) {p9 : Program} {e9 : Env} {s9 : State} {m9 : MethodId} {ag9 : Array Value} {bl9 : List Frame} {mt9 : Method} {c9 : Code} (K : XC p9 s9 m9 ag9 mt9 c9 b_R_copyRow 4 none w_R_copyRow "CompatibilityJudgeModel" w) : ∀ (k : Nat) (i : Nat) (X : fl_M), i ≤ 8 → 8 + 1 ≤ i + k → zRf o X.2 → zFx X.1 → cr2 X f g i (8 - i) = Y → XW p9 l e9 (rm_R_copyRow) s9 m9 ag9 bl9 mt9 c9 4 0 0 (MQ bl9 (CQ w zN none Y) ag9 s9 0 0 (fun q : Nat => w.2.2 ≤ q)) w zN X 107 [(3, .int (nI i)), (0, .ref (w.2.2 + 278)), (1, .int (nI f)), (2, .int (nI g))] [] := by
  intro k
  induction k with
  | zero =>
    intro i X hi hk
    exact absurd hk (by omega)
  | succ k ih =>
    intro i X hi hk hR hz hf9
    refine x_iload_n (pc := 107) K 0 d_R_copyRow_107 rfl ?_
    refine x_bipush (pc := 108) K (v := nI 8) d_R_copyRow_108 (by decide) ?_
    refine x_icmp_ge (pc := 110) K (tgt := 135) d_R_copyRow_110 (by decide) (fun c110 => ?_) (fun c110 => ?_)
    · skip
      have hic : i = 8 := by have := (nI_leI (a := 8) (by omega) (by omega)).mp c110; omega
      rw [hic, Nat.sub_self] at hf9
      exact x_vret (pc := 135) K rfl (by subst hf9; rfl) d_R_copyRow_135
    · skip
      have hic : i < 8 := Nat.not_le.mp (fun q => c110 (nI_le (a := 8) q (by omega)))
      rw [show 8 - i = (8 - (i + 1)) + 1 by omega, cr2] at hf9
      refine x_aload_n (pc := 113) K 1 d_R_copyRow_113 rfl ?_
      refine x_bipush (pc := 114) K (v := nI 8) d_R_copyRow_114 (by decide) ?_
      refine x_iload_n (pc := 116) K 2 d_R_copyRow_116 rfl ?_
      refine x_imul (pc := 117) K d_R_copyRow_117 ?_
      refine x_eqi (y := nI (8 * f)) (pk_mul _ _) ?_
      refine x_iload_n (pc := 118) K 0 d_R_copyRow_118 rfl ?_
      refine x_iadd (pc := 119) K d_R_copyRow_119 ?_
      refine x_eqi (y := nI ((8 * f) + i)) (nI_add _ _) ?_
      refine x_bipush (pc := 120) K (v := nI 8) d_R_copyRow_120 (by decide) ?_
      refine x_iload_n (pc := 122) K 3 d_R_copyRow_122 rfl ?_
      refine x_imul (pc := 123) K d_R_copyRow_123 ?_
      refine x_eqi (y := nI (8 * g)) (pk_mul _ _) ?_
      refine x_iload_n (pc := 124) K 0 d_R_copyRow_124 rfl ?_
      refine x_iadd (pc := 125) K d_R_copyRow_125 ?_
      refine x_eqi (y := nI ((8 * g) + i)) (nI_add _ _) ?_
      refine x_callVv (pc := 126) K (As := [.int (nI ((8 * f) + i)), .int (nI ((8 * g) + i))]) (rest := []) (c_R_copyCell l w X o hR hz ((8 * f) + i) ((8 * g) + i) (by omega) (by omega)) (zcwV K.ts lk_R_83 im_R_copyCell se_R_copyCell ii_R co_R_copyCell pd_R_copyCell ⟨rfl, rfl⟩ ⟨by decide, by decide⟩) (zlt shR) shR rfl rfl rfl (Nat.le_of_ble_eq_true rfl) ⟨Nat.zero_le _, Nat.zero_le _⟩ d_R_copyRow_126 ?_
      refine x_iinc (pc := 129) K (v := nI (i + 1)) (lv' := [(3, .int (nI (i + 1))), (0, .ref (w.2.2 + 278)), (1, .int (nI f)), (2, .int (nI g))]) 0 d_R_copyRow_129 rfl (nI_1 _) (by decide) rfl ?_
      refine x_goto (pc := 132) K (tgt := 107) d_R_copyRow_132 (by decide) ?_
      exact ih (i + 1) _ (by omega) (by omega) hR (zFx_cp hz (by omega)) hf9
set_option maxHeartbeats 4000000 in
set_option maxRecDepth 100000 in
theorem l1_R_copyRow (l : Launch) (w : fl_W) (M : fl_M) (o : Nat) (f g : Nat) (hf : f < 24) (hg : g < 24) (Y : fl_M) {p9 : Program} {e9 : Env} {s9 : State} {m9 : MethodId} {ag9 : Array Value} {bl9 : List Frame} {mt9 : Method} {c9 : Code} (K : XC p9 s9 m9 ag9 mt9 c9 b_R_copyRow 4 none w_R_copyRow "CompatibilityJudgeModel" w) : ∀ (k : Nat) (i : Nat) (X : fl_M), i ≤ 3 → 3 + 1 ≤ i + k → zRf o X.2 → zFx X.1 → cr1 X f g i (3 - i) = Y → XW p9 l e9 (rm_R_copyRow) s9 m9 ag9 bl9 mt9 c9 4 0 0 (MQ bl9 (CQ w zN none (cr2 Y f g 0 8)) ag9 s9 0 0 (fun q : Nat => w.2.2 ≤ q)) w zN X 74 [(3, .int (nI i)), (0, .ref (w.2.2 + 278)), (1, .int (nI f)), (2, .int (nI g))] [] := by
  intro k
  induction k with
  | zero =>
    intro i X hi hk
    exact absurd hk (by omega)
  | succ k ih =>
    intro i X hi hk hR hz hf9
    refine x_iload_n (pc := 74) K 0 d_R_copyRow_74 rfl ?_
    refine x_iconst (pc := 75) K (v := nI 3) d_R_copyRow_75 (by decide) ?_
    refine x_icmp_ge (pc := 76) K (tgt := 105) d_R_copyRow_76 (by decide) (fun c76 => ?_) (fun c76 => ?_)
    · skip
      have hic : i = 3 := by have := (nI_leI (a := 3) (by omega) (by omega)).mp c76; omega
      rw [hic, Nat.sub_self] at hf9
      refine x_iconst (pc := 105) K (v := nI 0) d_R_copyRow_105 (by decide) ?_
      refine x_istore_n (pc := 106) K (lv' := [(3, .int (nI 0)), (0, .ref (w.2.2 + 278)), (1, .int (nI f)), (2, .int (nI g))]) d_R_copyRow_106 (by decide) rfl ?_
      have hf9 : X = Y := hf9
      subst hf9
      refine x_lv [0, 1, 2, 3] rfl ?_
      exact l2_R_copyRow l w M o f g hf hg _ K 9 0 _ (by omega) (by omega) hR hz rfl
    · skip
      have hic : i < 3 := Nat.not_le.mp (fun q => c76 (nI_le (a := 3) q (by omega)))
      rw [show 3 - i = (3 - (i + 1)) + 1 by omega, cr1] at hf9
      refine x_aload_n (pc := 79) K 1 d_R_copyRow_79 rfl ?_
      refine x_getr (pc := 80) K (n := 278) (n' := 284) (k := 5) (zlt shR) shR rfl hR.r284 rfl (by decide) (fun _ q => zmem (uw_R _ q)) (zmem lk_R_26) d_R_copyRow_80 ?_
      refine x_iconst (pc := 83) K (v := nI 3) d_R_copyRow_83 (by decide) ?_
      refine x_iload_n (pc := 84) K 3 d_R_copyRow_84 rfl ?_
      refine x_imul (pc := 85) K d_R_copyRow_85 ?_
      refine x_eqi (y := nI (3 * g)) (pk_mul _ _) ?_
      refine x_iload_n (pc := 86) K 0 d_R_copyRow_86 rfl ?_
      refine x_iadd (pc := 87) K d_R_copyRow_87 ?_
      refine x_eqi (y := nI ((3 * g) + i)) (nI_add _ _) ?_
      refine x_aload_n (pc := 88) K 1 d_R_copyRow_88 rfl ?_
      refine x_getr (pc := 89) K (n := 278) (n' := 284) (k := 5) (zlt shR) shR rfl hR.r284 rfl (by decide) (fun _ q => zmem (uw_R _ q)) (zmem lk_R_26) d_R_copyRow_89 ?_
      refine x_iconst (pc := 92) K (v := nI 3) d_R_copyRow_92 (by decide) ?_
      refine x_iload_n (pc := 93) K 2 d_R_copyRow_93 rfl ?_
      refine x_imul (pc := 94) K d_R_copyRow_94 ?_
      refine x_eqi (y := nI (3 * f)) (pk_mul _ _) ?_
      refine x_iload_n (pc := 95) K 0 d_R_copyRow_95 rfl ?_
      refine x_iadd (pc := 96) K d_R_copyRow_96 ?_
      refine x_eqi (y := nI ((3 * f) + i)) (nI_add _ _) ?_
      refine x_iald (pc := 97) K (n := 284) (j := (3 * f) + i) rfl (by omega) (zlt sh284) sh284 rfl (by decide) d_R_copyRow_97 ?_
      refine x_iast (pc := 98) K (n := 284) (j := (3 * g) + i) (x := X.1 284 ((3 * f) + i)) rfl (by omega) (zlt sh284) sh284 rfl (by decide) d_R_copyRow_98 ?_
      refine x_iinc (pc := 99) K (v := nI (i + 1)) (lv' := [(3, .int (nI (i + 1))), (0, .ref (w.2.2 + 278)), (1, .int (nI f)), (2, .int (nI g))]) 0 d_R_copyRow_99 rfl (nI_1 _) (by decide) rfl ?_
      refine x_goto (pc := 102) K (tgt := 74) d_R_copyRow_102 (by decide) ?_
      exact ih (i + 1) _ (by omega) (by omega) hR (fun c hc => by rw [rdI_ne (Or.inl (by decide))]; exact hz c hc) hf9
set_option maxHeartbeats 4000000 in
set_option maxRecDepth 100000 in
theorem c_R_copyRow (l : Launch) (w : fl_W) (M : fl_M) (o : Nat) (hR : zRf o M.2) (hz : zDf M.1) (hx : zFx M.1) (f g : Nat) (hf : f < 24) (hg : g < 24)  : CT l y_R_copyRow w_R_copyRow rm_R_copyRow w zN [.ref (w.2.2 + 278), .int (nI f), .int (nI g)] M none (cRw M f g) := by
  refine CT.of (cc := b_R_copyRow) (own := "CompatibilityJudgeModel") (by decide) rfl rfl (Nat.le_of_ble_eq_true rfl) ?_
  intro p9 e9 s9 m9 ag9 bl9 mt9 c9 K
  show XW p9 l e9 (rm_R_copyRow) s9 m9 ag9 bl9 mt9 c9 4 0 0 (MQ bl9 (CQ w zN none (cRw M f g)) ag9 s9 0 0 (fun q : Nat => w.2.2 ≤ q)) w zN M 0 [(0, .ref (w.2.2 + 278)), (1, .int (nI f)), (2, .int (nI g))] []
  refine x_aload_n (pc := 0) K 0 d_R_copyRow_0 rfl ?_
  refine x_getr (pc := 1) K (n := 278) (n' := 279) (k := 0) (zlt shR) shR rfl hR.r279 rfl (by decide) (fun _ q => zmem (uw_R _ q)) (zmem lk_R_7) d_R_copyRow_1 ?_
  refine x_iload_n (pc := 4) K 2 d_R_copyRow_4 rfl ?_
  refine x_aload_n (pc := 5) K 0 d_R_copyRow_5 rfl ?_
  refine x_getr (pc := 6) K (n := 278) (n' := 279) (k := 0) (zlt shR) shR rfl hR.r279 rfl (by decide) (fun _ q => zmem (uw_R _ q)) (zmem lk_R_7) d_R_copyRow_6 ?_
  refine x_iload_n (pc := 9) K 1 d_R_copyRow_9 rfl ?_
  refine x_zald (pc := 10) K (n := 279) (j := f) rfl (by omega) (zlt sh279) sh279 rfl (by decide) d_R_copyRow_10 ?_
  refine x_zast (pc := 11) K (n := 279) (j := g) (x := M.1 279 f) (hz f hf) rfl (by omega) (zlt sh279) sh279 rfl (by decide) d_R_copyRow_11 ?_
  refine x_aload_n (pc := 12) K 0 d_R_copyRow_12 rfl ?_
  refine x_getr (pc := 13) K (n := 278) (n' := 280) (k := 1) (zlt shR) shR rfl hR.r280 rfl (by decide) (fun _ q => zmem (uw_R _ q)) (zmem lk_R_13) d_R_copyRow_13 ?_
  refine x_iload_n (pc := 16) K 2 d_R_copyRow_16 rfl ?_
  refine x_aload_n (pc := 17) K 0 d_R_copyRow_17 rfl ?_
  refine x_getr (pc := 18) K (n := 278) (n' := 280) (k := 1) (zlt shR) shR rfl hR.r280 rfl (by decide) (fun _ q => zmem (uw_R _ q)) (zmem lk_R_13) d_R_copyRow_18 ?_
  refine x_iload_n (pc := 21) K 1 d_R_copyRow_21 rfl ?_
  refine x_iald (pc := 22) K (n := 280) (j := f) rfl (by omega) (zlt sh280) sh280 rfl (by decide) d_R_copyRow_22 ?_
  refine x_iast (pc := 23) K (n := 280) (j := g) (x := (wI M 279 g (M.1 279 f)).1 280 f) rfl (by omega) (zlt sh280) sh280 rfl (by decide) d_R_copyRow_23 ?_
  refine x_aload_n (pc := 24) K 0 d_R_copyRow_24 rfl ?_
  refine x_getr (pc := 25) K (n := 278) (n' := 281) (k := 2) (zlt shR) shR rfl hR.r281 rfl (by decide) (fun _ q => zmem (uw_R _ q)) (zmem lk_R_17) d_R_copyRow_25 ?_
  refine x_iload_n (pc := 28) K 2 d_R_copyRow_28 rfl ?_
  refine x_aload_n (pc := 29) K 0 d_R_copyRow_29 rfl ?_
  refine x_getr (pc := 30) K (n := 278) (n' := 281) (k := 2) (zlt shR) shR rfl hR.r281 rfl (by decide) (fun _ q => zmem (uw_R _ q)) (zmem lk_R_17) d_R_copyRow_30 ?_
  refine x_iload_n (pc := 33) K 1 d_R_copyRow_33 rfl ?_
  refine x_iald (pc := 34) K (n := 281) (j := f) rfl (by omega) (zlt sh281) sh281 rfl (by decide) d_R_copyRow_34 ?_
  refine x_iast (pc := 35) K (n := 281) (j := g) (x := (wI (wI M 279 g (M.1 279 f)) 280 g ((wI M 279 g (M.1 279 f)).1 280 f)).1 281 f) rfl (by omega) (zlt sh281) sh281 rfl (by decide) d_R_copyRow_35 ?_
  refine x_aload_n (pc := 36) K 0 d_R_copyRow_36 rfl ?_
  refine x_getr (pc := 37) K (n := 278) (n' := 282) (k := 3) (zlt shR) shR rfl hR.r282 rfl (by decide) (fun _ q => zmem (uw_R _ q)) (zmem lk_R_20) d_R_copyRow_37 ?_
  refine x_iload_n (pc := 40) K 2 d_R_copyRow_40 rfl ?_
  refine x_aload_n (pc := 41) K 0 d_R_copyRow_41 rfl ?_
  refine x_getr (pc := 42) K (n := 278) (n' := 282) (k := 3) (zlt shR) shR rfl hR.r282 rfl (by decide) (fun _ q => zmem (uw_R _ q)) (zmem lk_R_20) d_R_copyRow_42 ?_
  refine x_iload_n (pc := 45) K 1 d_R_copyRow_45 rfl ?_
  refine x_iald (pc := 46) K (n := 282) (j := f) rfl (by omega) (zlt sh282) sh282 rfl (by decide) d_R_copyRow_46 ?_
  refine x_iast (pc := 47) K (n := 282) (j := g) (x := (wI (wI (wI M 279 g (M.1 279 f)) 280 g ((wI M 279 g (M.1 279 f)).1 280 f)) 281 g ((wI (wI M 279 g (M.1 279 f)) 280 g ((wI M 279 g (M.1 279 f)).1 280 f)).1 281 f)).1 282 f) rfl (by omega) (zlt sh282) sh282 rfl (by decide) d_R_copyRow_47 ?_
  refine x_aload_n (pc := 48) K 0 d_R_copyRow_48 rfl ?_
  refine x_getr (pc := 49) K (n := 278) (n' := 283) (k := 4) (zlt shR) shR rfl hR.r283 rfl (by decide) (fun _ q => zmem (uw_R _ q)) (zmem lk_R_23) d_R_copyRow_49 ?_
  refine x_iload_n (pc := 52) K 2 d_R_copyRow_52 rfl ?_
  refine x_aload_n (pc := 53) K 0 d_R_copyRow_53 rfl ?_
  refine x_getr (pc := 54) K (n := 278) (n' := 283) (k := 4) (zlt shR) shR rfl hR.r283 rfl (by decide) (fun _ q => zmem (uw_R _ q)) (zmem lk_R_23) d_R_copyRow_54 ?_
  refine x_iload_n (pc := 57) K 1 d_R_copyRow_57 rfl ?_
  refine x_iald (pc := 58) K (n := 283) (j := f) rfl (by omega) (zlt sh283) sh283 rfl (by decide) d_R_copyRow_58 ?_
  refine x_iast (pc := 59) K (n := 283) (j := g) (x := (wI (wI (wI (wI M 279 g (M.1 279 f)) 280 g ((wI M 279 g (M.1 279 f)).1 280 f)) 281 g ((wI (wI M 279 g (M.1 279 f)) 280 g ((wI M 279 g (M.1 279 f)).1 280 f)).1 281 f)) 282 g ((wI (wI (wI M 279 g (M.1 279 f)) 280 g ((wI M 279 g (M.1 279 f)).1 280 f)) 281 g ((wI (wI M 279 g (M.1 279 f)) 280 g ((wI M 279 g (M.1 279 f)).1 280 f)).1 281 f)).1 282 f)).1 283 f) rfl (by omega) (zlt sh283) sh283 rfl (by decide) d_R_copyRow_59 ?_
  refine x_aload_n (pc := 60) K 0 d_R_copyRow_60 rfl ?_
  refine x_getr (pc := 61) K (n := 278) (n' := 285) (k := 6) (zlt shR) shR rfl hR.r285 rfl (by decide) (fun _ q => zmem (uw_R _ q)) (zmem lk_R_29) d_R_copyRow_61 ?_
  refine x_iload_n (pc := 64) K 2 d_R_copyRow_64 rfl ?_
  refine x_aload_n (pc := 65) K 0 d_R_copyRow_65 rfl ?_
  refine x_getr (pc := 66) K (n := 278) (n' := 285) (k := 6) (zlt shR) shR rfl hR.r285 rfl (by decide) (fun _ q => zmem (uw_R _ q)) (zmem lk_R_29) d_R_copyRow_66 ?_
  refine x_iload_n (pc := 69) K 1 d_R_copyRow_69 rfl ?_
  refine x_iald (pc := 70) K (n := 285) (j := f) rfl (by omega) (zlt sh285) sh285 rfl (by decide) d_R_copyRow_70 ?_
  refine x_iast (pc := 71) K (n := 285) (j := g) (x := (wI (wI (wI (wI (wI M 279 g (M.1 279 f)) 280 g ((wI M 279 g (M.1 279 f)).1 280 f)) 281 g ((wI (wI M 279 g (M.1 279 f)) 280 g ((wI M 279 g (M.1 279 f)).1 280 f)).1 281 f)) 282 g ((wI (wI (wI M 279 g (M.1 279 f)) 280 g ((wI M 279 g (M.1 279 f)).1 280 f)) 281 g ((wI (wI M 279 g (M.1 279 f)) 280 g ((wI M 279 g (M.1 279 f)).1 280 f)).1 281 f)).1 282 f)) 283 g ((wI (wI (wI (wI M 279 g (M.1 279 f)) 280 g ((wI M 279 g (M.1 279 f)).1 280 f)) 281 g ((wI (wI M 279 g (M.1 279 f)) 280 g ((wI M 279 g (M.1 279 f)).1 280 f)).1 281 f)) 282 g ((wI (wI (wI M 279 g (M.1 279 f)) 280 g ((wI M 279 g (M.1 279 f)).1 280 f)) 281 g ((wI (wI M 279 g (M.1 279 f)) 280 g ((wI M 279 g (M.1 279 f)).1 280 f)).1 281 f)).1 282 f)).1 283 f)).1 285 f) rfl (by omega) (zlt sh285) sh285 rfl (by decide) d_R_copyRow_71 ?_
  refine x_iconst (pc := 72) K (v := nI 0) d_R_copyRow_72 (by decide) ?_
  refine x_istore_n (pc := 73) K (lv' := [(3, .int (nI 0)), (0, .ref (w.2.2 + 278)), (1, .int (nI f)), (2, .int (nI g))]) d_R_copyRow_73 (by decide) rfl ?_
  exact l1_R_copyRow l w M o f g hf hg _ K 4 0 (cHd M f g) (by omega) (by omega) hR (fun c hc => by rw [cHd_rd, if_neg (by omega)]; exact hx c hc) rfl
