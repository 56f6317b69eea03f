theorem bOk_congr {μ μ' : Nat → Nat → Int32} {b : Nat} (e : ∀ t, t < 12 → ∀ k, k ≠ 8 → k ≠ 9 → μ' (b + 2 + 11 * t) k = μ (b + 2 + 11 * t) k) (e1 : ∀ t, t < 12 → ∀ k, μ' (b + 2 + 11 * t + 1) k = μ (b + 2 + 11 * t + 1) k) (h : bOk μ b) : bOk μ' b := by
  intro t ht
  obtain ⟨⟨⟨a1, a2⟩, a3, a4⟩, a5, a6, a7⟩ := h t ht
  refine ⟨⟨⟨?_, ?_⟩, ?_, ?_⟩, ?_, ?_, ?_⟩
  · unfold cI; rw [e t ht 5 (by omega) (by omega)]; exact a1
  · unfold cI; rw [e t ht 5 (by omega) (by omega)]; exact a2
  · unfold cM; rw [e t ht 7 (by omega) (by omega)]; exact a3
  · unfold cM; rw [e t ht 7 (by omega) (by omega)]; exact a4
  · rw [e t ht 0 (by omega) (by omega)]; exact a5
  · intro i hi
    unfold cI at hi
    rw [e t ht 5 (by omega) (by omega)] at hi
    rw [e1 t ht]
    exact a6 i hi
  · rw [e t ht 3 (by omega) (by omega)]; exact a7
theorem bSk_congr {μ μ' : Nat → Nat → Int32} {b : Nat} (e : ∀ t, t < 12 → μ' (b + 2 + 11 * t) 8 = μ (b + 2 + 11 * t) 8) (h : bSk μ b) : bSk μ' b := by
  intro t ht
  unfold bSc
  rw [e t ht]
  exact h t ht
theorem tbl_out {n n2 : Nat} : ∀ (k i : Nat) (M : fl_M) (a j : Nat), i + k ≤ 8 → (a < n ∨ n + 11 ≤ a) → (tbl M n n2 i k).1 a j = M.1 a j := by
  intro k
  induction k with
  | zero => intro i M a j _ _; rfl
  | succ k ih =>
    intro i M a j h1 h2
    rw [tbl, ih (i + 1) _ a j (by omega) h2, mCp_rd, if_neg (by omega)]
theorem tBec_out {M : fl_M} {n n2 a j : Nat} (h8 : cM M.1 n2 ≤ 8) (h : a < n ∨ n + 11 ≤ a) : (tBec M n n2).1 a j = M.1 a j := by
  have hn : a ≠ n := by omega
  have hn1 : a ≠ n + 1 := by omega
  unfold tBec tBc3
  simp only [mCp1]
  rw [rdI_ne (Or.inl hn), rdI_ne (Or.inl hn), rdI_ne (Or.inl hn), tbl_out _ _ _ _ _ (by omega) h, tBc2_rd hn hn1]
theorem zM3_tbl {n n2 : Nat} (hT2 : zSh n2 = zsT) : ∀ (k i : Nat) (M : fl_M), i + k ≤ 8 → zM3 M.1 → zM3 (tbl M n n2 i k).1 := by
  intro k
  induction k with
  | zero => intro i M _ h; exact h
  | succ k ih =>
    intro i M h1 h
    rw [tbl]
    exact ih (i + 1) _ (by omega) (zM3_cp h (shTm hT2 (by omega)))
theorem zM3_bec {M : fl_M} {n n2 : Nat} (hT : zSh n = zsT) (hT2 : zSh n2 = zsT) (h8 : cM M.1 n2 ≤ 8) (h : zM3 M.1) : zM3 (tBec M n n2).1 := by
  have h0 : zM3 (tBc2 M n n2).1 := fun a ha => by rw [tBc2_rd (fun q => neTM hT ha q.symm) (neMI ha hT)]; exact h a ha
  intro a ha
  have hn : a ≠ n := fun q => neTM hT ha q.symm
  unfold tBec tBc3
  simp only [mCp1]
  rw [rdI_ne (Or.inl hn), rdI_ne (Or.inl hn), rdI_ne (Or.inl hn)]
  exact zM3_tbl hT2 _ 0 _ (by omega) h0 a ha
theorem tbl_2 {n n2 : Nat} : ∀ (k i : Nat) (M : fl_M), (tbl M n n2 i k).2 = M.2 := by
  intro k
  induction k with
  | zero => intro i M; rfl
  | succ k ih => intro i M; rw [tbl, ih]; rfl
theorem tBec_2 {M : fl_M} {n n2 : Nat} : (tBec M n n2).2 = M.2 := by
  show (tbl (tBc2 M n n2) n n2 0 (cM M.1 n2)).2 = M.2
  rw [tbl_2]; rfl
theorem tko_2 {n : Nat} : ∀ (k i : Nat) (M : fl_M), (tko M n i k).2 = M.2 := by
  intro k
  induction k with
  | zero => intro i M; rfl
  | succ k ih => intro i M; rw [tko, ih]; rfl
theorem stl_2 {b : Nat} : ∀ (k i : Nat) (M : fl_M), (stl M b i k).2 = M.2 := by
  intro k
  induction k with
  | zero => intro i M; rfl
  | succ k ih => intro i M; rw [stl, ih]; rfl
def bec (M : fl_M) (b b2 : Nat) : Nat → Nat → fl_M
  | _, 0 => M
  | t, k + 1 => bec (tBec M (b + 2 + 11 * t) (b2 + 2 + 11 * t)) b b2 (t + 1) k
theorem bl_apart {b b2 t u : Nat} (hB : zSh b = zsB) (hB2 : zSh b2 = zsB) (hne : b ≠ b2) (ht : t < 12) (hu : u < 12) : b2 + 2 + 11 * u + 11 ≤ b + 2 + 11 * t ∨ b + 2 + 11 * t + 11 ≤ b2 + 2 + 11 * u := by
  rcases shB2 hB with rfl | rfl <;> rcases shB2 hB2 with rfl | rfl <;> omega
set_option maxHeartbeats 4000000 in
set_option maxRecDepth 100000 in
theorem lp_B_become (l : Launch) (w : fl_W) (M : fl_M) (b b2 : Nat) (hB : zSh b = zsB) (hB2 : zSh b2 = zsB) (hne : b ≠ b2) (o : Nat) (Y : fl_M) {p9 : Program} {e9 : Env} {s9 : State} {m9 : MethodId} {ag9 : Array Value} {bl9 : List Frame} {mt9 : Method} {c9 : Code} (K : XC p9 s9 m9 ag9 mt9 c9 b_B_become 3 none w_B_become "CompatibilityJudge$Baseline" w) : ∀ (k : Nat) (i : Nat) (X : fl_M), i ≤ 12 → 12 + 1 ≤ i + k → zRf o X.2 → bOk X.1 b2 → zM3 X.1 → bec X b b2 i (12 - i) = Y → XW p9 l e9 (rm_B_become) s9 m9 ag9 bl9 mt9 c9 3 0 0 (MQ bl9 (CQ w zN none Y) ag9 s9 0 0 (fun q : Nat => w.2.2 ≤ q)) w zN X 2 [(2, .int (nI i)), (0, .ref (w.2.2 + b)), (1, .ref (w.2.2 + b2))] [] := by
  intro k
  induction k with
  | zero =>
    intro i X hi hk
    exact absurd hk (by omega)
  | succ k ih =>
    intro i X hi hk hR hb hz hf
    refine x_iload_n (pc := 2) K 0 d_B_become_2 rfl ?_
    refine x_bipush (pc := 3) K (v := nI 12) d_B_become_3 (by decide) ?_
    refine x_icmp_ge (pc := 5) K (tgt := 29) d_B_become_5 (by decide) (fun c5 => ?_) (fun c5 => ?_)
    · skip
      have hic : i = 12 := by have := (nI_leI (a := 12) (by omega) (by omega)).mp c5; omega
      rw [hic, Nat.sub_self] at hf
      exact x_vret (pc := 29) K rfl (by rw [← hf]; rfl) d_B_become_29
    · skip
      have hic : i < 12 := Nat.not_le.mp (fun q => c5 (nI_le (a := 12) q (by omega)))
      rw [show 12 - i = (12 - (i + 1)) + 1 by omega, bec] at hf
      have ha := fun u hu => bl_apart hB hB2 hne hic (u := u) hu
      have hne9 : b + 2 + 11 * i ≠ b2 + 2 + 11 * i := by have := ha i hic; omega
      have hm8 := (hb i hic).1.2.2
      refine x_aload_n (pc := 8) K 1 d_B_become_8 rfl ?_
      refine x_getr (pc := 9) K (n := b) (n' := b + 1) (k := 0) (zlt hB) hB rfl (hR.Ba hB) rfl (by decide) (fun _ q => zmem (uw_B _ q)) (zmem lk_B_11) d_B_become_9 ?_
      refine x_iload_n (pc := 12) K 0 d_B_become_12 rfl ?_
      refine x_aald (pc := 13) K (n := b + 1) (n' := b + 2 + 11 * i) (j := i) rfl (by omega) (hR.Bt hB (by omega)) (zlt (shBa hB)) (shBa hB) rfl (by decide) d_B_become_13 ?_
      refine x_aload_n (pc := 14) K 2 d_B_become_14 rfl ?_
      refine x_getr (pc := 15) K (n := b2) (n' := b2 + 1) (k := 0) (zlt hB2) hB2 rfl (hR.Ba hB2) rfl (by decide) (fun _ q => zmem (uw_B _ q)) (zmem lk_B_11) d_B_become_15 ?_
      refine x_iload_n (pc := 18) K 0 d_B_become_18 rfl ?_
      refine x_aald (pc := 19) K (n := b2 + 1) (n' := b2 + 2 + 11 * i) (j := i) rfl (by omega) (hR.Bt hB2 (by omega)) (zlt (shBa hB2)) (shBa hB2) rfl (by decide) d_B_become_19 ?_
      refine x_callVv (pc := 20) K (As := [.ref (w.2.2 + (b2 + 2 + 11 * i))]) (rest := []) (c_T_become l w X (b + 2 + 11 * i) (b2 + 2 + 11 * i) (shBt hB (by omega)) (shBt hB2 (by omega)) hne9 o hR (hb i hic).1.2.1 hm8 hz (hb i hic).2.1) (zcwV K.ts lk_B_22 im_T_become se_T_become ii_T co_T_become pd_T_become ⟨rfl, rfl⟩ ⟨by decide, by decide⟩) (zlt (shBt hB (by omega))) (shBt hB (by omega)) rfl rfl rfl (Nat.le_of_ble_eq_true rfl) ⟨Nat.zero_le _, Nat.zero_le _⟩ d_B_become_20 ?_
      refine x_iinc (pc := 23) K (v := nI (i + 1)) (lv' := [(2, .int (nI (i + 1))), (0, .ref (w.2.2 + b)), (1, .ref (w.2.2 + b2))]) 0 d_B_become_23 rfl (nI_1 _) (by decide) rfl ?_
      refine x_goto (pc := 26) K (tgt := 2) d_B_become_26 (by decide) ?_
      exact ih (i + 1) _ (by omega) (by omega) (by rw [tBec_2]; exact hR) (bOk_congr (fun u hu k _ _ => tBec_out hm8 (by have := ha u hu; omega)) (fun u hu k => tBec_out hm8 (by have := ha u hu; omega)) hb) (zM3_bec (shBt hB hic) (shBt hB2 hic) hm8 hz) hf
set_option maxHeartbeats 4000000 in
set_option maxRecDepth 100000 in
theorem c_B_become (l : Launch) (w : fl_W) (M : fl_M) (b b2 : Nat) (hB : zSh b = zsB) (hB2 : zSh b2 = zsB) (hne : b ≠ b2) (o : Nat) (hR : zRf o M.2) (hb : bOk M.1 b2) (hz : zM3 M.1) : CT l y_B_become w_B_become rm_B_become w zN [.ref (w.2.2 + b), .ref (w.2.2 + b2)] M none (bec M b b2 0 12) := by
  refine CT.of (cc := b_B_become) (own := "CompatibilityJudge$Baseline") (by decide) rfl rfl (Nat.le_of_ble_eq_true rfl) ?_
  intro p9 e9 s9 m9 ag9 bl9 mt9 c9 K
  show XW p9 l e9 (rm_B_become) s9 m9 ag9 bl9 mt9 c9 3 0 0 (MQ bl9 (CQ w zN none (bec M b b2 0 12)) ag9 s9 0 0 (fun q : Nat => w.2.2 ≤ q)) w zN M 0 [(0, .ref (w.2.2 + b)), (1, .ref (w.2.2 + b2))] []
  refine x_iconst (pc := 0) K (v := nI 0) d_B_become_0 (by decide) ?_
  refine x_istore_n (pc := 1) K (lv' := [(2, .int (nI 0)), (0, .ref (w.2.2 + b)), (1, .ref (w.2.2 + b2))]) d_B_become_1 (by decide) rfl ?_
  exact lp_B_become l w M b b2 hB hB2 hne o _ K 13 0 M (by omega) (by omega) hR hb hz rfl
/-- of the interfaces from i on the first that counts and leads to an owner -/
def fol (μ : Nat → Nat → Int32) (b n : Nat) : Nat → Nat → Option Int32
  | _, 0 => none
  | i, k + 1 => if isI μ b (μ (n + 1) i) ∧ ¬ μ (b + 134) (ix (μ (n + 1) i)) = 12 then some (μ (b + 134) (ix (μ (n + 1) i))) else fol μ b n (i + 1) k
def foz (μ : Nat → Nat → Int32) (b n : Nat) (F : Option Int32) : Int32 := match F with
  | some v => v
  | none => if μ n 8 = -1 then 12 else μ (b + 134) (ix (μ n 8))
def fof (μ : Nat → Nat → Int32) (b t : Nat) (key : Int32) : Int32 := if tOwn μ (b + 2 + 11 * t) 0 key = none then foz μ b (b + 2 + 11 * t) (fol μ b (b + 2 + 11 * t) 0 (cI μ (b + 2 + 11 * t))) else nI t
set_option maxHeartbeats 4000000 in
set_option maxRecDepth 100000 in
theorem lp_B_fieldOwnerFor (l : Launch) (w : fl_W) (M : fl_M) (b : Nat) (hB : zSh b = zsB) (o : Nat) (hR : zRf o M.2) (hb : bOk M.1 b) (hs : bSk M.1 b) (t : Nat) (ht : t < 12) (key : Int32) (F : Option Int32) {p9 : Program} {e9 : Env} {s9 : State} {m9 : MethodId} {ag9 : Array Value} {bl9 : List Frame} {mt9 : Method} {c9 : Code} (K : XC p9 s9 m9 ag9 mt9 c9 b_B_fieldOwnerFor 6 (some .int) w_B_fieldOwnerFor "CompatibilityJudge$Baseline" w) : ∀ (k : Nat) (i : Nat), i ≤ cI M.1 (b + 2 + 11 * t) → cI M.1 (b + 2 + 11 * t) + 1 ≤ i + k → fol M.1 b (b + 2 + 11 * t) i (cI M.1 (b + 2 + 11 * t) - i) = F → XW p9 l e9 (rm_B_fieldOwnerFor) s9 m9 ag9 bl9 mt9 c9 6 0 0 (MQ bl9 (CQ w zN (some (.int (foz M.1 b (b + 2 + 11 * t) F))) M) ag9 s9 0 0 (fun q : Nat => w.2.2 ≤ q)) w zN M 21 [(4, .int (nI i)), (3, .ref (w.2.2 + (b + 2 + 11 * t))), (0, .ref (w.2.2 + b)), (1, .int (nI t)), (2, .int key)] [] := by
  have h3 := (hb t ht).1.1.2
  intro k
  induction k with
  | zero =>
    intro i hi hk
    exact absurd hk (by omega)
  | succ k ih =>
    intro i hi hk hf
    refine x_iload (pc := 21) K 0 d_B_fieldOwnerFor_21 rfl ?_
    refine x_aload_n (pc := 23) K 1 d_B_fieldOwnerFor_23 rfl ?_
    refine x_geti (pc := 24) K (n := b + 2 + 11 * t) (k := 5) (zlt (shBt hB ht)) (shBt hB ht) rfl rfl (by decide) (fun _ q => zmem (uw_T _ q)) (zmem lk_B_51) d_B_fieldOwnerFor_24 ?_
    refine x_eqi (y := nI (cI M.1 (b + 2 + 11 * t))) ((hb t ht).1.1.1) ?_
    refine x_icmp_ge (pc := 27) K (tgt := 74) d_B_fieldOwnerFor_27 (by decide) (fun c27 => ?_) (fun c27 => ?_)
    · skip
      have hic : i = cI M.1 (b + 2 + 11 * t) := by have := (nI_leI (by omega) (by omega)).mp c27; omega
      rw [hic, Nat.sub_self] at hf
      refine x_aload_n (pc := 74) K 1 d_B_fieldOwnerFor_74 rfl ?_
      refine x_geti (pc := 75) K (n := b + 2 + 11 * t) (k := 8) (zlt (shBt hB ht)) (shBt hB ht) rfl rfl (by decide) (fun _ q => zmem (uw_T _ q)) (zmem lk_B_41) d_B_fieldOwnerFor_75 ?_
      refine x_iconst (pc := 78) K (v := (-1)) d_B_fieldOwnerFor_78 (by decide) ?_
      refine x_icmp_ne (pc := 79) K (tgt := 87) d_B_fieldOwnerFor_79 (by decide) (fun c79 => ?_) (fun c79 => ?_)
      · skip
        have hs9 := inL_le ((hs t ht).resolve_left c79) (show t ≤ 12 by omega)
        refine x_aload_n (pc := 87) K 2 d_B_fieldOwnerFor_87 rfl ?_
        refine x_getr (pc := 88) K (n := b) (n' := b + 134) (k := 1) (zlt hB) hB rfl (hR.Bf hB) rfl (by decide) (fun _ q => zmem (uw_B _ q)) (zmem lk_B_18) d_B_fieldOwnerFor_88 ?_
        refine x_aload_n (pc := 91) K 1 d_B_fieldOwnerFor_91 rfl ?_
        refine x_geti (pc := 92) K (n := b + 2 + 11 * t) (k := 8) (zlt (shBt hB ht)) (shBt hB ht) rfl rfl (by decide) (fun _ q => zmem (uw_T _ q)) (zmem lk_B_41) d_B_fieldOwnerFor_92 ?_
        refine x_iald (pc := 95) K (n := b + 134) (j := ix (M.1 (b + 2 + 11 * t) 8)) hs9.1 hs9.2 (zlt (shBf hB)) (shBf hB) rfl (by decide) d_B_fieldOwnerFor_95 ?_
        exact x_iret (pc := 96) K (by rw [← hf]; exact congrArg (fun z => some (Value.int z)) (if_neg c79).symm) rfl d_B_fieldOwnerFor_96
      · skip
        refine x_bipush (pc := 82) K (v := 12) d_B_fieldOwnerFor_82 (by decide) ?_
        refine x_goto (pc := 84) K (tgt := 96) d_B_fieldOwnerFor_84 (by decide) ?_
        exact x_iret (pc := 96) K (by rw [← hf]; exact congrArg (fun z => some (Value.int z)) (if_pos c79).symm) rfl d_B_fieldOwnerFor_96
    · skip
      have hic : i < cI M.1 (b + 2 + 11 * t) := Nat.not_le.mp (fun q => c27 (nI_le q (by omega)))
      rw [show cI M.1 (b + 2 + 11 * t) - i = (cI M.1 (b + 2 + 11 * t) - (i + 1)) + 1 by omega, fol] at hf
      have hx := inL_le ((hb t ht).2.2.1 i hic) (show t ≤ 12 by omega)
      refine x_aload_n (pc := 30) K 1 d_B_fieldOwnerFor_30 rfl ?_
      refine x_getr (pc := 31) K (n := b + 2 + 11 * t) (n' := (b + 2 + 11 * t) + 1) (k := 4) (zlt (shBt hB ht)) (shBt hB ht) rfl (hR.Ti (shBt hB ht)) rfl (by decide) (fun _ q => zmem (uw_T _ q)) (zmem lk_B_54) d_B_fieldOwnerFor_31 ?_
      refine x_iload (pc := 34) K 0 d_B_fieldOwnerFor_34 rfl ?_
      refine x_iald (pc := 36) K (n := (b + 2 + 11 * t) + 1) (j := i) rfl (by omega) (zlt (shTi (shBt hB ht))) (shTi (shBt hB ht)) rfl (by decide) d_B_fieldOwnerFor_36 ?_
      refine x_istore (pc := 37) K (lv' := [(5, .int (M.1 ((b + 2 + 11 * t) + 1) i)), (4, .int (nI i)), (3, .ref (w.2.2 + (b + 2 + 11 * t))), (0, .ref (w.2.2 + b)), (1, .int (nI t)), (2, .int key)]) d_B_fieldOwnerFor_37 (by decide) rfl ?_
      refine x_aload_n (pc := 39) K 3 d_B_fieldOwnerFor_39 rfl ?_
      refine x_iload (pc := 40) K 0 d_B_fieldOwnerFor_40 rfl ?_
      refine x_callV (pc := 42) K (As := [.int (M.1 ((b + 2 + 11 * t) + 1) i)]) (rest := []) (c_B_isInterface l w M b hB o hR (M.1 ((b + 2 + 11 * t) + 1) i) hx) (zcwV K.ts lk_B_57 im_B_isInterface se_B_isInterface ii_B co_B_isInterface pd_B_isInterface ⟨rfl, rfl⟩ ⟨by decide, by decide⟩) (zlt hB) hB rfl rfl rfl (Nat.le_of_ble_eq_true rfl) ⟨Nat.zero_le _, Nat.zero_le _⟩ d_B_fieldOwnerFor_42 ?_
      refine x_ifeqB (pc := 45) K (tgt := 68) d_B_fieldOwnerFor_45 (by decide) (fun c45 => ?_) (fun c45 => ?_)
      · skip
        rw [if_neg (fun q => c45 q.1)] at hf
        refine x_iinc (pc := 68) K (v := nI (i + 1)) (lv' := [(4, .int (nI (i + 1))), (5, .int (M.1 ((b + 2 + 11 * t) + 1) i)), (3, .ref (w.2.2 + (b + 2 + 11 * t))), (0, .ref (w.2.2 + b)), (1, .int (nI t)), (2, .int key)]) 1 d_B_fieldOwnerFor_68 rfl (nI_1 _) (by decide) rfl ?_
        refine x_goto (pc := 71) K (tgt := 21) d_B_fieldOwnerFor_71 (by decide) ?_
        refine x_lv [0, 2, 3, 4, 5] rfl ?_
        exact ih (i + 1) (by omega) (by omega) hf
      · skip
        refine x_aload_n (pc := 48) K 3 d_B_fieldOwnerFor_48 rfl ?_
        refine x_getr (pc := 49) K (n := b) (n' := b + 134) (k := 1) (zlt hB) hB rfl (hR.Bf hB) rfl (by decide) (fun _ q => zmem (uw_B _ q)) (zmem lk_B_18) d_B_fieldOwnerFor_49 ?_
        refine x_iload (pc := 52) K 0 d_B_fieldOwnerFor_52 rfl ?_
        refine x_iald (pc := 54) K (n := b + 134) (j := ix (M.1 (b + 2 + 11 * t + 1) i)) hx.1 hx.2 (zlt (shBf hB)) (shBf hB) rfl (by decide) d_B_fieldOwnerFor_54 ?_
        refine x_bipush (pc := 55) K (v := 12) d_B_fieldOwnerFor_55 (by decide) ?_
        refine x_icmp_eq (pc := 57) K (tgt := 68) d_B_fieldOwnerFor_57 (by decide) (fun c57 => ?_) (fun c57 => ?_)
        · skip
          rw [if_neg (fun q => q.2 c57)] at hf
          refine x_iinc (pc := 68) K (v := nI (i + 1)) (lv' := [(4, .int (nI (i + 1))), (5, .int (M.1 ((b + 2 + 11 * t) + 1) i)), (3, .ref (w.2.2 + (b + 2 + 11 * t))), (0, .ref (w.2.2 + b)), (1, .int (nI t)), (2, .int key)]) 1 d_B_fieldOwnerFor_68 rfl (nI_1 _) (by decide) rfl ?_
          refine x_goto (pc := 71) K (tgt := 21) d_B_fieldOwnerFor_71 (by decide) ?_
          refine x_lv [0, 2, 3, 4, 5] rfl ?_
          exact ih (i + 1) (by omega) (by omega) hf
        · skip
          rw [if_pos ⟨c45, c57⟩] at hf
          refine x_aload_n (pc := 60) K 3 d_B_fieldOwnerFor_60 rfl ?_
          refine x_getr (pc := 61) K (n := b) (n' := b + 134) (k := 1) (zlt hB) hB rfl (hR.Bf hB) rfl (by decide) (fun _ q => zmem (uw_B _ q)) (zmem lk_B_18) d_B_fieldOwnerFor_61 ?_
          refine x_iload (pc := 64) K 0 d_B_fieldOwnerFor_64 rfl ?_
          refine x_iald (pc := 66) K (n := b + 134) (j := ix (M.1 (b + 2 + 11 * t + 1) i)) hx.1 hx.2 (zlt (shBf hB)) (shBf hB) rfl (by decide) d_B_fieldOwnerFor_66 ?_
          exact x_iret (pc := 67) K (by rw [← hf]; rfl) rfl d_B_fieldOwnerFor_67
set_option maxHeartbeats 4000000 in
set_option maxRecDepth 100000 in
theorem c_B_fieldOwnerFor (l : Launch) (w : fl_W) (M : fl_M) (b : Nat) (hB : zSh b = zsB) (o : Nat) (hR : zRf o M.2) (hb : bOk M.1 b) (hs : bSk M.1 b) (t : Nat) (ht : t < 12) (key : Int32)  : CT l y_B_fieldOwnerFor w_B_fieldOwnerFor rm_B_fieldOwnerFor w zN [.ref (w.2.2 + b), .int (nI t), .int key] M (some (.int (fof M.1 b t key))) M := by
  refine CT.of (cc := b_B_fieldOwnerFor) (own := "CompatibilityJudge$Baseline") (by decide) rfl rfl (Nat.le_of_ble_eq_true rfl) ?_
  intro p9 e9 s9 m9 ag9 bl9 mt9 c9 K
  show XW p9 l e9 (rm_B_fieldOwnerFor) s9 m9 ag9 bl9 mt9 c9 6 0 0 (MQ bl9 (CQ w zN (some (.int (fof M.1 b t key))) M) ag9 s9 0 0 (fun q : Nat => w.2.2 ≤ q)) w zN M 0 [(0, .ref (w.2.2 + b)), (1, .int (nI t)), (2, .int key)] []
  refine x_aload_n (pc := 0) K 0 d_B_fieldOwnerFor_0 rfl ?_
  refine x_getr (pc := 1) K (n := b) (n' := b + 1) (k := 0) (zlt hB) hB rfl (hR.Ba hB) rfl (by decide) (fun _ q => zmem (uw_B _ q)) (zmem lk_B_11) d_B_fieldOwnerFor_1 ?_
  refine x_iload_n (pc := 4) K 1 d_B_fieldOwnerFor_4 rfl ?_
  refine x_aald (pc := 5) K (n := b + 1) (n' := b + 2 + 11 * t) (j := t) rfl (by omega) (hR.Bt hB (by omega)) (zlt (shBa hB)) (shBa hB) rfl (by decide) d_B_fieldOwnerFor_5 ?_
  refine x_astore_n (pc := 6) K (lv' := [(3, .ref (w.2.2 + (b + 2 + 11 * t))), (0, .ref (w.2.2 + b)), (1, .int (nI t)), (2, .int key)]) d_B_fieldOwnerFor_6 (by decide) rfl ?_
  refine x_aload_n (pc := 7) K 0 d_B_fieldOwnerFor_7 rfl ?_
  refine x_iconst (pc := 8) K (v := 0) d_B_fieldOwnerFor_8 (by decide) ?_
  refine x_iload_n (pc := 9) K 3 d_B_fieldOwnerFor_9 rfl ?_
  refine x_callV (pc := 10) K (As := [.int 0, .int key]) (rest := []) (c_T_own l w M (b + 2 + 11 * t) (shBt hB (by omega)) o hR (hb t (by omega)).1 0 key) (zcwV K.ts lk_B_74 im_T_own se_T_own ii_T co_T_own pd_T_own ⟨rfl, rfl⟩ ⟨by decide, by decide⟩) (zlt (shBt hB (by omega))) (shBt hB (by omega)) rfl rfl rfl (Nat.le_of_ble_eq_true rfl) ⟨Nat.zero_le _, Nat.zero_le _⟩ d_B_fieldOwnerFor_10 ?_
  refine x_opt (n := b + 2 + 11 * t) (F := tOwn M.1 (b + 2 + 11 * t) 0 key) (fun ho10 => ?_) (fun j10 ho10 => ?_)
  · skip
    refine x_ifnullN (pc := 13) K (tgt := 18) d_B_fieldOwnerFor_13 (by decide) ?_
    refine x_iconst (pc := 18) K (v := nI 0) d_B_fieldOwnerFor_18 (by decide) ?_
    refine x_istore (pc := 19) K (lv' := [(4, .int (nI 0)), (3, .ref (w.2.2 + (b + 2 + 11 * t))), (0, .ref (w.2.2 + b)), (1, .int (nI t)), (2, .int key)]) d_B_fieldOwnerFor_19 (by decide) rfl ?_
    refine x_lv [0, 1, 2, 3, 4] rfl ?_
    rw [show fof M.1 b t key = foz M.1 b (b + 2 + 11 * t) (fol M.1 b (b + 2 + 11 * t) 0 (cI M.1 (b + 2 + 11 * t))) from if_pos ho10]
    exact lp_B_fieldOwnerFor l w M b hB o hR hb hs t ht key _ K (cI M.1 (b + 2 + 11 * t) + 1) 0 (by omega) (by omega) (by rw [Nat.sub_zero])
  · skip
    have hj10 : j10 < 8 := by have := (fnd_lt ho10).2.1; have := (hb t (by omega)).1.2.2; omega
    refine x_ifnull (pc := 13) K d_B_fieldOwnerFor_13 ?_
    refine x_iload_n (pc := 16) K 2 d_B_fieldOwnerFor_16 rfl ?_
    exact x_iret (pc := 17) K (by unfold fof; rw [if_neg (by rw [ho10]; exact fun q => nomatch q)]) rfl d_B_fieldOwnerFor_17
def cns (x t : Int32) : Prop := ¬ (x >>> (t &&& 31)) &&& 1 = 0
def wfl (M : fl_M) (b : Nat) (key set : Int32) : Nat → Nat → fl_M
  | _, 0 => M
  | t, k + 1 => wfl (if ¬ (set >>> (nI t &&& 31)) &&& 1 = 0 then wI M (b + 134) t (fof M.1 b t key) else M) b key set (t + 1) k
theorem wfl_2 {b : Nat} {key set : Int32} : ∀ (k i : Nat) (M : fl_M), (wfl M b key set i k).2 = M.2 := by
  intro k
  induction k with
  | zero => intro i M; rfl
  | succ k ih => intro i M; rw [wfl, ih]; split <;> rfl
theorem bec_2 {b b2 : Nat} : ∀ (k i : Nat) (M : fl_M), (bec M b b2 i k).2 = M.2 := by
  intro k
  induction k with
  | zero => intro i M; rfl
  | succ k ih => intro i M; rw [bec, ih, tBec_2]
theorem bOk_f {M : fl_M} {b t : Nat} {v : Int32} (h : bOk M.1 b) : bOk (wI M (b + 134) t v).1 b := bOk_congr (fun u hu k _ _ => rdI_ne (Or.inl (by omega))) (fun u hu k => rdI_ne (Or.inl (by omega))) h
theorem bSk_f {M : fl_M} {b t : Nat} {v : Int32} (h : bSk M.1 b) : bSk (wI M (b + 134) t v).1 b := bSk_congr (fun u hu => rdI_ne (Or.inl (by omega))) h
set_option maxHeartbeats 4000000 in
set_option maxRecDepth 100000 in
theorem lp_B_whereIsField (l : Launch) (w : fl_W) (M : fl_M) (b : Nat) (hB : zSh b = zsB) (o : Nat) (f : Nat) (hf12 : f < 12) (key set : Int32) (Y : fl_M) {p9 : Program} {e9 : Env} {s9 : State} {m9 : MethodId} {ag9 : Array Value} {bl9 : List Frame} {mt9 : Method} {c9 : Code} (K : XC p9 s9 m9 ag9 mt9 c9 b_B_whereIsField 5 (some .int) w_B_whereIsField "CompatibilityJudge$Baseline" w) : ∀ (k : Nat) (i : Nat) (X : fl_M), i ≤ f + 1 → f + 1 + 1 ≤ i + k → zRf o X.2 → bOk X.1 b → bSk X.1 b → wfl X b key set i (f + 1 - i) = Y → XW p9 l e9 (rm_B_whereIsField) s9 m9 ag9 bl9 mt9 c9 5 0 0 (MQ bl9 (CQ w zN (some (.int (Y.1 (b + 134) f))) Y) ag9 s9 0 0 (fun q : Nat => w.2.2 ≤ q)) w zN X 17 [(4, .int (nI i)), (3, .int set), (0, .ref (w.2.2 + b)), (1, .int (nI f)), (2, .int key)] [] := by
  intro k
  induction k with
  | zero =>
    intro i X hi hk
    exact absurd hk (by omega)
  | succ k ih =>
    intro i X hi hk hR hb hs hf
    refine x_iload (pc := 17) K 0 d_B_whereIsField_17 rfl ?_
    refine x_iload_n (pc := 19) K 3 d_B_whereIsField_19 rfl ?_
    refine x_icmp_gt (pc := 20) K (tgt := 52) d_B_whereIsField_20 (by decide) (fun c20 => ?_) (fun c20 => ?_)
    · skip
      have hic : i = f + 1 := by have := (nI_ltI (by omega) (by omega)).mp c20; omega
      rw [hic, Nat.sub_self] at hf
      refine x_aload_n (pc := 52) K 2 d_B_whereIsField_52 rfl ?_
      refine x_getr (pc := 53) K (n := b) (n' := b + 134) (k := 1) (zlt hB) hB rfl (hR.Bf hB) rfl (by decide) (fun _ q => zmem (uw_B _ q)) (zmem lk_B_18) d_B_whereIsField_53 ?_
      refine x_iload_n (pc := 56) K 3 d_B_whereIsField_56 rfl ?_
      refine x_iald (pc := 57) K (n := b + 134) (j := f) rfl (by omega) (zlt (shBf hB)) (shBf hB) rfl (by decide) d_B_whereIsField_57 ?_
      exact x_iret (pc := 58) K (by rw [← hf]; rfl) (by rw [← hf]; rfl) d_B_whereIsField_58
    · skip
      have hic : i < f + 1 := by have := Nat.not_lt.mp (fun q => c20 ((nI_ltI (a := f) (b := i) (by omega) (by omega)).mpr q)); omega
      rw [show f + 1 - i = (f + 1 - (i + 1)) + 1 by omega, wfl] at hf
      have h12 : i < 12 := by omega
      refine x_iload_n (pc := 23) K 1 d_B_whereIsField_23 rfl ?_
      refine x_iload (pc := 24) K 0 d_B_whereIsField_24 rfl ?_
      refine x_callSN (pc := 26) K (As := [.int set, .int (nI i)]) (rest := []) (c_J_contains l w X set (nI i)) (zcwSN K.ts K.S.2.1.2.2.1 sm_J_contains ii_J co_J_contains pd_J_contains ⟨rfl, rfl⟩ ⟨by decide, by decide⟩) rfl rfl (Nat.le_of_ble_eq_true rfl) ⟨Nat.zero_le _, Nat.zero_le _⟩ d_B_whereIsField_26 ?_
      refine x_ifeqB (pc := 29) K (tgt := 46) d_B_whereIsField_29 (by decide) (fun c29 => ?_) (fun c29 => ?_)
      · skip
        rw [if_neg c29] at hf
        refine x_iinc (pc := 46) K (v := nI (i + 1)) (lv' := [(4, .int (nI (i + 1))), (3, .int set), (0, .ref (w.2.2 + b)), (1, .int (nI f)), (2, .int key)]) 0 d_B_whereIsField_46 rfl (nI_1 _) (by decide) rfl ?_
        refine x_goto (pc := 49) K (tgt := 17) d_B_whereIsField_49 (by decide) ?_
        refine x_lv [0, 1, 2, 3, 4] rfl ?_
        exact ih (i + 1) _ (by omega) (by omega) hR hb hs hf
      · skip
        rw [if_pos c29] at hf
        refine x_aload_n (pc := 32) K 2 d_B_whereIsField_32 rfl ?_
        refine x_getr (pc := 33) K (n := b) (n' := b + 134) (k := 1) (zlt hB) hB rfl (hR.Bf hB) rfl (by decide) (fun _ q => zmem (uw_B _ q)) (zmem lk_B_18) d_B_whereIsField_33 ?_
        refine x_iload (pc := 36) K 0 d_B_whereIsField_36 rfl ?_
        refine x_aload_n (pc := 38) K 2 d_B_whereIsField_38 rfl ?_
        refine x_iload (pc := 39) K 0 d_B_whereIsField_39 rfl ?_
        refine x_iload_n (pc := 41) K 4 d_B_whereIsField_41 rfl ?_
        refine x_callV (pc := 42) K (As := [.int (nI i), .int key]) (rest := [.int (nI i), .ref (w.2.2 + (b + 134))]) (c_B_fieldOwnerFor l w X b hB o hR hb hs i h12 key) (zcwV K.ts lk_B_81 im_B_fieldOwnerFor se_B_fieldOwnerFor ii_B co_B_fieldOwnerFor pd_B_fieldOwnerFor ⟨rfl, rfl⟩ ⟨by decide, by decide⟩) (zlt hB) hB rfl rfl rfl (Nat.le_of_ble_eq_true rfl) ⟨Nat.zero_le _, Nat.zero_le _⟩ d_B_whereIsField_42 ?_
        refine x_iast (pc := 45) K (n := b + 134) (j := i) (x := fof X.1 b i key) rfl (by omega) (zlt (shBf hB)) (shBf hB) rfl (by decide) d_B_whereIsField_45 ?_
        refine x_iinc (pc := 46) K (v := nI (i + 1)) (lv' := [(4, .int (nI (i + 1))), (3, .int set), (0, .ref (w.2.2 + b)), (1, .int (nI f)), (2, .int key)]) 0 d_B_whereIsField_46 rfl (nI_1 _) (by decide) rfl ?_
        refine x_goto (pc := 49) K (tgt := 17) d_B_whereIsField_49 (by decide) ?_
        refine x_lv [0, 1, 2, 3, 4] rfl ?_
        exact ih (i + 1) _ (by omega) (by omega) hR (bOk_f hb) (bSk_f hs) hf
abbrev wfS (μ : Nat → Nat → Int32) (b f : Nat) : Int32 := μ (b + 2 + 11 * f) 9 ||| 1 <<< (nI f &&& 31)
abbrev wfM (M : fl_M) (b f : Nat) (key : Int32) : fl_M := wfl M b key (wfS M.1 b f) 0 (f + 1)
set_option maxHeartbeats 4000000 in
set_option maxRecDepth 100000 in
theorem c_B_whereIsField (l : Launch) (w : fl_W) (M : fl_M) (b : Nat) (hB : zSh b = zsB) (o : Nat) (hR : zRf o M.2) (hb : bOk M.1 b) (hs : bSk M.1 b) (f : Nat) (hf12 : f < 12) (key : Int32) : CT l y_B_whereIsField w_B_whereIsField rm_B_whereIsField w zN [.ref (w.2.2 + b), .int (nI f), .int key] M (some (.int ((wfM M b f key).1 (b + 134) f))) (wfM M b f key) := by
  refine CT.of (cc := b_B_whereIsField) (own := "CompatibilityJudge$Baseline") (by decide) rfl rfl (Nat.le_of_ble_eq_true rfl) ?_
  intro p9 e9 s9 m9 ag9 bl9 mt9 c9 K
  show XW p9 l e9 (rm_B_whereIsField) s9 m9 ag9 bl9 mt9 c9 5 0 0 (MQ bl9 (CQ w zN (some (.int ((wfM M b f key).1 (b + 134) f))) (wfM M b f key)) ag9 s9 0 0 (fun q : Nat => w.2.2 ≤ q)) w zN M 0 [(0, .ref (w.2.2 + b)), (1, .int (nI f)), (2, .int key)] []
  refine x_aload_n (pc := 0) K 0 d_B_whereIsField_0 rfl ?_
  refine x_getr (pc := 1) K (n := b) (n' := b + 1) (k := 0) (zlt hB) hB rfl (hR.Ba hB) rfl (by decide) (fun _ q => zmem (uw_B _ q)) (zmem lk_B_11) d_B_whereIsField_1 ?_
  refine x_iload_n (pc := 4) K 1 d_B_whereIsField_4 rfl ?_
  refine x_aald (pc := 5) K (n := b + 1) (n' := b + 2 + 11 * f) (j := f) rfl (by omega) (hR.Bt hB (by omega)) (zlt (shBa hB)) (shBa hB) rfl (by decide) d_B_whereIsField_5 ?_
  refine x_geti (pc := 6) K (n := b + 2 + 11 * f) (k := 9) (zlt (shBt hB (by omega))) (shBt hB (by omega)) rfl rfl (by decide) (fun _ q => zmem (uw_T _ q)) (zmem lk_B_48) d_B_whereIsField_6 ?_
  refine x_iconst (pc := 9) K (v := 1) d_B_whereIsField_9 (by decide) ?_
  refine x_iload_n (pc := 10) K 1 d_B_whereIsField_10 rfl ?_
  refine x_ishl (pc := 11) K d_B_whereIsField_11 ?_
  refine x_ior (pc := 12) K d_B_whereIsField_12 ?_
  refine x_istore_n (pc := 13) K (lv' := [(3, .int ((M.1 (b + 2 + 11 * f) 9) ||| (1 <<< ((nI f) &&& 31)))), (0, .ref (w.2.2 + b)), (1, .int (nI f)), (2, .int key)]) d_B_whereIsField_13 (by decide) rfl ?_
  refine x_iconst (pc := 14) K (v := nI 0) d_B_whereIsField_14 (by decide) ?_
  refine x_istore (pc := 15) K (lv' := [(4, .int (nI 0)), (3, .int ((M.1 (b + 2 + 11 * f) 9) ||| (1 <<< ((nI f) &&& 31)))), (0, .ref (w.2.2 + b)), (1, .int (nI f)), (2, .int key)]) d_B_whereIsField_15 (by decide) rfl ?_
  refine x_lv [0, 1, 2, 3, 4] rfl ?_
  exact lp_B_whereIsField l w M b hB o f hf12 key _ _ K (f + 2) 0 M (by omega) (by omega) hR hb hs (by rw [Nat.sub_zero])
/-- of the interfaces of the set, from t on: the first method that is neither static, private nor abstract; else the first abstract one -/
def wil (μ : Nat → Nat → Int32) (b : Nat) (key set : Int32) : Nat → Nat → Int32 → Int32
  | _, 0, a => a
  | t, k + 1, a =>
    if (¬ (set >>> (nI t &&& 31)) &&& 1 = 0) ∧ μ (b + 2 + 11 * t) 1 = 1 then
      (match tOwn μ (b + 2 + 11 * t) 1 key with
      | none => wil μ b key set (t + 1) k a
      | some j => if (¬ μ (b + 2 + 11 * t + 3 + j) 2 &&& 4 = 0) ∨ μ (b + 2 + 11 * t + 3 + j) 2 &&& 3 = 0 then wil μ b key set (t + 1) k a
        else if ¬ μ (b + 2 + 11 * t + 3 + j) 2 &&& 16 = 0 then wil μ b key set (t + 1) k (if a = 12 then nI t else a)
        else nI t)
    else wil μ b key set (t + 1) k a
set_option maxHeartbeats 4000000 in
set_option maxRecDepth 100000 in
theorem lp_B_whereIsInterfaceMethod (l : Launch) (w : fl_W) (M : fl_M) (b : Nat) (hB : zSh b = zsB) (o : Nat) (hR : zRf o M.2) (hb : bOk M.1 b) (key set : Int32) (F : Int32) {p9 : Program} {e9 : Env} {s9 : State} {m9 : MethodId} {ag9 : Array Value} {bl9 : List Frame} {mt9 : Method} {c9 : Code} (K : XC p9 s9 m9 ag9 mt9 c9 b_B_whereIsInterfaceMethod 6 (some .int) w_B_whereIsInterfaceMethod "CompatibilityJudge$Baseline" w) : ∀ (k : Nat) (i : Nat) (a : Int32), i ≤ 12 → 12 + 1 ≤ i + k → wil M.1 b key set i (12 - i) a = F → XW p9 l e9 (rm_B_whereIsInterfaceMethod) s9 m9 ag9 bl9 mt9 c9 6 0 0 (MQ bl9 (CQ w zN (some (.int F)) M) ag9 s9 0 0 (fun q : Nat => w.2.2 ≤ q)) w zN M 6 [(4, .int (nI i)), (3, .int a), (0, .ref (w.2.2 + b)), (1, .int set), (2, .int key)] [] := by
  intro k
  induction k with
  | zero =>
    intro i a hi hk
    exact absurd hk (by omega)
  | succ k ih =>
    intro i a hi hk hf
    refine x_iload (pc := 6) K 0 d_B_whereIsInterfaceMethod_6 rfl ?_
    refine x_bipush (pc := 8) K (v := nI 12) d_B_whereIsInterfaceMethod_8 (by decide) ?_
    refine x_icmp_ge (pc := 10) K (tgt := 106) d_B_whereIsInterfaceMethod_10 (by decide) (fun c10 => ?_) (fun c10 => ?_)
    · skip
      have hic : i = 12 := by have := (nI_leI (a := 12) (by omega) (by omega)).mp c10; omega
      rw [hic, Nat.sub_self] at hf
      refine x_iload_n (pc := 106) K 1 d_B_whereIsInterfaceMethod_106 rfl ?_
      exact x_iret (pc := 107) K (by subst hf; rfl) (rfl) d_B_whereIsInterfaceMethod_107
    · skip
      have hic : i < 12 := Nat.not_le.mp (fun q => c10 (nI_le (a := 12) q (by omega)))
      rw [show 12 - i = (12 - (i + 1)) + 1 by omega, wil] at hf
      refine x_iload_n (pc := 13) K 3 d_B_whereIsInterfaceMethod_13 rfl ?_
      refine x_iload (pc := 14) K 0 d_B_whereIsInterfaceMethod_14 rfl ?_
      refine x_callSN (pc := 16) K (As := [.int set, .int (nI i)]) (rest := []) (c_J_contains l w M set (nI i)) (zcwSN K.ts K.S.2.1.2.2.1 sm_J_contains ii_J co_J_contains pd_J_contains ⟨rfl, rfl⟩ ⟨by decide, by decide⟩) rfl rfl (Nat.le_of_ble_eq_true rfl) ⟨Nat.zero_le _, Nat.zero_le _⟩ d_B_whereIsInterfaceMethod_16 ?_
      refine x_ifeqB (pc := 19) K (tgt := 100) d_B_whereIsInterfaceMethod_19 (by decide) (fun c19 => ?_) (fun c19 => ?_)
      · skip
        rw [if_neg (fun q => c19 q.1)] at hf
        refine x_iinc (pc := 100) K (v := nI (i + 1)) (lv' := [(4, .int (nI (i + 1))), (3, .int a), (0, .ref (w.2.2 + b)), (1, .int set), (2, .int key)]) 0 d_B_whereIsInterfaceMethod_100 rfl (nI_1 _) (by decide) rfl ?_
        refine x_goto (pc := 103) K (tgt := 6) d_B_whereIsInterfaceMethod_103 (by decide) ?_
        refine x_lv [0, 1, 2, 3, 4] rfl ?_
        exact ih (i + 1) _ (by omega) (by omega) hf
      · skip
        refine x_aload_n (pc := 22) K 2 d_B_whereIsInterfaceMethod_22 rfl ?_
        refine x_getr (pc := 23) K (n := b) (n' := b + 1) (k := 0) (zlt hB) hB rfl (hR.Ba hB) rfl (by decide) (fun _ q => zmem (uw_B _ q)) (zmem lk_B_11) d_B_whereIsInterfaceMethod_23 ?_
        refine x_iload (pc := 26) K 0 d_B_whereIsInterfaceMethod_26 rfl ?_
        refine x_aald (pc := 28) K (n := b + 1) (n' := b + 2 + 11 * i) (j := i) rfl (by omega) (hR.Bt hB (by omega)) (zlt (shBa hB)) (shBa hB) rfl (by decide) d_B_whereIsInterfaceMethod_28 ?_
        refine x_geti (pc := 29) K (n := b + 2 + 11 * i) (k := 1) (zlt (shBt hB (by omega))) (shBt hB (by omega)) rfl rfl (by decide) (fun _ q => zmem (uw_T _ q)) (zmem lk_B_64) d_B_whereIsInterfaceMethod_29 ?_
        refine x_iconst (pc := 32) K (v := 1) d_B_whereIsInterfaceMethod_32 (by decide) ?_
        refine x_icmp_eq (pc := 33) K (tgt := 39) d_B_whereIsInterfaceMethod_33 (by decide) (fun c33 => ?_) (fun c33 => ?_)
        · skip
          rw [if_pos ⟨c19, c33⟩] at hf
          refine x_aload_n (pc := 39) K 2 d_B_whereIsInterfaceMethod_39 rfl ?_
          refine x_getr (pc := 40) K (n := b) (n' := b + 1) (k := 0) (zlt hB) hB rfl (hR.Ba hB) rfl (by decide) (fun _ q => zmem (uw_B _ q)) (zmem lk_B_11) d_B_whereIsInterfaceMethod_40 ?_
          refine x_iload (pc := 43) K 0 d_B_whereIsInterfaceMethod_43 rfl ?_
          refine x_aald (pc := 45) K (n := b + 1) (n' := b + 2 + 11 * i) (j := i) rfl (by omega) (hR.Bt hB (by omega)) (zlt (shBa hB)) (shBa hB) rfl (by decide) d_B_whereIsInterfaceMethod_45 ?_
          refine x_iconst (pc := 46) K (v := 1) d_B_whereIsInterfaceMethod_46 (by decide) ?_
          refine x_iload_n (pc := 47) K 4 d_B_whereIsInterfaceMethod_47 rfl ?_
          refine x_callV (pc := 48) K (As := [.int 1, .int key]) (rest := []) (c_T_own l w M (b + 2 + 11 * i) (shBt hB (by omega)) o hR (hb i (by omega)).1 1 key) (zcwV K.ts lk_B_74 im_T_own se_T_own ii_T co_T_own pd_T_own ⟨rfl, rfl⟩ ⟨by decide, by decide⟩) (zlt (shBt hB (by omega))) (shBt hB (by omega)) rfl rfl rfl (Nat.le_of_ble_eq_true rfl) ⟨Nat.zero_le _, Nat.zero_le _⟩ d_B_whereIsInterfaceMethod_48 ?_
          refine x_opt (n := b + 2 + 11 * i) (F := tOwn M.1 (b + 2 + 11 * i) 1 key) (fun ho48 => ?_) (fun j48 ho48 => ?_)
          · skip
            rw [ho48] at hf
            refine x_astoreN (pc := 51) K (lv' := [(5, .null), (4, .int (nI i)), (3, .int a), (0, .ref (w.2.2 + b)), (1, .int set), (2, .int key)]) d_B_whereIsInterfaceMethod_51 (by decide) rfl ?_
            refine x_aloadN (pc := 53) K 0 d_B_whereIsInterfaceMethod_53 rfl ?_
            refine x_ifnullN (pc := 55) K (tgt := 100) d_B_whereIsInterfaceMethod_55 (by decide) ?_
            refine x_iinc (pc := 100) K (v := nI (i + 1)) (lv' := [(4, .int (nI (i + 1))), (5, .null), (3, .int a), (0, .ref (w.2.2 + b)), (1, .int set), (2, .int key)]) 1 d_B_whereIsInterfaceMethod_100 rfl (nI_1 _) (by decide) rfl ?_
            refine x_goto (pc := 103) K (tgt := 6) d_B_whereIsInterfaceMethod_103 (by decide) ?_
            refine x_lv [0, 2, 3, 4, 5] rfl ?_
            exact ih (i + 1) _ (by omega) (by omega) hf
          · skip
            have hj48 : j48 < 8 := by have := (fnd_lt ho48).2.1; have := (hb i (by omega)).1.2.2; omega
            rw [ho48] at hf
            dsimp only at hf
            refine x_astore (pc := 51) K (lv' := [(5, .ref (w.2.2 + ((b + 2 + 11 * i) + 3 + j48))), (4, .int (nI i)), (3, .int a), (0, .ref (w.2.2 + b)), (1, .int set), (2, .int key)]) d_B_whereIsInterfaceMethod_51 (by decide) rfl ?_
            refine x_aload (pc := 53) K 0 d_B_whereIsInterfaceMethod_53 rfl ?_
            refine x_ifnull (pc := 55) K d_B_whereIsInterfaceMethod_55 ?_
            refine x_aload (pc := 58) K 0 d_B_whereIsInterfaceMethod_58 rfl ?_
            refine x_iconst (pc := 60) K (v := 4) d_B_whereIsInterfaceMethod_60 (by decide) ?_
            refine x_callV (pc := 61) K (As := [.int 4]) (rest := []) (c_M_hasAny l w M 4 ((b + 2 + 11 * i) + 3 + j48) (shTm (shBt hB (by omega)) hj48)) (zcwV K.ts lk_B_87 im_M_hasAny se_M_hasAny ii_M co_M_hasAny pd_M_hasAny ⟨rfl, rfl⟩ ⟨by decide, by decide⟩) (zlt (shTm (shBt hB (by omega)) hj48)) (shTm (shBt hB (by omega)) hj48) rfl rfl rfl (Nat.le_of_ble_eq_true rfl) ⟨Nat.zero_le _, Nat.zero_le _⟩ d_B_whereIsInterfaceMethod_61 ?_
            refine x_ifneB (pc := 64) K (tgt := 100) d_B_whereIsInterfaceMethod_64 (by decide) (fun c64 => ?_) (fun c64 => ?_)
            · skip
              rw [if_pos (Or.inl c64)] at hf
              refine x_iinc (pc := 100) K (v := nI (i + 1)) (lv' := [(4, .int (nI (i + 1))), (5, .ref (w.2.2 + ((b + 2 + 11 * i) + 3 + j48))), (3, .int a), (0, .ref (w.2.2 + b)), (1, .int set), (2, .int key)]) 1 d_B_whereIsInterfaceMethod_100 rfl (nI_1 _) (by decide) rfl ?_
              refine x_goto (pc := 103) K (tgt := 6) d_B_whereIsInterfaceMethod_103 (by decide) ?_
              refine x_lv [0, 2, 3, 4, 5] rfl ?_
              exact ih (i + 1) _ (by omega) (by omega) hf
            · skip
              refine x_aload (pc := 67) K 0 d_B_whereIsInterfaceMethod_67 rfl ?_
              refine x_callV (pc := 69) K (As := []) (rest := []) (c_M_access l w M ((b + 2 + 11 * i) + 3 + j48) (shTm (shBt hB (by omega)) hj48)) (zcwV K.ts lk_B_92 im_M_access se_M_access ii_M co_M_access pd_M_access ⟨rfl, rfl⟩ ⟨by decide, by decide⟩) (zlt (shTm (shBt hB (by omega)) hj48)) (shTm (shBt hB (by omega)) hj48) rfl rfl rfl (Nat.le_of_ble_eq_true rfl) ⟨Nat.zero_le _, Nat.zero_le _⟩ d_B_whereIsInterfaceMethod_69 ?_
              refine x_if_ne (pc := 72) K (tgt := 78) d_B_whereIsInterfaceMethod_72 (by decide) (fun c72 => ?_) (fun c72 => ?_)
              · skip
                rw [if_neg (fun q => q.elim c64 c72)] at hf
                refine x_aload (pc := 78) K 0 d_B_whereIsInterfaceMethod_78 rfl ?_
                refine x_bipush (pc := 80) K (v := 16) d_B_whereIsInterfaceMethod_80 (by decide) ?_
                refine x_callV (pc := 82) K (As := [.int 16]) (rest := []) (c_M_hasAny l w M 16 ((b + 2 + 11 * i) + 3 + j48) (shTm (shBt hB (by omega)) hj48)) (zcwV K.ts lk_B_87 im_M_hasAny se_M_hasAny ii_M co_M_hasAny pd_M_hasAny ⟨rfl, rfl⟩ ⟨by decide, by decide⟩) (zlt (shTm (shBt hB (by omega)) hj48)) (shTm (shBt hB (by omega)) hj48) rfl rfl rfl (Nat.le_of_ble_eq_true rfl) ⟨Nat.zero_le _, Nat.zero_le _⟩ d_B_whereIsInterfaceMethod_82 ?_
                refine x_ifneB (pc := 85) K (tgt := 91) d_B_whereIsInterfaceMethod_85 (by decide) (fun c85 => ?_) (fun c85 => ?_)
                · skip
                  rw [if_pos c85] at hf
                  refine x_iload_n (pc := 91) K 2 d_B_whereIsInterfaceMethod_91 rfl ?_
                  refine x_bipush (pc := 92) K (v := 12) d_B_whereIsInterfaceMethod_92 (by decide) ?_
                  refine x_icmp_ne (pc := 94) K (tgt := 100) d_B_whereIsInterfaceMethod_94 (by decide) (fun c94 => ?_) (fun c94 => ?_)
                  · skip
                    rw [if_neg c94] at hf
                    refine x_iinc (pc := 100) K (v := nI (i + 1)) (lv' := [(4, .int (nI (i + 1))), (5, .ref (w.2.2 + ((b + 2 + 11 * i) + 3 + j48))), (3, .int a), (0, .ref (w.2.2 + b)), (1, .int set), (2, .int key)]) 1 d_B_whereIsInterfaceMethod_100 rfl (nI_1 _) (by decide) rfl ?_
                    refine x_goto (pc := 103) K (tgt := 6) d_B_whereIsInterfaceMethod_103 (by decide) ?_
                    refine x_lv [0, 2, 3, 4, 5] rfl ?_
                    exact ih (i + 1) _ (by omega) (by omega) hf
                  · skip
                    rw [if_pos c94] at hf
                    refine x_iload (pc := 97) K 1 d_B_whereIsInterfaceMethod_97 rfl ?_
                    refine x_istore_n (pc := 99) K (lv' := [(3, .int (nI i)), (5, .ref (w.2.2 + ((b + 2 + 11 * i) + 3 + j48))), (4, .int (nI i)), (0, .ref (w.2.2 + b)), (1, .int set), (2, .int key)]) d_B_whereIsInterfaceMethod_99 (by decide) rfl ?_
                    refine x_iinc (pc := 100) K (v := nI (i + 1)) (lv' := [(4, .int (nI (i + 1))), (3, .int (nI i)), (5, .ref (w.2.2 + ((b + 2 + 11 * i) + 3 + j48))), (0, .ref (w.2.2 + b)), (1, .int set), (2, .int key)]) 2 d_B_whereIsInterfaceMethod_100 rfl (nI_1 _) (by decide) rfl ?_
                    refine x_goto (pc := 103) K (tgt := 6) d_B_whereIsInterfaceMethod_103 (by decide) ?_
                    refine x_lv [0, 1, 3, 4, 5] rfl ?_
                    exact ih (i + 1) _ (by omega) (by omega) hf
                · skip
                  rw [if_neg c85] at hf
                  refine x_iload (pc := 88) K 1 d_B_whereIsInterfaceMethod_88 rfl ?_
                  exact x_iret (pc := 90) K (by subst hf; rfl) (rfl) d_B_whereIsInterfaceMethod_90
              · skip
                rw [if_pos (Or.inr c72)] at hf
                refine x_goto (pc := 75) K (tgt := 100) d_B_whereIsInterfaceMethod_75 (by decide) ?_
                refine x_iinc (pc := 100) K (v := nI (i + 1)) (lv' := [(4, .int (nI (i + 1))), (5, .ref (w.2.2 + ((b + 2 + 11 * i) + 3 + j48))), (3, .int a), (0, .ref (w.2.2 + b)), (1, .int set), (2, .int key)]) 1 d_B_whereIsInterfaceMethod_100 rfl (nI_1 _) (by decide) rfl ?_
                refine x_goto (pc := 103) K (tgt := 6) d_B_whereIsInterfaceMethod_103 (by decide) ?_
                refine x_lv [0, 2, 3, 4, 5] rfl ?_
                exact ih (i + 1) _ (by omega) (by omega) hf
        · skip
          rw [if_neg (fun q => c33 q.2)] at hf
          refine x_goto (pc := 36) K (tgt := 100) d_B_whereIsInterfaceMethod_36 (by decide) ?_
          refine x_iinc (pc := 100) K (v := nI (i + 1)) (lv' := [(4, .int (nI (i + 1))), (3, .int a), (0, .ref (w.2.2 + b)), (1, .int set), (2, .int key)]) 0 d_B_whereIsInterfaceMethod_100 rfl (nI_1 _) (by decide) rfl ?_
          refine x_goto (pc := 103) K (tgt := 6) d_B_whereIsInterfaceMethod_103 (by decide) ?_
          refine x_lv [0, 1, 2, 3, 4] rfl ?_
          exact ih (i + 1) _ (by omega) (by omega) hf
set_option maxHeartbeats 4000000 in
set_option maxRecDepth 100000 in
theorem c_B_whereIsInterfaceMethod (l : Launch) (w : fl_W) (M : fl_M) (b : Nat) (hB : zSh b = zsB) (o : Nat) (hR : zRf o M.2) (hb : bOk M.1 b) (set key : Int32) : CT l y_B_whereIsInterfaceMethod w_B_whereIsInterfaceMethod rm_B_whereIsInterfaceMethod w zN [.ref (w.2.2 + b), .int set, .int key] M (some (.int (wil M.1 b key set 0 12 12))) M := by
  refine CT.of (cc := b_B_whereIsInterfaceMethod) (own := "CompatibilityJudge$Baseline") (by decide) rfl rfl (Nat.le_of_ble_eq_true rfl) ?_
  intro p9 e9 s9 m9 ag9 bl9 mt9 c9 K
  show XW p9 l e9 (rm_B_whereIsInterfaceMethod) s9 m9 ag9 bl9 mt9 c9 6 0 0 (MQ bl9 (CQ w zN (some (.int (wil M.1 b key set 0 12 12))) M) ag9 s9 0 0 (fun q : Nat => w.2.2 ≤ q)) w zN M 0 [(0, .ref (w.2.2 + b)), (1, .int set), (2, .int key)] []
  refine x_bipush (pc := 0) K (v := 12) d_B_whereIsInterfaceMethod_0 (by decide) ?_
  refine x_istore_n (pc := 2) K (lv' := [(3, .int 12), (0, .ref (w.2.2 + b)), (1, .int set), (2, .int key)]) d_B_whereIsInterfaceMethod_2 (by decide) rfl ?_
  refine x_iconst (pc := 3) K (v := nI 0) d_B_whereIsInterfaceMethod_3 (by decide) ?_
  refine x_istore (pc := 4) K (lv' := [(4, .int (nI 0)), (3, .int 12), (0, .ref (w.2.2 + b)), (1, .int set), (2, .int key)]) d_B_whereIsInterfaceMethod_4 (by decide) rfl ?_
  refine x_lv [0, 1, 2, 3, 4] rfl ?_
  exact lp_B_whereIsInterfaceMethod l w M b hB o hR hb key set _ K 13 0 12 (by omega) (by omega) rfl
/-- up the superclasses -/
def wml (μ : Nat → Nat → Int32) (b : Nat) (key : Int32) : Nat → Int32 → Option Int32
  | 0, _ => none
  | k + 1, x => if x = -1 then none else if tOwn μ (tn b x) 1 key = none then wml μ b key k (μ (tn b x) 8) else some x
def wmz (μ : Nat → Nat → Int32) (b f : Nat) (key : Int32) (F : Option Int32) : Int32 := match F with
  | some v => v
  | none => wil μ b key (μ (b + 2 + 11 * f) 9) 0 12 12
abbrev wim (μ : Nat → Nat → Int32) (b f : Nat) (key : Int32) : Int32 := wmz μ b f key (wml μ b key 12 (nI f))
set_option maxHeartbeats 4000000 in
set_option maxRecDepth 100000 in
theorem lp_B_whereIsMethod (l : Launch) (w : fl_W) (M : fl_M) (b : Nat) (hB : zSh b = zsB) (o : Nat) (hR : zRf o M.2) (hb : bOk M.1 b) (hs : bSk M.1 b) (f : Nat) (hf12 : f < 12) (key : Int32) (F : Option Int32) {p9 : Program} {e9 : Env} {s9 : State} {m9 : MethodId} {ag9 : Array Value} {bl9 : List Frame} {mt9 : Method} {c9 : Code} (K : XC p9 s9 m9 ag9 mt9 c9 b_B_whereIsMethod 5 (some .int) w_B_whereIsMethod "CompatibilityJudge$Baseline" w) : ∀ (k : Nat) (i : Nat) (x : Int32), i ≤ 12 → 12 + 1 ≤ i + k → (x = -1 ∨ inL 12 x) → wml M.1 b key (12 - i) x = F → XW p9 l e9 (rm_B_whereIsMethod) s9 m9 ag9 bl9 mt9 c9 5 0 0 (MQ bl9 (CQ w zN (some (.int (wmz M.1 b f key F))) M) ag9 s9 0 0 (fun q : Nat => w.2.2 ≤ q)) w zN M 5 [(4, .int (nI i)), (3, .int x), (0, .ref (w.2.2 + b)), (1, .int (nI f)), (2, .int key)] [] := by
  intro k
  induction k with
  | zero =>
    intro i x hi hk
    exact absurd hk (by omega)
  | succ k ih =>
    intro i x hi hk hx hf
    refine x_iload (pc := 5) K 0 d_B_whereIsMethod_5 rfl ?_
    refine x_bipush (pc := 7) K (v := nI 12) d_B_whereIsMethod_7 (by decide) ?_
    refine x_icmp_ge (pc := 9) K (tgt := 49) d_B_whereIsMethod_9 (by decide) (fun c9 => ?_) (fun c9 => ?_)
    · skip
      have hic : i = 12 := by have := (nI_leI (a := 12) (by omega) (by omega)).mp c9; omega
      rw [hic, Nat.sub_self] at hf
      refine x_aload_n (pc := 49) K 2 d_B_whereIsMethod_49 rfl ?_
      refine x_aload_n (pc := 50) K 2 d_B_whereIsMethod_50 rfl ?_
      refine x_getr (pc := 51) K (n := b) (n' := b + 1) (k := 0) (zlt hB) hB rfl (hR.Ba hB) rfl (by decide) (fun _ q => zmem (uw_B _ q)) (zmem lk_B_11) d_B_whereIsMethod_51 ?_
      refine x_iload_n (pc := 54) K 3 d_B_whereIsMethod_54 rfl ?_
      refine x_aald (pc := 55) K (n := b + 1) (n' := b + 2 + 11 * f) (j := f) rfl (by omega) (hR.Bt hB (by omega)) (zlt (shBa hB)) (shBa hB) rfl (by decide) d_B_whereIsMethod_55 ?_
      refine x_geti (pc := 56) K (n := b + 2 + 11 * f) (k := 9) (zlt (shBt hB (by omega))) (shBt hB (by omega)) rfl rfl (by decide) (fun _ q => zmem (uw_T _ q)) (zmem lk_B_48) d_B_whereIsMethod_56 ?_
      refine x_iload_n (pc := 59) K 4 d_B_whereIsMethod_59 rfl ?_
      refine x_callV (pc := 60) K (As := [.int (M.1 (b + 2 + 11 * f) 9), .int key]) (rest := []) (c_B_whereIsInterfaceMethod l w M b hB o hR hb (M.1 (b + 2 + 11 * f) 9) key) (zcwV K.ts lk_B_84 im_B_whereIsInterfaceMethod se_B_whereIsInterfaceMethod ii_B co_B_whereIsInterfaceMethod pd_B_whereIsInterfaceMethod ⟨rfl, rfl⟩ ⟨by decide, by decide⟩) (zlt hB) hB rfl rfl rfl (Nat.le_of_ble_eq_true rfl) ⟨Nat.zero_le _, Nat.zero_le _⟩ d_B_whereIsMethod_60 ?_
      exact x_iret (pc := 63) K (by subst hf; rfl) (rfl) d_B_whereIsMethod_63
    · skip
      have hic : i < 12 := Nat.not_le.mp (fun q => c9 (nI_le (a := 12) q (by omega)))
      rw [show 12 - i = (12 - (i + 1)) + 1 by omega, wml] at hf
      refine x_iload_n (pc := 12) K 1 d_B_whereIsMethod_12 rfl ?_
      refine x_iconst (pc := 13) K (v := (-1)) d_B_whereIsMethod_13 (by decide) ?_
      refine x_icmp_eq (pc := 14) K (tgt := 49) d_B_whereIsMethod_14 (by decide) (fun c14 => ?_) (fun c14 => ?_)
      · skip
        rw [if_pos c14] at hf
        refine x_aload_n (pc := 49) K 2 d_B_whereIsMethod_49 rfl ?_
        refine x_aload_n (pc := 50) K 2 d_B_whereIsMethod_50 rfl ?_
        refine x_getr (pc := 51) K (n := b) (n' := b + 1) (k := 0) (zlt hB) hB rfl (hR.Ba hB) rfl (by decide) (fun _ q => zmem (uw_B _ q)) (zmem lk_B_11) d_B_whereIsMethod_51 ?_
        refine x_iload_n (pc := 54) K 3 d_B_whereIsMethod_54 rfl ?_
        refine x_aald (pc := 55) K (n := b + 1) (n' := b + 2 + 11 * f) (j := f) rfl (by omega) (hR.Bt hB (by omega)) (zlt (shBa hB)) (shBa hB) rfl (by decide) d_B_whereIsMethod_55 ?_
        refine x_geti (pc := 56) K (n := b + 2 + 11 * f) (k := 9) (zlt (shBt hB (by omega))) (shBt hB (by omega)) rfl rfl (by decide) (fun _ q => zmem (uw_T _ q)) (zmem lk_B_48) d_B_whereIsMethod_56 ?_
        refine x_iload_n (pc := 59) K 4 d_B_whereIsMethod_59 rfl ?_
        refine x_callV (pc := 60) K (As := [.int (M.1 (b + 2 + 11 * f) 9), .int key]) (rest := []) (c_B_whereIsInterfaceMethod l w M b hB o hR hb (M.1 (b + 2 + 11 * f) 9) key) (zcwV K.ts lk_B_84 im_B_whereIsInterfaceMethod se_B_whereIsInterfaceMethod ii_B co_B_whereIsInterfaceMethod pd_B_whereIsInterfaceMethod ⟨rfl, rfl⟩ ⟨by decide, by decide⟩) (zlt hB) hB rfl rfl rfl (Nat.le_of_ble_eq_true rfl) ⟨Nat.zero_le _, Nat.zero_le _⟩ d_B_whereIsMethod_60 ?_
        exact x_iret (pc := 63) K (by subst hf; rfl) (rfl) d_B_whereIsMethod_63
      · skip
        rw [if_neg c14] at hf
        have hx9 := hx.resolve_left c14
        refine x_aload_n (pc := 17) K 2 d_B_whereIsMethod_17 rfl ?_
        refine x_getr (pc := 18) K (n := b) (n' := b + 1) (k := 0) (zlt hB) hB rfl (hR.Ba hB) rfl (by decide) (fun _ q => zmem (uw_B _ q)) (zmem lk_B_11) d_B_whereIsMethod_18 ?_
        refine x_iload_n (pc := 21) K 1 d_B_whereIsMethod_21 rfl ?_
        refine x_aald (pc := 22) K (n := b + 1) (n' := b + 2 + 11 * (ix x)) (j := ix x) hx9.1 hx9.2 (hR.Bt hB hx9.2) (zlt (shBa hB)) (shBa hB) rfl (by decide) d_B_whereIsMethod_22 ?_
        refine x_iconst (pc := 23) K (v := 1) d_B_whereIsMethod_23 (by decide) ?_
        refine x_iload_n (pc := 24) K 4 d_B_whereIsMethod_24 rfl ?_
        refine x_callV (pc := 25) K (As := [.int 1, .int key]) (rest := []) (c_T_own l w M (b + 2 + 11 * (ix x)) (shBt hB hx9.2) o hR (hb (ix x) hx9.2).1 1 key) (zcwV K.ts lk_B_74 im_T_own se_T_own ii_T co_T_own pd_T_own ⟨rfl, rfl⟩ ⟨by decide, by decide⟩) (zlt (shBt hB hx9.2)) (shBt hB hx9.2) rfl rfl rfl (Nat.le_of_ble_eq_true rfl) ⟨Nat.zero_le _, Nat.zero_le _⟩ d_B_whereIsMethod_25 ?_
        refine x_opt (n := b + 2 + 11 * (ix x)) (F := tOwn M.1 (b + 2 + 11 * (ix x)) 1 key) (fun ho25 => ?_) (fun j25 ho25 => ?_)
        · skip
          rw [if_pos ho25] at hf
          refine x_ifnullN (pc := 28) K (tgt := 33) d_B_whereIsMethod_28 (by decide) ?_
          refine x_aload_n (pc := 33) K 2 d_B_whereIsMethod_33 rfl ?_
          refine x_getr (pc := 34) K (n := b) (n' := b + 1) (k := 0) (zlt hB) hB rfl (hR.Ba hB) rfl (by decide) (fun _ q => zmem (uw_B _ q)) (zmem lk_B_11) d_B_whereIsMethod_34 ?_
          refine x_iload_n (pc := 37) K 1 d_B_whereIsMethod_37 rfl ?_
          refine x_aald (pc := 38) K (n := b + 1) (n' := b + 2 + 11 * (ix x)) (j := ix x) hx9.1 hx9.2 (hR.Bt hB hx9.2) (zlt (shBa hB)) (shBa hB) rfl (by decide) d_B_whereIsMethod_38 ?_
          refine x_geti (pc := 39) K (n := b + 2 + 11 * (ix x)) (k := 8) (zlt (shBt hB hx9.2)) (shBt hB hx9.2) rfl rfl (by decide) (fun _ q => zmem (uw_T _ q)) (zmem lk_B_41) d_B_whereIsMethod_39 ?_
          refine x_istore_n (pc := 42) K (lv' := [(3, .int (M.1 (b + 2 + 11 * (ix x)) 8)), (4, .int (nI i)), (0, .ref (w.2.2 + b)), (1, .int (nI f)), (2, .int key)]) d_B_whereIsMethod_42 (by decide) rfl ?_
          refine x_iinc (pc := 43) K (v := nI (i + 1)) (lv' := [(4, .int (nI (i + 1))), (3, .int (M.1 (b + 2 + 11 * (ix x)) 8)), (0, .ref (w.2.2 + b)), (1, .int (nI f)), (2, .int key)]) 1 d_B_whereIsMethod_43 rfl (nI_1 _) (by decide) rfl ?_
          refine x_goto (pc := 46) K (tgt := 5) d_B_whereIsMethod_46 (by decide) ?_
          refine x_lv [0, 1, 2, 3, 4] rfl ?_
          exact ih (i + 1) _ (by omega) (by omega) ((hs _ hx9.2).imp id (fun q => inL_le q (Nat.le_of_lt hx9.2))) hf
        · skip
          have hj25 : j25 < 8 := by have := (fnd_lt ho25).2.1; have := (hb (ix x) hx9.2).1.2.2; omega
          rw [if_neg (by rw [ho25]; exact fun q => nomatch q)] at hf
          refine x_ifnull (pc := 28) K d_B_whereIsMethod_28 ?_
          refine x_iload_n (pc := 31) K 1 d_B_whereIsMethod_31 rfl ?_
          exact x_iret (pc := 32) K (by subst hf; rfl) (rfl) d_B_whereIsMethod_32
set_option maxHeartbeats 4000000 in
set_option maxRecDepth 100000 in
theorem c_B_whereIsMethod (l : Launch) (w : fl_W) (M : fl_M) (b : Nat) (hB : zSh b = zsB) (o : Nat) (hR : zRf o M.2) (hb : bOk M.1 b) (hs : bSk M.1 b) (f : Nat) (hf12 : f < 12) (key : Int32) : CT l y_B_whereIsMethod w_B_whereIsMethod rm_B_whereIsMethod w zN [.ref (w.2.2 + b), .int (nI f), .int key] M (some (.int (wim M.1 b f key))) M := by
  refine CT.of (cc := b_B_whereIsMethod) (own := "CompatibilityJudge$Baseline") (by decide) rfl rfl (Nat.le_of_ble_eq_true rfl) ?_
  intro p9 e9 s9 m9 ag9 bl9 mt9 c9 K
  show XW p9 l e9 (rm_B_whereIsMethod) s9 m9 ag9 bl9 mt9 c9 5 0 0 (MQ bl9 (CQ w zN (some (.int (wim M.1 b f key))) M) ag9 s9 0 0 (fun q : Nat => w.2.2 ≤ q)) w zN M 0 [(0, .ref (w.2.2 + b)), (1, .int (nI f)), (2, .int key)] []
  refine x_iload_n (pc := 0) K 1 d_B_whereIsMethod_0 rfl ?_
  refine x_istore_n (pc := 1) K (lv' := [(3, .int (nI f)), (0, .ref (w.2.2 + b)), (1, .int (nI f)), (2, .int key)]) d_B_whereIsMethod_1 (by decide) rfl ?_
  refine x_iconst (pc := 2) K (v := nI 0) d_B_whereIsMethod_2 (by decide) ?_
  refine x_istore (pc := 3) K (lv' := [(4, .int (nI 0)), (3, .int (nI f)), (0, .ref (w.2.2 + b)), (1, .int (nI f)), (2, .int key)]) d_B_whereIsMethod_3 (by decide) rfl ?_
  refine x_lv [0, 1, 2, 3, 4] rfl ?_
  exact lp_B_whereIsMethod l w M b hB o hR hb hs f hf12 key _ K 13 0 _ (by omega) (by omega) (Or.inr (inL_nI (by omega) hf12)) rfl
def whr (M : fl_M) (b f : Nat) (k key : Int32) : Int32 := if M.1 (b + 2 + 11 * f) 0 = 0 then 12 else if k = 0 then (wfM M b f key).1 (b + 134) f else if k = 1 then wim M.1 b f key else if tOwn M.1 (b + 2 + 11 * f) k key = none then 12 else nI f
def whM (M : fl_M) (b f : Nat) (k key : Int32) : fl_M := if M.1 (b + 2 + 11 * f) 0 = 0 then M else if k = 0 then wfM M b f key else M
set_option maxHeartbeats 4000000 in
set_option maxRecDepth 100000 in
theorem c_B_whereIs (l : Launch) (w : fl_W) (M : fl_M) (b : Nat) (hB : zSh b = zsB) (o : Nat) (hR : zRf o M.2) (hb : bOk M.1 b) (hs : bSk M.1 b) (f : Nat) (hf12 : f < 12) (k key : Int32) : CT l y_B_whereIs w_B_whereIs rm_B_whereIs w zN [.ref (w.2.2 + b), .int (nI f), .int k, .int key] M (some (.int (whr M b f k key))) (whM M b f k key) := by
  refine CT.of (cc := b_B_whereIs) (own := "CompatibilityJudge$Baseline") (by decide) rfl rfl (Nat.le_of_ble_eq_true rfl) ?_
  intro p9 e9 s9 m9 ag9 bl9 mt9 c9 K
  show XW p9 l e9 (rm_B_whereIs) s9 m9 ag9 bl9 mt9 c9 4 0 0 (MQ bl9 (CQ w zN (some (.int (whr M b f k key))) (whM M b f k key)) ag9 s9 0 0 (fun q : Nat => w.2.2 ≤ q)) w zN M 0 [(0, .ref (w.2.2 + b)), (1, .int (nI f)), (2, .int k), (3, .int key)] []
  refine x_aload_n (pc := 0) K 0 d_B_whereIs_0 rfl ?_
  refine x_getr (pc := 1) K (n := b) (n' := b + 1) (k := 0) (zlt hB) hB rfl (hR.Ba hB) rfl (by decide) (fun _ q => zmem (uw_B _ q)) (zmem lk_B_11) d_B_whereIs_1 ?_
  refine x_iload_n (pc := 4) K 1 d_B_whereIs_4 rfl ?_
  refine x_aald (pc := 5) K (n := b + 1) (n' := b + 2 + 11 * f) (j := f) rfl (by omega) (hR.Bt hB (by omega)) (zlt (shBa hB)) (shBa hB) rfl (by decide) d_B_whereIs_5 ?_
  refine x_geti (pc := 6) K (n := b + 2 + 11 * f) (k := 0) (zlt (shBt hB (by omega))) (shBt hB (by omega)) rfl rfl (by decide) (fun _ q => zmem (uw_T _ q)) (zmem lk_B_26) d_B_whereIs_6 ?_
  refine x_if_ne (pc := 9) K (tgt := 15) d_B_whereIs_9 (by decide) (fun c9 => ?_) (fun c9 => ?_)
  · skip
    refine x_iload_n (pc := 15) K 2 d_B_whereIs_15 rfl ?_
    refine x_if_ne (pc := 16) K (tgt := 26) d_B_whereIs_16 (by decide) (fun c16 => ?_) (fun c16 => ?_)
    · skip
      refine x_iload_n (pc := 26) K 2 d_B_whereIs_26 rfl ?_
      refine x_iconst (pc := 27) K (v := 1) d_B_whereIs_27 (by decide) ?_
      refine x_icmp_ne (pc := 28) K (tgt := 38) d_B_whereIs_28 (by decide) (fun c28 => ?_) (fun c28 => ?_)
      · skip
        refine x_aload_n (pc := 38) K 0 d_B_whereIs_38 rfl ?_
        refine x_getr (pc := 39) K (n := b) (n' := b + 1) (k := 0) (zlt hB) hB rfl (hR.Ba hB) rfl (by decide) (fun _ q => zmem (uw_B _ q)) (zmem lk_B_11) d_B_whereIs_39 ?_
        refine x_iload_n (pc := 42) K 1 d_B_whereIs_42 rfl ?_
        refine x_aald (pc := 43) K (n := b + 1) (n' := b + 2 + 11 * f) (j := f) rfl (by omega) (hR.Bt hB (by omega)) (zlt (shBa hB)) (shBa hB) rfl (by decide) d_B_whereIs_43 ?_
        refine x_iload_n (pc := 44) K 2 d_B_whereIs_44 rfl ?_
        refine x_iload_n (pc := 45) K 3 d_B_whereIs_45 rfl ?_
        refine x_callV (pc := 46) K (As := [.int k, .int key]) (rest := []) (c_T_own l w M (b + 2 + 11 * f) (shBt hB (by omega)) o hR (hb f (by omega)).1 k key) (zcwV K.ts lk_B_74 im_T_own se_T_own ii_T co_T_own pd_T_own ⟨rfl, rfl⟩ ⟨by decide, by decide⟩) (zlt (shBt hB (by omega))) (shBt hB (by omega)) rfl rfl rfl (Nat.le_of_ble_eq_true rfl) ⟨Nat.zero_le _, Nat.zero_le _⟩ d_B_whereIs_46 ?_
        refine x_opt (n := b + 2 + 11 * f) (F := tOwn M.1 (b + 2 + 11 * f) k key) (fun ho46 => ?_) (fun j46 ho46 => ?_)
        · skip
          refine x_ifnullN (pc := 49) K (tgt := 56) d_B_whereIs_49 (by decide) ?_
          refine x_bipush (pc := 56) K (v := 12) d_B_whereIs_56 (by decide) ?_
          exact x_iret (pc := 58) K (by unfold whr; rw [if_neg c9, if_neg c16, if_neg c28, if_pos ho46]) (by unfold whM; rw [if_neg c9, if_neg c16]) d_B_whereIs_58
        · skip
          have hj46 : j46 < 8 := by have := (fnd_lt ho46).2.1; have := (hb f (by omega)).1.2.2; omega
          refine x_ifnull (pc := 49) K d_B_whereIs_49 ?_
          refine x_iload_n (pc := 52) K 1 d_B_whereIs_52 rfl ?_
          refine x_goto (pc := 53) K (tgt := 58) d_B_whereIs_53 (by decide) ?_
          exact x_iret (pc := 58) K (by unfold whr; rw [if_neg c9, if_neg c16, if_neg c28, if_neg (by rw [ho46]; exact fun q => nomatch q)]) (by unfold whM; rw [if_neg c9, if_neg c16]) d_B_whereIs_58
      · skip
        refine x_aload_n (pc := 31) K 0 d_B_whereIs_31 rfl ?_
        refine x_iload_n (pc := 32) K 1 d_B_whereIs_32 rfl ?_
        refine x_iload_n (pc := 33) K 3 d_B_whereIs_33 rfl ?_
        refine x_callV (pc := 34) K (As := [.int (nI f), .int key]) (rest := []) (c_B_whereIsMethod l w M b hB o hR hb hs f hf12 key) (zcwV K.ts lk_B_71 im_B_whereIsMethod se_B_whereIsMethod ii_B co_B_whereIsMethod pd_B_whereIsMethod ⟨rfl, rfl⟩ ⟨by decide, by decide⟩) (zlt hB) hB rfl rfl rfl (Nat.le_of_ble_eq_true rfl) ⟨Nat.zero_le _, Nat.zero_le _⟩ d_B_whereIs_34 ?_
        exact x_iret (pc := 37) K (by unfold whr; rw [if_neg c9, if_neg c16, if_pos c28]) (by unfold whM; rw [if_neg c9, if_neg c16]) d_B_whereIs_37
    · skip
      refine x_aload_n (pc := 19) K 0 d_B_whereIs_19 rfl ?_
      refine x_iload_n (pc := 20) K 1 d_B_whereIs_20 rfl ?_
      refine x_iload_n (pc := 21) K 3 d_B_whereIs_21 rfl ?_
      refine x_callV (pc := 22) K (As := [.int (nI f), .int key]) (rest := []) (c_B_whereIsField l w M b hB o hR hb hs f hf12 key) (zcwV K.ts lk_B_67 im_B_whereIsField se_B_whereIsField ii_B co_B_whereIsField pd_B_whereIsField ⟨rfl, rfl⟩ ⟨by decide, by decide⟩) (zlt hB) hB rfl rfl rfl (Nat.le_of_ble_eq_true rfl) ⟨Nat.zero_le _, Nat.zero_le _⟩ d_B_whereIs_22 ?_
      exact x_iret (pc := 25) K (by unfold whr; rw [if_neg c9, if_pos c16]) (by unfold whM; rw [if_neg c9, if_pos c16]) d_B_whereIs_25
  · skip
    refine x_bipush (pc := 12) K (v := 12) d_B_whereIs_12 (by decide) ?_
    exact x_iret (pc := 14) K (by unfold whr; rw [if_pos c9]) (by unfold whM; rw [if_pos c9]) d_B_whereIs_14
