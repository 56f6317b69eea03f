/-- how many findings are listed -/
abbrev cz (μ : Nat → Nat → Int32) : Nat := ix (μ 272 3)
def zOk (μ : Nat → Nat → Int32) : Prop := μ 272 3 = nI (cz μ) ∧ cz μ ≤ 636
def cAdd (M : fl_M) (r t d : Int32) : fl_M := if cz M.1 < 636 then wI (wI (wI (wI M 273 (cz M.1) r) 274 (cz M.1) t) 275 (cz M.1) d) 272 3 (nI (cz M.1 + 1)) else M
theorem cAdd_2 {M : fl_M} {r t d : Int32} : (cAdd M r t d).2 = M.2 := by unfold cAdd; split <;> rfl
theorem cAdd_rd {M : fl_M} {r t d : Int32} {a k : Nat} (h : a < 272 ∨ 275 < a) : (cAdd M r t d).1 a k = M.1 a k := by
  unfold cAdd
  split
  · rw [rdI_ne (Or.inl (by omega)), rdI_ne (Or.inl (by omega)), rdI_ne (Or.inl (by omega)), rdI_ne (Or.inl (by omega))]
  · rfl
theorem cAdd_z {M : fl_M} {r t d : Int32} (h : zOk M.1) : zOk (cAdd M r t d).1 := by
  unfold cAdd
  split
  · rename_i h9
    have h9 : ix (M.1 272 3) < 636 := h9
    unfold zOk cz
    rw [rdI_eq, ix_nI (by omega)]
    exact ⟨rfl, by omega⟩
  · exact h
set_option maxHeartbeats 4000000 in
set_option maxRecDepth 100000 in
theorem c_C_add (l : Launch) (w : fl_W) (M : fl_M) (o : Nat) (hR : zRf o M.2) (hz : zOk M.1) (r t d : Int32) : CT l y_C_add w_C_add rm_C_add w zN [.ref (w.2.2 + 272), .int r, .int t, .int d] M none (cAdd M r t d) := by
  refine CT.of (cc := b_C_add) (own := "CompatibilityJudge$Comparison") (by decide) rfl rfl (Nat.le_of_ble_eq_true rfl) ?_
  intro p9 e9 s9 m9 ag9 bl9 mt9 c9 K
  have h6 := hz.2
  show XW p9 l e9 (rm_C_add) s9 m9 ag9 bl9 mt9 c9 4 0 0 (MQ bl9 (CQ w zN none (cAdd M r t d)) ag9 s9 0 0 (fun q : Nat => w.2.2 ≤ q)) w zN M 0 [(0, .ref (w.2.2 + 272)), (1, .int r), (2, .int t), (3, .int d)] []
  refine x_aload_n (pc := 0) K 0 d_C_add_0 rfl ?_
  refine x_geti (pc := 1) K (n := 272) (k := 3) (zlt shC) shC rfl rfl (by decide) (fun _ q => zmem (uw_C _ q)) (zmem lk_C_31) d_C_add_1 ?_
  refine x_eqi (y := nI (cz M.1)) (hz.1) ?_
  refine x_sipush (pc := 4) K (v := nI 636) d_C_add_4 (by decide) ?_
  refine x_icmp_ge (pc := 7) K (tgt := 50) d_C_add_7 (by decide) (fun c7 => ?_) (fun c7 => ?_)
  · skip
    have hic : ¬ cz M.1 < 636 := fun q => absurd (show nI 636 ≤ nI (cz M.1) from c7) (nI_ge q (by omega))
    exact x_vret (pc := 50) K rfl ((if_neg hic).symm) d_C_add_50
  · skip
    have hic : cz M.1 < 636 := Nat.not_le.mp (fun q => c7 (show nI 636 ≤ nI (cz M.1) from nI_le q (by omega)))
    refine x_aload_n (pc := 10) K 0 d_C_add_10 rfl ?_
    refine x_getr (pc := 11) K (n := 272) (n' := 273) (k := 0) (zlt shC) shC rfl hR.c273 rfl (by decide) (fun _ q => zmem (uw_C _ q)) (zmem lk_C_9) d_C_add_11 ?_
    refine x_aload_n (pc := 14) K 0 d_C_add_14 rfl ?_
    refine x_geti (pc := 15) K (n := 272) (k := 3) (zlt shC) shC rfl rfl (by decide) (fun _ q => zmem (uw_C _ q)) (zmem lk_C_31) d_C_add_15 ?_
    refine x_eqi (y := nI (cz M.1)) (hz.1) ?_
    refine x_iload_n (pc := 18) K 1 d_C_add_18 rfl ?_
    refine x_iast (pc := 19) K (n := 273) (j := (cz M.1)) (x := r) rfl (by omega) (zlt sh273) sh273 rfl (by decide) d_C_add_19 ?_
    refine x_aload_n (pc := 20) K 0 d_C_add_20 rfl ?_
    refine x_getr (pc := 21) K (n := 272) (n' := 274) (k := 1) (zlt shC) shC rfl hR.c274 rfl (by decide) (fun _ q => zmem (uw_C _ q)) (zmem lk_C_15) d_C_add_21 ?_
    refine x_aload_n (pc := 24) K 0 d_C_add_24 rfl ?_
    refine x_geti (pc := 25) K (n := 272) (k := 3) (zlt shC) shC rfl rfl (by decide) (fun _ q => zmem (uw_C _ q)) (zmem lk_C_31) d_C_add_25 ?_
    refine x_eqi (y := nI (cz M.1)) (by rw [rdI_ne (Or.inl (by decide))]; exact hz.1) ?_
    refine x_iload_n (pc := 28) K 2 d_C_add_28 rfl ?_
    refine x_iast (pc := 29) K (n := 274) (j := (cz M.1)) (x := t) rfl (by omega) (zlt sh274) sh274 rfl (by decide) d_C_add_29 ?_
    refine x_aload_n (pc := 30) K 0 d_C_add_30 rfl ?_
    refine x_getr (pc := 31) K (n := 272) (n' := 275) (k := 2) (zlt shC) shC rfl hR.c275 rfl (by decide) (fun _ q => zmem (uw_C _ q)) (zmem lk_C_18) d_C_add_31 ?_
    refine x_aload_n (pc := 34) K 0 d_C_add_34 rfl ?_
    refine x_geti (pc := 35) K (n := 272) (k := 3) (zlt shC) shC rfl rfl (by decide) (fun _ q => zmem (uw_C _ q)) (zmem lk_C_31) d_C_add_35 ?_
    refine x_eqi (y := nI (cz M.1)) (by rw [rdI_ne (Or.inl (by decide)), rdI_ne (Or.inl (by decide))]; exact hz.1) ?_
    refine x_iload_n (pc := 38) K 3 d_C_add_38 rfl ?_
    refine x_iast (pc := 39) K (n := 275) (j := (cz M.1)) (x := d) rfl (by omega) (zlt sh275) sh275 rfl (by decide) d_C_add_39 ?_
    refine x_aload_n (pc := 40) K 0 d_C_add_40 rfl ?_
    refine x_dup (pc := 41) K d_C_add_41 rfl ?_
    refine x_geti (pc := 42) K (n := 272) (k := 3) (zlt shC) shC rfl rfl (by decide) (fun _ q => zmem (uw_C _ q)) (zmem lk_C_31) d_C_add_42 ?_
    refine x_eqi (y := nI (cz M.1)) (by rw [rdI_ne (Or.inl (by decide)), rdI_ne (Or.inl (by decide)), rdI_ne (Or.inl (by decide))]; exact hz.1) ?_
    refine x_iconst (pc := 45) K (v := 1) d_C_add_45 (by decide) ?_
    refine x_iadd (pc := 46) K d_C_add_46 ?_
    refine x_eqi (y := nI (cz M.1 + 1)) (nI_1 _) ?_
    refine x_puti (pc := 47) K (n := 272) (k := 3) (x := nI (cz M.1 + 1)) uY_C tk_C nm_C (zlt shC) shC rfl rfl (by decide) (fun _ q => zmem (uw_C _ q)) (zmem lk_C_31) rfl rfl rfl d_C_add_47 ?_
    exact x_vret (pc := 50) K rfl ((if_pos hic).symm) d_C_add_50
/-- rule r of 6 .. 11, the old member a, the new one b -/
def brO (μ : Nat → Nat → Int32) (r n1 a b : Nat) : Prop :=
  if r = 6 then (μ b 2 &&& 3) < (μ a 2 &&& 3)
  else if r = 7 then ¬ bI (¬ μ a 2 &&& 4 = 0) = bI (¬ μ b 2 &&& 4 = 0)
  else if r = 8 then μ a 0 = 0 ∧ (¬ ¬ μ a 2 &&& 8 = 0) ∧ ¬ μ b 2 &&& 8 = 0
  else if r = 9 then ¬ μ a 3 = 0 ∧ ¬ (¬ μ a 3 = 0 ∧ ¬ μ b 3 = 0 ∧ μ a 4 = μ b 4)
  else if r = 10 then μ a 0 = 1 ∧ (¬ ¬ μ a 2 &&& 16 = 0) ∧ ¬ μ b 2 &&& 16 = 0
  else if r = 11 then μ a 0 = 1 ∧ (¬ ¬ μ a 2 &&& 12 = 0) ∧ (¬ ¬ μ n1 2 &&& 4 = 0) ∧ ¬ μ b 2 &&& 8 = 0
  else False
theorem brO_dec (μ : Nat → Nat → Int32) (r n1 a b : Nat) : brO μ r n1 a b ∨ ¬ brO μ r n1 a b := Classical.em _
set_option maxHeartbeats 4000000 in
set_option maxRecDepth 100000 in
theorem c_C_breaksAsOldN (l : Launch) (w : fl_W) (M : fl_M) (n1 a : Nat) (hT : zSh n1 = zsT) (hA : zSh a = zsM) (r : Int32) : CT l y_C_breaksAsOld w_C_breaksAsOld rm_C_breaksAsOld w zN [.int r, .ref (w.2.2 + n1), .ref (w.2.2 + a), .null] M (some (.int (bI (r = 5)))) M := by
  refine CT.of (cc := b_C_breaksAsOld) (own := "CompatibilityJudge$Comparison") (by decide) rfl rfl (Nat.le_of_ble_eq_true rfl) ?_
  intro p9 e9 s9 m9 ag9 bl9 mt9 c9 K
  show XW p9 l e9 (rm_C_breaksAsOld) s9 m9 ag9 bl9 mt9 c9 4 0 0 (MQ bl9 (CQ w zN (some (.int (bI (r = 5)))) M) ag9 s9 0 0 (fun q : Nat => w.2.2 ≤ q)) w zN M 0 [(0, .int r), (1, .ref (w.2.2 + n1)), (2, .ref (w.2.2 + a)), (3, .null)] []
  refine x_aload_nN (pc := 0) K 3 d_C_breaksAsOld_0 rfl ?_
  refine x_ifnonnullN (pc := 1) K d_C_breaksAsOld_1 ?_
  refine x_iload_n (pc := 4) K 0 d_C_breaksAsOld_4 rfl ?_
  refine x_iconst (pc := 5) K (v := 5) d_C_breaksAsOld_5 (by decide) ?_
  refine x_icmp_ne (pc := 6) K (tgt := 13) d_C_breaksAsOld_6 (by decide) (fun c6 => ?_) (fun c6 => ?_)
  · skip
    refine x_iconst (pc := 13) K (v := 0) d_C_breaksAsOld_13 (by decide) ?_
    exact x_zret (pc := 14) K (rF (by simp_all)) rfl rfl d_C_breaksAsOld_14
  · skip
    refine x_iconst (pc := 9) K (v := 1) d_C_breaksAsOld_9 (by decide) ?_
    refine x_goto (pc := 10) K (tgt := 14) d_C_breaksAsOld_10 (by decide) ?_
    exact x_zret (pc := 14) K (rT (by simp_all)) rfl rfl d_C_breaksAsOld_14
set_option maxHeartbeats 4000000 in
set_option maxRecDepth 100000 in
theorem c_C_breaksAsOld5 (l : Launch) (w : fl_W) (M : fl_M) (n1 a b : Nat) (hT : zSh n1 = zsT) (hA : zSh a = zsM) (hB : zSh b = zsM)  : CT l y_C_breaksAsOld w_C_breaksAsOld rm_C_breaksAsOld w zN [.int (nI 5), .ref (w.2.2 + n1), .ref (w.2.2 + a), .ref (w.2.2 + b)] M (some (.int (bI (False)))) M := by
  refine CT.of (cc := b_C_breaksAsOld) (own := "CompatibilityJudge$Comparison") (by decide) rfl rfl (Nat.le_of_ble_eq_true rfl) ?_
  intro p9 e9 s9 m9 ag9 bl9 mt9 c9 K
  show XW p9 l e9 (rm_C_breaksAsOld) s9 m9 ag9 bl9 mt9 c9 4 0 0 (MQ bl9 (CQ w zN (some (.int (bI (False)))) M) ag9 s9 0 0 (fun q : Nat => w.2.2 ≤ q)) w zN M 0 [(0, .int (nI 5)), (1, .ref (w.2.2 + n1)), (2, .ref (w.2.2 + a)), (3, .ref (w.2.2 + b))] []
  refine x_aload_n (pc := 0) K 3 d_C_breaksAsOld_0 rfl ?_
  refine x_ifnonnull (pc := 1) K (tgt := 15) d_C_breaksAsOld_1 (by decide) ?_
  refine x_iload_n (pc := 15) K 0 d_C_breaksAsOld_15 rfl ?_
  refine x_tableOut (pc := 16) K (tgt := 216) d_C_breaksAsOld_16 (by decide) (by decide) ?_
  refine x_iconst (pc := 216) K (v := 0) d_C_breaksAsOld_216 (by decide) ?_
  exact x_zret (pc := 217) K (rF (by first | (simp_all; done) | grind)) rfl rfl d_C_breaksAsOld_217
set_option maxHeartbeats 4000000 in
set_option maxRecDepth 100000 in
theorem c_C_breaksAsOld6 (l : Launch) (w : fl_W) (M : fl_M) (n1 a b : Nat) (hT : zSh n1 = zsT) (hA : zSh a = zsM) (hB : zSh b = zsM)  : CT l y_C_breaksAsOld w_C_breaksAsOld rm_C_breaksAsOld w zN [.int (nI 6), .ref (w.2.2 + n1), .ref (w.2.2 + a), .ref (w.2.2 + b)] M (some (.int (bI ((M.1 b 2 &&& 3) < (M.1 a 2 &&& 3))))) M := by
  refine CT.of (cc := b_C_breaksAsOld) (own := "CompatibilityJudge$Comparison") (by decide) rfl rfl (Nat.le_of_ble_eq_true rfl) ?_
  intro p9 e9 s9 m9 ag9 bl9 mt9 c9 K
  show XW p9 l e9 (rm_C_breaksAsOld) s9 m9 ag9 bl9 mt9 c9 4 0 0 (MQ bl9 (CQ w zN (some (.int (bI ((M.1 b 2 &&& 3) < (M.1 a 2 &&& 3))))) M) ag9 s9 0 0 (fun q : Nat => w.2.2 ≤ q)) w zN M 0 [(0, .int (nI 6)), (1, .ref (w.2.2 + n1)), (2, .ref (w.2.2 + a)), (3, .ref (w.2.2 + b))] []
  refine x_aload_n (pc := 0) K 3 d_C_breaksAsOld_0 rfl ?_
  refine x_ifnonnull (pc := 1) K (tgt := 15) d_C_breaksAsOld_1 (by decide) ?_
  refine x_iload_n (pc := 15) K 0 d_C_breaksAsOld_15 rfl ?_
  refine x_tableIn (pc := 16) K (tgt := 56) d_C_breaksAsOld_16 (by decide) (by decide) (off := 40) (by decide) (by decide) ?_
  refine x_aload_n (pc := 56) K 3 d_C_breaksAsOld_56 rfl ?_
  refine x_callV (pc := 57) K (As := []) (rest := []) (c_M_access l w M b hB) (zcwV K.ts lk_C_112 im_M_access se_M_access ii_M co_M_access pd_M_access ⟨rfl, rfl⟩ ⟨by decide, by decide⟩) (zlt hB) hB rfl rfl rfl (Nat.le_of_ble_eq_true rfl) ⟨Nat.zero_le _, Nat.zero_le _⟩ d_C_breaksAsOld_57 ?_
  refine x_aload_n (pc := 60) K 2 d_C_breaksAsOld_60 rfl ?_
  refine x_callV (pc := 61) K (As := []) (rest := [.int (M.1 b 2 &&& 3)]) (c_M_access l w M a hA) (zcwV K.ts lk_C_112 im_M_access se_M_access ii_M co_M_access pd_M_access ⟨rfl, rfl⟩ ⟨by decide, by decide⟩) (zlt hA) hA rfl rfl rfl (Nat.le_of_ble_eq_true rfl) ⟨Nat.zero_le _, Nat.zero_le _⟩ d_C_breaksAsOld_61 ?_
  refine x_icmp_ge (pc := 64) K (tgt := 71) d_C_breaksAsOld_64 (by decide) (fun c64 => ?_) (fun c64 => ?_)
  · skip
    refine x_iconst (pc := 71) K (v := 0) d_C_breaksAsOld_71 (by decide) ?_
    exact x_zret (pc := 72) K (rF (by first | (simp_all; done) | grind)) rfl rfl d_C_breaksAsOld_72
  · skip
    refine x_iconst (pc := 67) K (v := 1) d_C_breaksAsOld_67 (by decide) ?_
    refine x_goto (pc := 68) K (tgt := 72) d_C_breaksAsOld_68 (by decide) ?_
    exact x_zret (pc := 72) K (rT (by first | (simp_all; done) | grind)) rfl rfl d_C_breaksAsOld_72
set_option maxHeartbeats 4000000 in
set_option maxRecDepth 100000 in
theorem c_C_breaksAsOld7 (l : Launch) (w : fl_W) (M : fl_M) (n1 a b : Nat) (hT : zSh n1 = zsT) (hA : zSh a = zsM) (hB : zSh b = zsM)  : CT l y_C_breaksAsOld w_C_breaksAsOld rm_C_breaksAsOld w zN [.int (nI 7), .ref (w.2.2 + n1), .ref (w.2.2 + a), .ref (w.2.2 + b)] M (some (.int (bI (¬ bI (¬ M.1 a 2 &&& 4 = 0) = bI (¬ M.1 b 2 &&& 4 = 0))))) M := by
  refine CT.of (cc := b_C_breaksAsOld) (own := "CompatibilityJudge$Comparison") (by decide) rfl rfl (Nat.le_of_ble_eq_true rfl) ?_
  intro p9 e9 s9 m9 ag9 bl9 mt9 c9 K
  show XW p9 l e9 (rm_C_breaksAsOld) s9 m9 ag9 bl9 mt9 c9 4 0 0 (MQ bl9 (CQ w zN (some (.int (bI (¬ bI (¬ M.1 a 2 &&& 4 = 0) = bI (¬ M.1 b 2 &&& 4 = 0))))) M) ag9 s9 0 0 (fun q : Nat => w.2.2 ≤ q)) w zN M 0 [(0, .int (nI 7)), (1, .ref (w.2.2 + n1)), (2, .ref (w.2.2 + a)), (3, .ref (w.2.2 + b))] []
  refine x_aload_n (pc := 0) K 3 d_C_breaksAsOld_0 rfl ?_
  refine x_ifnonnull (pc := 1) K (tgt := 15) d_C_breaksAsOld_1 (by decide) ?_
  refine x_iload_n (pc := 15) K 0 d_C_breaksAsOld_15 rfl ?_
  refine x_tableIn (pc := 16) K (tgt := 73) d_C_breaksAsOld_16 (by decide) (by decide) (off := 57) (by decide) (by decide) ?_
  refine x_aload_n (pc := 73) K 2 d_C_breaksAsOld_73 rfl ?_
  refine x_iconst (pc := 74) K (v := 4) d_C_breaksAsOld_74 (by decide) ?_
  refine x_callV (pc := 75) K (As := [.int 4]) (rest := []) (c_M_hasAny l w M 4 a hA) (zcwV K.ts lk_C_116 im_M_hasAny se_M_hasAny ii_M co_M_hasAny pd_M_hasAny ⟨rfl, rfl⟩ ⟨by decide, by decide⟩) (zlt hA) hA rfl rfl rfl (Nat.le_of_ble_eq_true rfl) ⟨Nat.zero_le _, Nat.zero_le _⟩ d_C_breaksAsOld_75 ?_
  refine x_aload_n (pc := 78) K 3 d_C_breaksAsOld_78 rfl ?_
  refine x_iconst (pc := 79) K (v := 4) d_C_breaksAsOld_79 (by decide) ?_
  refine x_callV (pc := 80) K (As := [.int 4]) (rest := [.int (bI (¬ M.1 a 2 &&& 4 = 0))]) (c_M_hasAny l w M 4 b hB) (zcwV K.ts lk_C_116 im_M_hasAny se_M_hasAny ii_M co_M_hasAny pd_M_hasAny ⟨rfl, rfl⟩ ⟨by decide, by decide⟩) (zlt hB) hB rfl rfl rfl (Nat.le_of_ble_eq_true rfl) ⟨Nat.zero_le _, Nat.zero_le _⟩ d_C_breaksAsOld_80 ?_
  refine x_icmp_eq (pc := 83) K (tgt := 90) d_C_breaksAsOld_83 (by decide) (fun c83 => ?_) (fun c83 => ?_)
  · skip
    refine x_iconst (pc := 90) K (v := 0) d_C_breaksAsOld_90 (by decide) ?_
    exact x_zret (pc := 91) K (rF (by first | (simp_all; done) | grind)) rfl rfl d_C_breaksAsOld_91
  · skip
    refine x_iconst (pc := 86) K (v := 1) d_C_breaksAsOld_86 (by decide) ?_
    refine x_goto (pc := 87) K (tgt := 91) d_C_breaksAsOld_87 (by decide) ?_
    exact x_zret (pc := 91) K (rT (by first | (simp_all; done) | grind)) rfl rfl d_C_breaksAsOld_91
set_option maxHeartbeats 4000000 in
set_option maxRecDepth 100000 in
theorem c_C_breaksAsOld8 (l : Launch) (w : fl_W) (M : fl_M) (n1 a b : Nat) (hT : zSh n1 = zsT) (hA : zSh a = zsM) (hB : zSh b = zsM)  : CT l y_C_breaksAsOld w_C_breaksAsOld rm_C_breaksAsOld w zN [.int (nI 8), .ref (w.2.2 + n1), .ref (w.2.2 + a), .ref (w.2.2 + b)] M (some (.int (bI (M.1 a 0 = 0 ∧ (¬ ¬ M.1 a 2 &&& 8 = 0) ∧ ¬ M.1 b 2 &&& 8 = 0)))) M := by
  refine CT.of (cc := b_C_breaksAsOld) (own := "CompatibilityJudge$Comparison") (by decide) rfl rfl (Nat.le_of_ble_eq_true rfl) ?_
  intro p9 e9 s9 m9 ag9 bl9 mt9 c9 K
  show XW p9 l e9 (rm_C_breaksAsOld) s9 m9 ag9 bl9 mt9 c9 4 0 0 (MQ bl9 (CQ w zN (some (.int (bI (M.1 a 0 = 0 ∧ (¬ ¬ M.1 a 2 &&& 8 = 0) ∧ ¬ M.1 b 2 &&& 8 = 0)))) M) ag9 s9 0 0 (fun q : Nat => w.2.2 ≤ q)) w zN M 0 [(0, .int (nI 8)), (1, .ref (w.2.2 + n1)), (2, .ref (w.2.2 + a)), (3, .ref (w.2.2 + b))] []
  refine x_aload_n (pc := 0) K 3 d_C_breaksAsOld_0 rfl ?_
  refine x_ifnonnull (pc := 1) K (tgt := 15) d_C_breaksAsOld_1 (by decide) ?_
  refine x_iload_n (pc := 15) K 0 d_C_breaksAsOld_15 rfl ?_
  refine x_tableIn (pc := 16) K (tgt := 92) d_C_breaksAsOld_16 (by decide) (by decide) (off := 76) (by decide) (by decide) ?_
  refine x_aload_n (pc := 92) K 2 d_C_breaksAsOld_92 rfl ?_
  refine x_geti (pc := 93) K (n := a) (k := 0) (zlt hA) hA rfl rfl (by decide) (fun _ q => zmem (uw_M _ q)) (zmem lk_C_96) d_C_breaksAsOld_93 ?_
  refine x_if_ne (pc := 96) K (tgt := 121) d_C_breaksAsOld_96 (by decide) (fun c96 => ?_) (fun c96 => ?_)
  · skip
    refine x_iconst (pc := 121) K (v := 0) d_C_breaksAsOld_121 (by decide) ?_
    exact x_zret (pc := 122) K (rF (by first | (simp_all; done) | grind)) rfl rfl d_C_breaksAsOld_122
  · skip
    refine x_aload_n (pc := 99) K 2 d_C_breaksAsOld_99 rfl ?_
    refine x_bipush (pc := 100) K (v := 8) d_C_breaksAsOld_100 (by decide) ?_
    refine x_callV (pc := 102) K (As := [.int 8]) (rest := []) (c_M_hasAny l w M 8 a hA) (zcwV K.ts lk_C_116 im_M_hasAny se_M_hasAny ii_M co_M_hasAny pd_M_hasAny ⟨rfl, rfl⟩ ⟨by decide, by decide⟩) (zlt hA) hA rfl rfl rfl (Nat.le_of_ble_eq_true rfl) ⟨Nat.zero_le _, Nat.zero_le _⟩ d_C_breaksAsOld_102 ?_
    refine x_ifneB (pc := 105) K (tgt := 121) d_C_breaksAsOld_105 (by decide) (fun c105 => ?_) (fun c105 => ?_)
    · skip
      refine x_iconst (pc := 121) K (v := 0) d_C_breaksAsOld_121 (by decide) ?_
      exact x_zret (pc := 122) K (rF (by first | (simp_all; done) | grind)) rfl rfl d_C_breaksAsOld_122
    · skip
      refine x_aload_n (pc := 108) K 3 d_C_breaksAsOld_108 rfl ?_
      refine x_bipush (pc := 109) K (v := 8) d_C_breaksAsOld_109 (by decide) ?_
      refine x_callV (pc := 111) K (As := [.int 8]) (rest := []) (c_M_hasAny l w M 8 b hB) (zcwV K.ts lk_C_116 im_M_hasAny se_M_hasAny ii_M co_M_hasAny pd_M_hasAny ⟨rfl, rfl⟩ ⟨by decide, by decide⟩) (zlt hB) hB rfl rfl rfl (Nat.le_of_ble_eq_true rfl) ⟨Nat.zero_le _, Nat.zero_le _⟩ d_C_breaksAsOld_111 ?_
      refine x_ifeqB (pc := 114) K (tgt := 121) d_C_breaksAsOld_114 (by decide) (fun c114 => ?_) (fun c114 => ?_)
      · skip
        refine x_iconst (pc := 121) K (v := 0) d_C_breaksAsOld_121 (by decide) ?_
        exact x_zret (pc := 122) K (rF (by first | (simp_all; done) | grind)) rfl rfl d_C_breaksAsOld_122
      · skip
        refine x_iconst (pc := 117) K (v := 1) d_C_breaksAsOld_117 (by decide) ?_
        refine x_goto (pc := 118) K (tgt := 122) d_C_breaksAsOld_118 (by decide) ?_
        exact x_zret (pc := 122) K (rT (by first | (simp_all; done) | grind)) rfl rfl d_C_breaksAsOld_122
set_option maxHeartbeats 4000000 in
set_option maxRecDepth 100000 in
theorem c_C_breaksAsOld9 (l : Launch) (w : fl_W) (M : fl_M) (n1 a b : Nat) (hT : zSh n1 = zsT) (hA : zSh a = zsM) (hB : zSh b = zsM)  : CT l y_C_breaksAsOld w_C_breaksAsOld rm_C_breaksAsOld w zN [.int (nI 9), .ref (w.2.2 + n1), .ref (w.2.2 + a), .ref (w.2.2 + b)] M (some (.int (bI (¬ M.1 a 3 = 0 ∧ ¬ (¬ M.1 a 3 = 0 ∧ ¬ M.1 b 3 = 0 ∧ M.1 a 4 = M.1 b 4))))) M := by
  refine CT.of (cc := b_C_breaksAsOld) (own := "CompatibilityJudge$Comparison") (by decide) rfl rfl (Nat.le_of_ble_eq_true rfl) ?_
  intro p9 e9 s9 m9 ag9 bl9 mt9 c9 K
  show XW p9 l e9 (rm_C_breaksAsOld) s9 m9 ag9 bl9 mt9 c9 4 0 0 (MQ bl9 (CQ w zN (some (.int (bI (¬ M.1 a 3 = 0 ∧ ¬ (¬ M.1 a 3 = 0 ∧ ¬ M.1 b 3 = 0 ∧ M.1 a 4 = M.1 b 4))))) M) ag9 s9 0 0 (fun q : Nat => w.2.2 ≤ q)) w zN M 0 [(0, .int (nI 9)), (1, .ref (w.2.2 + n1)), (2, .ref (w.2.2 + a)), (3, .ref (w.2.2 + b))] []
  refine x_aload_n (pc := 0) K 3 d_C_breaksAsOld_0 rfl ?_
  refine x_ifnonnull (pc := 1) K (tgt := 15) d_C_breaksAsOld_1 (by decide) ?_
  refine x_iload_n (pc := 15) K 0 d_C_breaksAsOld_15 rfl ?_
  refine x_tableIn (pc := 16) K (tgt := 123) d_C_breaksAsOld_16 (by decide) (by decide) (off := 107) (by decide) (by decide) ?_
  refine x_aload_n (pc := 123) K 2 d_C_breaksAsOld_123 rfl ?_
  refine x_geti (pc := 124) K (n := a) (k := 3) (zlt hA) hA rfl rfl (by decide) (fun _ q => zmem (uw_M _ q)) (zmem lk_C_117) d_C_breaksAsOld_124 ?_
  refine x_if_eq (pc := 127) K (tgt := 142) d_C_breaksAsOld_127 (by decide) (fun c127 => ?_) (fun c127 => ?_)
  · skip
    refine x_iconst (pc := 142) K (v := 0) d_C_breaksAsOld_142 (by decide) ?_
    exact x_zret (pc := 143) K (rF (by first | (simp_all; done) | grind)) rfl rfl d_C_breaksAsOld_143
  · skip
    refine x_aload_n (pc := 130) K 2 d_C_breaksAsOld_130 rfl ?_
    refine x_aload_n (pc := 131) K 3 d_C_breaksAsOld_131 rfl ?_
    refine x_callV (pc := 132) K (As := [.ref (w.2.2 + b)]) (rest := []) (c_M_hasConstantOf l w M b hB a hA) (zcwV K.ts lk_C_120 im_M_hasConstantOf se_M_hasConstantOf ii_M co_M_hasConstantOf pd_M_hasConstantOf ⟨rfl, rfl⟩ ⟨by decide, by decide⟩) (zlt hA) hA rfl rfl rfl (Nat.le_of_ble_eq_true rfl) ⟨Nat.zero_le _, Nat.zero_le _⟩ d_C_breaksAsOld_132 ?_
    refine x_ifneB (pc := 135) K (tgt := 142) d_C_breaksAsOld_135 (by decide) (fun c135 => ?_) (fun c135 => ?_)
    · skip
      refine x_iconst (pc := 142) K (v := 0) d_C_breaksAsOld_142 (by decide) ?_
      exact x_zret (pc := 143) K (rF (by first | (simp_all; done) | grind)) rfl rfl d_C_breaksAsOld_143
    · skip
      refine x_iconst (pc := 138) K (v := 1) d_C_breaksAsOld_138 (by decide) ?_
      refine x_goto (pc := 139) K (tgt := 143) d_C_breaksAsOld_139 (by decide) ?_
      exact x_zret (pc := 143) K (rT (by first | (simp_all; done) | grind)) rfl rfl d_C_breaksAsOld_143
set_option maxHeartbeats 4000000 in
set_option maxRecDepth 100000 in
theorem c_C_breaksAsOld10 (l : Launch) (w : fl_W) (M : fl_M) (n1 a b : Nat) (hT : zSh n1 = zsT) (hA : zSh a = zsM) (hB : zSh b = zsM)  : CT l y_C_breaksAsOld w_C_breaksAsOld rm_C_breaksAsOld w zN [.int (nI 10), .ref (w.2.2 + n1), .ref (w.2.2 + a), .ref (w.2.2 + b)] M (some (.int (bI (M.1 a 0 = 1 ∧ (¬ ¬ M.1 a 2 &&& 16 = 0) ∧ ¬ M.1 b 2 &&& 16 = 0)))) M := by
  refine CT.of (cc := b_C_breaksAsOld) (own := "CompatibilityJudge$Comparison") (by decide) rfl rfl (Nat.le_of_ble_eq_true rfl) ?_
  intro p9 e9 s9 m9 ag9 bl9 mt9 c9 K
  show XW p9 l e9 (rm_C_breaksAsOld) s9 m9 ag9 bl9 mt9 c9 4 0 0 (MQ bl9 (CQ w zN (some (.int (bI (M.1 a 0 = 1 ∧ (¬ ¬ M.1 a 2 &&& 16 = 0) ∧ ¬ M.1 b 2 &&& 16 = 0)))) M) ag9 s9 0 0 (fun q : Nat => w.2.2 ≤ q)) w zN M 0 [(0, .int (nI 10)), (1, .ref (w.2.2 + n1)), (2, .ref (w.2.2 + a)), (3, .ref (w.2.2 + b))] []
  refine x_aload_n (pc := 0) K 3 d_C_breaksAsOld_0 rfl ?_
  refine x_ifnonnull (pc := 1) K (tgt := 15) d_C_breaksAsOld_1 (by decide) ?_
  refine x_iload_n (pc := 15) K 0 d_C_breaksAsOld_15 rfl ?_
  refine x_tableIn (pc := 16) K (tgt := 144) d_C_breaksAsOld_16 (by decide) (by decide) (off := 128) (by decide) (by decide) ?_
  refine x_aload_n (pc := 144) K 2 d_C_breaksAsOld_144 rfl ?_
  refine x_geti (pc := 145) K (n := a) (k := 0) (zlt hA) hA rfl rfl (by decide) (fun _ q => zmem (uw_M _ q)) (zmem lk_C_96) d_C_breaksAsOld_145 ?_
  refine x_iconst (pc := 148) K (v := 1) d_C_breaksAsOld_148 (by decide) ?_
  refine x_icmp_ne (pc := 149) K (tgt := 174) d_C_breaksAsOld_149 (by decide) (fun c149 => ?_) (fun c149 => ?_)
  · skip
    refine x_iconst (pc := 174) K (v := 0) d_C_breaksAsOld_174 (by decide) ?_
    exact x_zret (pc := 175) K (rF (by first | (simp_all; done) | grind)) rfl rfl d_C_breaksAsOld_175
  · skip
    refine x_aload_n (pc := 152) K 2 d_C_breaksAsOld_152 rfl ?_
    refine x_bipush (pc := 153) K (v := 16) d_C_breaksAsOld_153 (by decide) ?_
    refine x_callV (pc := 155) K (As := [.int 16]) (rest := []) (c_M_hasAny l w M 16 a hA) (zcwV K.ts lk_C_116 im_M_hasAny se_M_hasAny ii_M co_M_hasAny pd_M_hasAny ⟨rfl, rfl⟩ ⟨by decide, by decide⟩) (zlt hA) hA rfl rfl rfl (Nat.le_of_ble_eq_true rfl) ⟨Nat.zero_le _, Nat.zero_le _⟩ d_C_breaksAsOld_155 ?_
    refine x_ifneB (pc := 158) K (tgt := 174) d_C_breaksAsOld_158 (by decide) (fun c158 => ?_) (fun c158 => ?_)
    · skip
      refine x_iconst (pc := 174) K (v := 0) d_C_breaksAsOld_174 (by decide) ?_
      exact x_zret (pc := 175) K (rF (by first | (simp_all; done) | grind)) rfl rfl d_C_breaksAsOld_175
    · skip
      refine x_aload_n (pc := 161) K 3 d_C_breaksAsOld_161 rfl ?_
      refine x_bipush (pc := 162) K (v := 16) d_C_breaksAsOld_162 (by decide) ?_
      refine x_callV (pc := 164) K (As := [.int 16]) (rest := []) (c_M_hasAny l w M 16 b hB) (zcwV K.ts lk_C_116 im_M_hasAny se_M_hasAny ii_M co_M_hasAny pd_M_hasAny ⟨rfl, rfl⟩ ⟨by decide, by decide⟩) (zlt hB) hB rfl rfl rfl (Nat.le_of_ble_eq_true rfl) ⟨Nat.zero_le _, Nat.zero_le _⟩ d_C_breaksAsOld_164 ?_
      refine x_ifeqB (pc := 167) K (tgt := 174) d_C_breaksAsOld_167 (by decide) (fun c167 => ?_) (fun c167 => ?_)
      · skip
        refine x_iconst (pc := 174) K (v := 0) d_C_breaksAsOld_174 (by decide) ?_
        exact x_zret (pc := 175) K (rF (by first | (simp_all; done) | grind)) rfl rfl d_C_breaksAsOld_175
      · skip
        refine x_iconst (pc := 170) K (v := 1) d_C_breaksAsOld_170 (by decide) ?_
        refine x_goto (pc := 171) K (tgt := 175) d_C_breaksAsOld_171 (by decide) ?_
        exact x_zret (pc := 175) K (rT (by first | (simp_all; done) | grind)) rfl rfl d_C_breaksAsOld_175
set_option maxHeartbeats 4000000 in
set_option maxRecDepth 100000 in
theorem c_C_breaksAsOld11 (l : Launch) (w : fl_W) (M : fl_M) (n1 a b : Nat) (hT : zSh n1 = zsT) (hA : zSh a = zsM) (hB : zSh b = zsM)  : CT l y_C_breaksAsOld w_C_breaksAsOld rm_C_breaksAsOld w zN [.int (nI 11), .ref (w.2.2 + n1), .ref (w.2.2 + a), .ref (w.2.2 + b)] M (some (.int (bI (M.1 a 0 = 1 ∧ (¬ ¬ M.1 a 2 &&& 12 = 0) ∧ (¬ ¬ M.1 n1 2 &&& 4 = 0) ∧ ¬ M.1 b 2 &&& 8 = 0)))) M := by
  refine CT.of (cc := b_C_breaksAsOld) (own := "CompatibilityJudge$Comparison") (by decide) rfl rfl (Nat.le_of_ble_eq_true rfl) ?_
  intro p9 e9 s9 m9 ag9 bl9 mt9 c9 K
  show XW p9 l e9 (rm_C_breaksAsOld) s9 m9 ag9 bl9 mt9 c9 4 0 0 (MQ bl9 (CQ w zN (some (.int (bI (M.1 a 0 = 1 ∧ (¬ ¬ M.1 a 2 &&& 12 = 0) ∧ (¬ ¬ M.1 n1 2 &&& 4 = 0) ∧ ¬ M.1 b 2 &&& 8 = 0)))) M) ag9 s9 0 0 (fun q : Nat => w.2.2 ≤ q)) w zN M 0 [(0, .int (nI 11)), (1, .ref (w.2.2 + n1)), (2, .ref (w.2.2 + a)), (3, .ref (w.2.2 + b))] []
  refine x_aload_n (pc := 0) K 3 d_C_breaksAsOld_0 rfl ?_
  refine x_ifnonnull (pc := 1) K (tgt := 15) d_C_breaksAsOld_1 (by decide) ?_
  refine x_iload_n (pc := 15) K 0 d_C_breaksAsOld_15 rfl ?_
  refine x_tableIn (pc := 16) K (tgt := 176) d_C_breaksAsOld_16 (by decide) (by decide) (off := 160) (by decide) (by decide) ?_
  refine x_aload_n (pc := 176) K 2 d_C_breaksAsOld_176 rfl ?_
  refine x_geti (pc := 177) K (n := a) (k := 0) (zlt hA) hA rfl rfl (by decide) (fun _ q => zmem (uw_M _ q)) (zmem lk_C_96) d_C_breaksAsOld_177 ?_
  refine x_iconst (pc := 180) K (v := 1) d_C_breaksAsOld_180 (by decide) ?_
  refine x_icmp_ne (pc := 181) K (tgt := 214) d_C_breaksAsOld_181 (by decide) (fun c181 => ?_) (fun c181 => ?_)
  · skip
    refine x_iconst (pc := 214) K (v := 0) d_C_breaksAsOld_214 (by decide) ?_
    exact x_zret (pc := 215) K (rF (by first | (simp_all; done) | grind)) rfl rfl d_C_breaksAsOld_215
  · skip
    refine x_aload_n (pc := 184) K 2 d_C_breaksAsOld_184 rfl ?_
    refine x_bipush (pc := 185) K (v := 12) d_C_breaksAsOld_185 (by decide) ?_
    refine x_callV (pc := 187) K (As := [.int 12]) (rest := []) (c_M_hasAny l w M 12 a hA) (zcwV K.ts lk_C_116 im_M_hasAny se_M_hasAny ii_M co_M_hasAny pd_M_hasAny ⟨rfl, rfl⟩ ⟨by decide, by decide⟩) (zlt hA) hA rfl rfl rfl (Nat.le_of_ble_eq_true rfl) ⟨Nat.zero_le _, Nat.zero_le _⟩ d_C_breaksAsOld_187 ?_
    refine x_ifneB (pc := 190) K (tgt := 214) d_C_breaksAsOld_190 (by decide) (fun c190 => ?_) (fun c190 => ?_)
    · skip
      refine x_iconst (pc := 214) K (v := 0) d_C_breaksAsOld_214 (by decide) ?_
      exact x_zret (pc := 215) K (rF (by first | (simp_all; done) | grind)) rfl rfl d_C_breaksAsOld_215
    · skip
      refine x_aload_n (pc := 193) K 1 d_C_breaksAsOld_193 rfl ?_
      refine x_iconst (pc := 194) K (v := 4) d_C_breaksAsOld_194 (by decide) ?_
      refine x_callV (pc := 195) K (As := [.int 4]) (rest := []) (c_T_hasAny l w M 4 n1 hT) (zcwV K.ts lk_C_72 im_T_hasAny se_T_hasAny ii_T co_T_hasAny pd_T_hasAny ⟨rfl, rfl⟩ ⟨by decide, by decide⟩) (zlt hT) hT rfl rfl rfl (Nat.le_of_ble_eq_true rfl) ⟨Nat.zero_le _, Nat.zero_le _⟩ d_C_breaksAsOld_195 ?_
      refine x_ifneB (pc := 198) K (tgt := 214) d_C_breaksAsOld_198 (by decide) (fun c198 => ?_) (fun c198 => ?_)
      · skip
        refine x_iconst (pc := 214) K (v := 0) d_C_breaksAsOld_214 (by decide) ?_
        exact x_zret (pc := 215) K (rF (by first | (simp_all; done) | grind)) rfl rfl d_C_breaksAsOld_215
      · skip
        refine x_aload_n (pc := 201) K 3 d_C_breaksAsOld_201 rfl ?_
        refine x_bipush (pc := 202) K (v := 8) d_C_breaksAsOld_202 (by decide) ?_
        refine x_callV (pc := 204) K (As := [.int 8]) (rest := []) (c_M_hasAny l w M 8 b hB) (zcwV K.ts lk_C_116 im_M_hasAny se_M_hasAny ii_M co_M_hasAny pd_M_hasAny ⟨rfl, rfl⟩ ⟨by decide, by decide⟩) (zlt hB) hB rfl rfl rfl (Nat.le_of_ble_eq_true rfl) ⟨Nat.zero_le _, Nat.zero_le _⟩ d_C_breaksAsOld_204 ?_
        refine x_ifeqB (pc := 207) K (tgt := 214) d_C_breaksAsOld_207 (by decide) (fun c207 => ?_) (fun c207 => ?_)
        · skip
          refine x_iconst (pc := 214) K (v := 0) d_C_breaksAsOld_214 (by decide) ?_
          exact x_zret (pc := 215) K (rF (by first | (simp_all; done) | grind)) rfl rfl d_C_breaksAsOld_215
        · skip
          refine x_iconst (pc := 210) K (v := 1) d_C_breaksAsOld_210 (by decide) ?_
          refine x_goto (pc := 211) K (tgt := 215) d_C_breaksAsOld_211 (by decide) ?_
          exact x_zret (pc := 215) K (rT (by first | (simp_all; done) | grind)) rfl rfl d_C_breaksAsOld_215
theorem c_C_breaksAsOld (l : Launch) (w : fl_W) (M : fl_M) (n1 a b : Nat) (hT : zSh n1 = zsT) (hA : zSh a = zsM) (hB : zSh b = zsM) (r : Nat) (h5 : 5 ≤ r) (h11 : r ≤ 11) : ∃ P : Prop, ∃ _ : Decidable P, (P ↔ brO M.1 r n1 a b) ∧ CT l y_C_breaksAsOld w_C_breaksAsOld rm_C_breaksAsOld w zN [.int (nI r), .ref (w.2.2 + n1), .ref (w.2.2 + a), .ref (w.2.2 + b)] M (some (.int (bI P))) M := by
  rcases (show r = 5 ∨ r = 6 ∨ r = 7 ∨ r = 8 ∨ r = 9 ∨ r = 10 ∨ r = 11 by omega) with rfl | rfl | rfl | rfl | rfl | rfl | rfl
  · exact ⟨_, inferInstance, by simp [brO], c_C_breaksAsOld5 l w M n1 a b hT hA hB⟩
  · exact ⟨_, inferInstance, by simp [brO], c_C_breaksAsOld6 l w M n1 a b hT hA hB⟩
  · exact ⟨_, inferInstance, by simp [brO], c_C_breaksAsOld7 l w M n1 a b hT hA hB⟩
  · exact ⟨_, inferInstance, by simp [brO], c_C_breaksAsOld8 l w M n1 a b hT hA hB⟩
  · exact ⟨_, inferInstance, by simp [brO], c_C_breaksAsOld9 l w M n1 a b hT hA hB⟩
  · exact ⟨_, inferInstance, by simp [brO], c_C_breaksAsOld10 l w M n1 a b hT hA hB⟩
  · exact ⟨_, inferInstance, by simp [brO], c_C_breaksAsOld11 l w M n1 a b hT hA hB⟩
abbrev brN (μ : Nat → Nat → Int32) (r : Int32) (a b : Nat) : Prop := ¬ r = 13 ∧ ¬ μ a 0 = 2 ∧ (¬ (μ b 2 &&& 3) < 2) ∧ ((μ a 2 &&& 3) < (μ b 2 &&& 3) ∨ ¬ bI (¬ μ a 2 &&& 4 = 0) = bI (¬ μ b 2 &&& 4 = 0))
abbrev brZ (μ : Nat → Nat → Int32) (r : Int32) (a : Nat) : Prop := r = 13 ∧ μ a 0 = 1 ∧ ¬ μ a 2 &&& 16 = 0
set_option maxHeartbeats 4000000 in
set_option maxRecDepth 100000 in
theorem c_C_breaksAsNewN (l : Launch) (w : fl_W) (M : fl_M) (a : Nat) (hA : zSh a = zsM) (r : Int32) : CT l y_C_breaksAsNew w_C_breaksAsNew rm_C_breaksAsNew w zN [.int r, .ref (w.2.2 + a), .null] M (some (.int (bI (brZ M.1 r a)))) M := by
  refine CT.of (cc := b_C_breaksAsNew) (own := "CompatibilityJudge$Comparison") (by decide) rfl rfl (Nat.le_of_ble_eq_true rfl) ?_
  intro p9 e9 s9 m9 ag9 bl9 mt9 c9 K
  show XW p9 l e9 (rm_C_breaksAsNew) s9 m9 ag9 bl9 mt9 c9 3 0 0 (MQ bl9 (CQ w zN (some (.int (bI (brZ M.1 r a)))) M) ag9 s9 0 0 (fun q : Nat => w.2.2 ≤ q)) w zN M 0 [(0, .int r), (1, .ref (w.2.2 + a)), (2, .null)] []
  refine x_iload_n (pc := 0) K 0 d_C_breaksAsNew_0 rfl ?_
  refine x_bipush (pc := 1) K (v := 13) d_C_breaksAsNew_1 (by decide) ?_
  refine x_icmp_ne (pc := 3) K (tgt := 33) d_C_breaksAsNew_3 (by decide) (fun c3 => ?_) (fun c3 => ?_)
  · skip
    refine x_aload_n (pc := 33) K 1 d_C_breaksAsNew_33 rfl ?_
    refine x_geti (pc := 34) K (n := a) (k := 0) (zlt hA) hA rfl rfl (by decide) (fun _ q => zmem (uw_M _ q)) (zmem lk_C_96) d_C_breaksAsNew_34 ?_
    refine x_iconst (pc := 37) K (v := 2) d_C_breaksAsNew_37 (by decide) ?_
    refine x_icmp_eq (pc := 38) K (tgt := 80) d_C_breaksAsNew_38 (by decide) (fun c38 => ?_) (fun c38 => ?_)
    · skip
      refine x_iconst (pc := 80) K (v := 0) d_C_breaksAsNew_80 (by decide) ?_
      exact x_zret (pc := 81) K (rF (by first | (simp_all [brZ]; done) | grind)) rfl rfl d_C_breaksAsNew_81
    · skip
      refine x_aload_nN (pc := 41) K 2 d_C_breaksAsNew_41 rfl ?_
      refine x_ifnullN (pc := 42) K (tgt := 80) d_C_breaksAsNew_42 (by decide) ?_
      refine x_iconst (pc := 80) K (v := 0) d_C_breaksAsNew_80 (by decide) ?_
      exact x_zret (pc := 81) K (rF (by first | (simp_all [brZ]; done) | grind)) rfl rfl d_C_breaksAsNew_81
  · skip
    refine x_aload_n (pc := 6) K 1 d_C_breaksAsNew_6 rfl ?_
    refine x_geti (pc := 7) K (n := a) (k := 0) (zlt hA) hA rfl rfl (by decide) (fun _ q => zmem (uw_M _ q)) (zmem lk_C_96) d_C_breaksAsNew_7 ?_
    refine x_iconst (pc := 10) K (v := 1) d_C_breaksAsNew_10 (by decide) ?_
    refine x_icmp_ne (pc := 11) K (tgt := 31) d_C_breaksAsNew_11 (by decide) (fun c11 => ?_) (fun c11 => ?_)
    · skip
      refine x_iconst (pc := 31) K (v := 0) d_C_breaksAsNew_31 (by decide) ?_
      exact x_zret (pc := 32) K (rF (by first | (simp_all [brZ]; done) | grind)) rfl rfl d_C_breaksAsNew_32
    · skip
      refine x_aload_n (pc := 14) K 1 d_C_breaksAsNew_14 rfl ?_
      refine x_bipush (pc := 15) K (v := 16) d_C_breaksAsNew_15 (by decide) ?_
      refine x_callV (pc := 17) K (As := [.int 16]) (rest := []) (c_M_hasAny l w M 16 a hA) (zcwV K.ts lk_C_116 im_M_hasAny se_M_hasAny ii_M co_M_hasAny pd_M_hasAny ⟨rfl, rfl⟩ ⟨by decide, by decide⟩) (zlt hA) hA rfl rfl rfl (Nat.le_of_ble_eq_true rfl) ⟨Nat.zero_le _, Nat.zero_le _⟩ d_C_breaksAsNew_17 ?_
      refine x_ifeqB (pc := 20) K (tgt := 31) d_C_breaksAsNew_20 (by decide) (fun c20 => ?_) (fun c20 => ?_)
      · skip
        refine x_iconst (pc := 31) K (v := 0) d_C_breaksAsNew_31 (by decide) ?_
        exact x_zret (pc := 32) K (rF (by first | (simp_all [brZ]; done) | grind)) rfl rfl d_C_breaksAsNew_32
      · skip
        refine x_aload_nN (pc := 23) K 2 d_C_breaksAsNew_23 rfl ?_
        refine x_ifnonnullN (pc := 24) K d_C_breaksAsNew_24 ?_
        refine x_iconst (pc := 27) K (v := 1) d_C_breaksAsNew_27 (by decide) ?_
        refine x_goto (pc := 28) K (tgt := 32) d_C_breaksAsNew_28 (by decide) ?_
        exact x_zret (pc := 32) K (rT (by first | (simp_all [brZ]; done) | grind)) rfl rfl d_C_breaksAsNew_32
set_option maxHeartbeats 4000000 in
set_option maxRecDepth 100000 in
theorem c_C_breaksAsNew (l : Launch) (w : fl_W) (M : fl_M) (a b : Nat) (hA : zSh a = zsM) (hB : zSh b = zsM) (r : Int32) : CT l y_C_breaksAsNew w_C_breaksAsNew rm_C_breaksAsNew w zN [.int r, .ref (w.2.2 + a), .ref (w.2.2 + b)] M (some (.int (bI (brN M.1 r a b)))) M := by
  refine CT.of (cc := b_C_breaksAsNew) (own := "CompatibilityJudge$Comparison") (by decide) rfl rfl (Nat.le_of_ble_eq_true rfl) ?_
  intro p9 e9 s9 m9 ag9 bl9 mt9 c9 K
  show XW p9 l e9 (rm_C_breaksAsNew) s9 m9 ag9 bl9 mt9 c9 3 0 0 (MQ bl9 (CQ w zN (some (.int (bI (brN M.1 r a b)))) M) ag9 s9 0 0 (fun q : Nat => w.2.2 ≤ q)) w zN M 0 [(0, .int r), (1, .ref (w.2.2 + a)), (2, .ref (w.2.2 + b))] []
  refine x_iload_n (pc := 0) K 0 d_C_breaksAsNew_0 rfl ?_
  refine x_bipush (pc := 1) K (v := 13) d_C_breaksAsNew_1 (by decide) ?_
  refine x_icmp_ne (pc := 3) K (tgt := 33) d_C_breaksAsNew_3 (by decide) (fun c3 => ?_) (fun c3 => ?_)
  · skip
    refine x_aload_n (pc := 33) K 1 d_C_breaksAsNew_33 rfl ?_
    refine x_geti (pc := 34) K (n := a) (k := 0) (zlt hA) hA rfl rfl (by decide) (fun _ q => zmem (uw_M _ q)) (zmem lk_C_96) d_C_breaksAsNew_34 ?_
    refine x_iconst (pc := 37) K (v := 2) d_C_breaksAsNew_37 (by decide) ?_
    refine x_icmp_eq (pc := 38) K (tgt := 80) d_C_breaksAsNew_38 (by decide) (fun c38 => ?_) (fun c38 => ?_)
    · skip
      refine x_iconst (pc := 80) K (v := 0) d_C_breaksAsNew_80 (by decide) ?_
      exact x_zret (pc := 81) K (rF (by first | (simp_all [brN]; done) | grind)) rfl rfl d_C_breaksAsNew_81
    · skip
      refine x_aload_n (pc := 41) K 2 d_C_breaksAsNew_41 rfl ?_
      refine x_ifnull (pc := 42) K d_C_breaksAsNew_42 ?_
      refine x_aload_n (pc := 45) K 2 d_C_breaksAsNew_45 rfl ?_
      refine x_callV (pc := 46) K (As := []) (rest := []) (c_M_isOpen l w M b hB) (zcwV K.ts lk_C_89 im_M_isOpen se_M_isOpen ii_M co_M_isOpen pd_M_isOpen ⟨rfl, rfl⟩ ⟨by decide, by decide⟩) (zlt hB) hB rfl rfl rfl (Nat.le_of_ble_eq_true rfl) ⟨Nat.zero_le _, Nat.zero_le _⟩ d_C_breaksAsNew_46 ?_
      refine x_ifeqB (pc := 49) K (tgt := 80) d_C_breaksAsNew_49 (by decide) (fun c49 => ?_) (fun c49 => ?_)
      · skip
        refine x_iconst (pc := 80) K (v := 0) d_C_breaksAsNew_80 (by decide) ?_
        exact x_zret (pc := 81) K (rF (by first | (simp_all [brN]; done) | grind)) rfl rfl d_C_breaksAsNew_81
      · skip
        refine x_aload_n (pc := 52) K 1 d_C_breaksAsNew_52 rfl ?_
        refine x_callV (pc := 53) K (As := []) (rest := []) (c_M_access l w M a hA) (zcwV K.ts lk_C_112 im_M_access se_M_access ii_M co_M_access pd_M_access ⟨rfl, rfl⟩ ⟨by decide, by decide⟩) (zlt hA) hA rfl rfl rfl (Nat.le_of_ble_eq_true rfl) ⟨Nat.zero_le _, Nat.zero_le _⟩ d_C_breaksAsNew_53 ?_
        refine x_aload_n (pc := 56) K 2 d_C_breaksAsNew_56 rfl ?_
        refine x_callV (pc := 57) K (As := []) (rest := [.int (M.1 a 2 &&& 3)]) (c_M_access l w M b hB) (zcwV K.ts lk_C_112 im_M_access se_M_access ii_M co_M_access pd_M_access ⟨rfl, rfl⟩ ⟨by decide, by decide⟩) (zlt hB) hB rfl rfl rfl (Nat.le_of_ble_eq_true rfl) ⟨Nat.zero_le _, Nat.zero_le _⟩ d_C_breaksAsNew_57 ?_
        refine x_icmp_lt (pc := 60) K (tgt := 76) d_C_breaksAsNew_60 (by decide) (fun c60 => ?_) (fun c60 => ?_)
        · skip
          refine x_iconst (pc := 76) K (v := 1) d_C_breaksAsNew_76 (by decide) ?_
          refine x_goto (pc := 77) K (tgt := 81) d_C_breaksAsNew_77 (by decide) ?_
          exact x_zret (pc := 81) K (rT (by first | (simp_all [brN]; done) | grind)) rfl rfl d_C_breaksAsNew_81
        · skip
          refine x_aload_n (pc := 63) K 1 d_C_breaksAsNew_63 rfl ?_
          refine x_iconst (pc := 64) K (v := 4) d_C_breaksAsNew_64 (by decide) ?_
          refine x_callV (pc := 65) K (As := [.int 4]) (rest := []) (c_M_hasAny l w M 4 a hA) (zcwV K.ts lk_C_116 im_M_hasAny se_M_hasAny ii_M co_M_hasAny pd_M_hasAny ⟨rfl, rfl⟩ ⟨by decide, by decide⟩) (zlt hA) hA rfl rfl rfl (Nat.le_of_ble_eq_true rfl) ⟨Nat.zero_le _, Nat.zero_le _⟩ d_C_breaksAsNew_65 ?_
          refine x_aload_n (pc := 68) K 2 d_C_breaksAsNew_68 rfl ?_
          refine x_iconst (pc := 69) K (v := 4) d_C_breaksAsNew_69 (by decide) ?_
          refine x_callV (pc := 70) K (As := [.int 4]) (rest := [.int (bI (¬ M.1 a 2 &&& 4 = 0))]) (c_M_hasAny l w M 4 b hB) (zcwV K.ts lk_C_116 im_M_hasAny se_M_hasAny ii_M co_M_hasAny pd_M_hasAny ⟨rfl, rfl⟩ ⟨by decide, by decide⟩) (zlt hB) hB rfl rfl rfl (Nat.le_of_ble_eq_true rfl) ⟨Nat.zero_le _, Nat.zero_le _⟩ d_C_breaksAsNew_70 ?_
          refine x_icmp_eq (pc := 73) K (tgt := 80) d_C_breaksAsNew_73 (by decide) (fun c73 => ?_) (fun c73 => ?_)
          · skip
            refine x_iconst (pc := 80) K (v := 0) d_C_breaksAsNew_80 (by decide) ?_
            exact x_zret (pc := 81) K (rF (by first | (simp_all [brN]; done) | grind)) rfl rfl d_C_breaksAsNew_81
          · skip
            refine x_iconst (pc := 76) K (v := 1) d_C_breaksAsNew_76 (by decide) ?_
            refine x_goto (pc := 77) K (tgt := 81) d_C_breaksAsNew_77 (by decide) ?_
            exact x_zret (pc := 81) K (rT (by first | (simp_all [brN]; done) | grind)) rfl rfl d_C_breaksAsNew_81
  · skip
    refine x_aload_n (pc := 6) K 1 d_C_breaksAsNew_6 rfl ?_
    refine x_geti (pc := 7) K (n := a) (k := 0) (zlt hA) hA rfl rfl (by decide) (fun _ q => zmem (uw_M _ q)) (zmem lk_C_96) d_C_breaksAsNew_7 ?_
    refine x_iconst (pc := 10) K (v := 1) d_C_breaksAsNew_10 (by decide) ?_
    refine x_icmp_ne (pc := 11) K (tgt := 31) d_C_breaksAsNew_11 (by decide) (fun c11 => ?_) (fun c11 => ?_)
    · skip
      refine x_iconst (pc := 31) K (v := 0) d_C_breaksAsNew_31 (by decide) ?_
      exact x_zret (pc := 32) K (rF (by first | (simp_all [brN]; done) | grind)) rfl rfl d_C_breaksAsNew_32
    · skip
      refine x_aload_n (pc := 14) K 1 d_C_breaksAsNew_14 rfl ?_
      refine x_bipush (pc := 15) K (v := 16) d_C_breaksAsNew_15 (by decide) ?_
      refine x_callV (pc := 17) K (As := [.int 16]) (rest := []) (c_M_hasAny l w M 16 a hA) (zcwV K.ts lk_C_116 im_M_hasAny se_M_hasAny ii_M co_M_hasAny pd_M_hasAny ⟨rfl, rfl⟩ ⟨by decide, by decide⟩) (zlt hA) hA rfl rfl rfl (Nat.le_of_ble_eq_true rfl) ⟨Nat.zero_le _, Nat.zero_le _⟩ d_C_breaksAsNew_17 ?_
      refine x_ifeqB (pc := 20) K (tgt := 31) d_C_breaksAsNew_20 (by decide) (fun c20 => ?_) (fun c20 => ?_)
      · skip
        refine x_iconst (pc := 31) K (v := 0) d_C_breaksAsNew_31 (by decide) ?_
        exact x_zret (pc := 32) K (rF (by first | (simp_all [brN]; done) | grind)) rfl rfl d_C_breaksAsNew_32
      · skip
        refine x_aload_n (pc := 23) K 2 d_C_breaksAsNew_23 rfl ?_
        refine x_ifnonnull (pc := 24) K (tgt := 31) d_C_breaksAsNew_24 (by decide) ?_
        refine x_iconst (pc := 31) K (v := 0) d_C_breaksAsNew_31 (by decide) ?_
        exact x_zret (pc := 32) K (rF (by first | (simp_all [brN]; done) | grind)) rfl rfl d_C_breaksAsNew_32
/-- the field owners are types or none -/
def foOk (μ : Nat → Nat → Int32) (b : Nat) : Prop := ∀ t, t < 12 → (μ (b + 134) t = 12 ∨ inL 12 (μ (b + 134) t))
def bAll (μ : Nat → Nat → Int32) (b : Nat) : Prop := bOk μ b ∧ bSk μ b ∧ foOk μ b
/-- what holds while b1 is compared with b2 -/
def cOk (o b1 b2 : Nat) (M : fl_M) : Prop := zRf o M.2 ∧ bAll M.1 b1 ∧ bAll M.1 b2 ∧ zOk M.1
theorem bAll_congr {μ μ' : Nat → Nat → Int32} {b : Nat} (hB : zSh b = zsB) (e : ∀ a k, a < 272 → μ' a k = μ a k) (h : bAll μ b) : bAll μ' b := by
  have hb := shB2 hB
  refine ⟨bOk_congr (fun t ht k _ _ => e _ _ (by omega)) (fun t ht k => e _ _ (by omega)) h.1, bSk_congr (fun t ht => e _ _ (by omega)) h.2.1, fun t ht => ?_⟩
  rw [e _ _ (by omega)]
  exact h.2.2 t ht
theorem cOk_add {o b1 b2 : Nat} {M : fl_M} {r t d : Int32} (h1 : zSh b1 = zsB) (h2 : zSh b2 = zsB) (h : cOk o b1 b2 M) : cOk o b1 b2 (cAdd M r t d) :=
  ⟨by rw [cAdd_2]; exact h.1, bAll_congr h1 (fun a k ha => cAdd_rd (Or.inl ha)) h.2.1, bAll_congr h2 (fun a k ha => cAdd_rd (Or.inl ha)) h.2.2.1, cAdd_z h.2.2.2⟩
theorem zRf_p {o k : Nat} {r : Nat → Nat → Option Nat} {v : Option Nat} (h : zRf o r) : zRf o (fl_u r 276 k v) := by
  obtain ⟨h0, ⟨a1, a2, a3, a4, a5⟩, hb, ht, ⟨c1, c2, c3, c4⟩, hr, hr2⟩ := h
  have e : ∀ a j, a ≠ 276 → fl_u r 276 k v a j = r a j := fun a j ha => congrFun (fl_u_row ha) j
  refine ⟨h0, ⟨?_, ?_, ?_, ?_, ?_⟩, ?_, ?_, ⟨?_, ?_, ?_, ?_⟩, ?_, ?_⟩
  · rw [e _ _ (by decide)]; exact a1
  · rw [e _ _ (by decide)]; exact a2
  · rw [e _ _ (by decide)]; exact a3
  · rw [e _ _ (by decide)]; exact a4
  · rw [e _ _ (by decide)]; exact a5
  · intro b hB
    have := shB2 hB
    refine ⟨?_, ?_, fun t ht => ?_⟩
    · rw [e _ _ (by omega)]; exact (hb b hB).1
    · rw [e _ _ (by omega)]; exact (hb b hB).2.1
    · rw [e _ _ (by omega)]; exact (hb b hB).2.2 t ht
  · intro n hT
    have h1 : n ≠ 276 := fun q => by rw [q] at hT; exact absurd hT (by decide +kernel)
    have h2 : n + 2 ≠ 276 := fun q => by rw [show n = 274 by omega] at hT; exact absurd hT (by decide +kernel)
    refine ⟨?_, ?_, fun i hi => ?_⟩
    · rw [e _ _ h1]; exact (ht n hT).1
    · rw [e _ _ h1]; exact (ht n hT).2.1
    · rw [e _ _ h2]; exact (ht n hT).2.2 i hi
  · rw [e _ _ (by decide)]; exact c1
  · rw [e _ _ (by decide)]; exact c2
  · rw [e _ _ (by decide)]; exact c3
  · rw [e _ _ (by decide)]; exact c4
  · intro j hj; rw [e _ _ (by decide)]; exact hr j hj
  · rw [e _ _ (by decide)]; exact hr2
theorem cOk_p {o b1 b2 k : Nat} {M : fl_M} {v : Option Nat} (h : cOk o b1 b2 M) : cOk o b1 b2 (wR M 276 k v) := ⟨zRf_p h.1, h.2⟩
/-- looking up changes field owners alone -/
theorem wfl_rd {b : Nat} {key set : Int32} {a j : Nat} (h : a ≠ b + 134) : ∀ (k i : Nat) (M : fl_M), (wfl M b key set i k).1 a j = M.1 a j := by
  intro k
  induction k with
  | zero => intro i M; rfl
  | succ k ih =>
    intro i M
    rw [wfl, ih]
    split
    · exact rdI_ne (Or.inl h)
    · rfl
theorem whM_rd {M : fl_M} {b f a j : Nat} {k key : Int32} (h : a ≠ b + 134) : (whM M b f k key).1 a j = M.1 a j := by
  unfold whM
  split
  · rfl
  · split
    · exact wfl_rd h _ _ _
    · rfl
theorem whM_2 {M : fl_M} {b f : Nat} {k key : Int32} : (whM M b f k key).2 = M.2 := by
  unfold whM
  split
  · rfl
  · split
    · exact wfl_2 _ _ _
    · rfl
theorem fol_in {μ : Nat → Nat → Int32} {b n : Nat} (hf : foOk μ b) : ∀ (k i : Nat) (v : Int32), (∀ j, j < i + k → inL 12 (μ (n + 1) j)) → fol μ b n i k = some v → inL 12 v := by
  intro k
  induction k with
  | zero => intro i v _ h; cases h
  | succ k ih =>
    intro i v h1 h
    rw [fol] at h
    split at h
    · rename_i q
      cases h
      exact (hf _ (h1 i (by omega)).2).resolve_left q.2
    · exact ih (i + 1) v (fun j hj => h1 j (by omega)) h
theorem fof_in {μ : Nat → Nat → Int32} {b t : Nat} {key : Int32} (h : bAll μ b) (ht : t < 12) : fof μ b t key = 12 ∨ inL 12 (fof μ b t key) := by
  unfold fof
  split
  · unfold foz
    split
    · rename_i v hv
      exact Or.inr (fol_in h.2.2 _ _ v (fun j hj => inL_le ((h.1 t ht).2.2.1 j (by omega)) (by omega)) hv)
    · split
      · exact Or.inl rfl
      · rename_i q
        exact h.2.2 _ (Nat.lt_of_lt_of_le ((h.2.1 t ht).resolve_left q).2 (by omega))
  · exact Or.inr (inL_nI (by omega) ht)
theorem bAll_fo {M : fl_M} {b t : Nat} {v : Int32} (h : bAll M.1 b) (hv : v = 12 ∨ inL 12 v) : bAll (wI M (b + 134) t v).1 b := by
  refine ⟨bOk_f h.1, bSk_f h.2.1, fun u hu => ?_⟩
  by_cases q : u = t
  · subst q; rw [rdI_eq]; exact hv
  · rw [rdI_ne (Or.inr q)]; exact h.2.2 u hu
theorem wfl_all {b : Nat} {key set : Int32} : ∀ (k i : Nat) (M : fl_M), i + k ≤ 12 → bAll M.1 b → bAll (wfl M b key set i k).1 b := by
  intro k
  induction k with
  | zero => intro i M _ h; exact h
  | succ k ih =>
    intro i M h1 h
    rw [wfl]
    split
    · exact ih _ _ (by omega) (bAll_fo h (fof_in h (by omega)))
    · exact ih _ _ (by omega) h
theorem whM_all {M : fl_M} {b f : Nat} {k key : Int32} (hf : f < 12) (h : bAll M.1 b) : bAll (whM M b f k key).1 b := by
  unfold whM
  split
  · exact h
  · split
    · exact wfl_all _ _ _ (by omega) h
    · exact h
theorem whM_oth {M : fl_M} {b b' f : Nat} {k key : Int32} (hB : zSh b = zsB) (hB' : zSh b' = zsB) (hne : b ≠ b') (h : bAll M.1 b') : bAll (whM M b f k key).1 b' := by
  have e : ∀ a j, a ≠ b + 134 → (whM M b f k key).1 a j = M.1 a j := fun a j ha => whM_rd ha
  have h1 := shB2 hB
  have h2 := shB2 hB'
  refine ⟨bOk_congr (fun t ht k _ _ => e _ _ (by omega)) (fun t ht k => e _ _ (by omega)) h.1, bSk_congr (fun t ht => e _ _ (by omega)) h.2.1, fun t ht => ?_⟩
  rw [e _ _ (by omega)]
  exact h.2.2 t ht
theorem cOk_wh {o b1 b2 b f : Nat} {M : fl_M} {k key : Int32} (h1 : zSh b1 = zsB) (h2 : zSh b2 = zsB) (hne : b1 ≠ b2) (hb : b = b1 ∨ b = b2) (hf : f < 12) (h : cOk o b1 b2 M) : cOk o b1 b2 (whM M b f k key) := by
  refine ⟨by rw [whM_2]; exact h.1, ?_, ?_, ?_⟩
  · rcases hb with rfl | rfl
    · exact whM_all hf h.2.1
    · exact whM_oth h2 h1 (Ne.symm hne) h.2.1
  · rcases hb with rfl | rfl
    · exact whM_oth h1 h2 hne h.2.2.1
    · exact whM_all hf h.2.2.1
  · have q : b + 134 ≠ 272 := by have := shB2 h1; have := shB2 h2; omega
    unfold zOk cz
    rw [whM_rd (Ne.symm q)]
    exact h.2.2.2
theorem wil_in {μ : Nat → Nat → Int32} {b : Nat} {key set : Int32} : ∀ (k t : Nat) (a : Int32), t + k ≤ 12 → (a = 12 ∨ inL 12 a) → (wil μ b key set t k a = 12 ∨ inL 12 (wil μ b key set t k a)) := by
  intro k
  induction k with
  | zero => intro t a _ h; exact h
  | succ k ih =>
    intro t a h1 h
    rw [wil]
    split
    · split
      · exact ih _ _ (by omega) h
      · split
        · exact ih _ _ (by omega) h
        · split
          · refine ih _ _ (by omega) ?_
            split
            · exact Or.inr (inL_nI (by omega) (by omega))
            · exact h
          · exact Or.inr (inL_nI (by omega) (by omega))
    · exact ih _ _ (by omega) h
theorem wml_in {μ : Nat → Nat → Int32} {b : Nat} {key : Int32} (hs : bSk μ b) : ∀ (k : Nat) (x v : Int32), (x = -1 ∨ inL 12 x) → wml μ b key k x = some v → inL 12 v := by
  intro k
  induction k with
  | zero => intro x v _ h; cases h
  | succ k ih =>
    intro x v hx h
    rw [wml] at h
    split at h
    · cases h
    · rename_i q
      have hx := hx.resolve_left q
      split at h
      · exact ih _ _ ((hs _ hx.2).imp id (fun z => inL_le z (Nat.le_of_lt hx.2))) h
      · cases h; exact hx
theorem whr_in {M : fl_M} {b f : Nat} {k key : Int32} (hf : f < 12) (h : bAll M.1 b) : whr M b f k key = 12 ∨ inL 12 (whr M b f k key) := by
  unfold whr
  split
  · exact Or.inl rfl
  · split
    · exact (wfl_all (set := wfS M.1 b f) (key := key) (f + 1) 0 M (by omega) h).2.2 f hf
    · split
      · unfold wim wmz
        split
        · rename_i v hv
          exact Or.inr (wml_in h.2.1 _ _ _ (Or.inr (inL_nI (by omega) hf)) hv)
        · exact wil_in _ _ _ (by omega) (Or.inl rfl)
      · split
        · exact Or.inl rfl
        · exact Or.inr (inL_nI (by omega) hf)
def jhA (M : fl_M) (n1 n2 : Nat) (f r t : Int32) : fl_M := if (¬ ¬ M.1 n1 2 &&& f = 0) ∧ ¬ M.1 n2 2 &&& f = 0 then cAdd M r t (-1) else M
def jhl (M : fl_M) (lost t : Int32) : Nat → Nat → fl_M
  | _, 0 => M
  | i, k + 1 => jhl (if ¬ (lost >>> (nI i &&& 31)) &&& 1 = 0 then cAdd M 4 t (nI i) else M) lost t (i + 1) k
def jhB (M : fl_M) (n1 n2 : Nat) (t : Int32) : fl_M := jhl M (M.1 n1 9 &&& (M.1 n2 9 ^^^ (-1))) t 0 12
def jh (M : fl_M) (n1 n2 : Nat) (t : Int32) : fl_M := jhB (jhA (jhA M n1 n2 2 2 t) n1 n2 4 3 t) n1 n2 t
set_option maxHeartbeats 4000000 in
set_option maxRecDepth 100000 in
theorem lp_C_judgeHeader (l : Launch) (w : fl_W) (M : fl_M) (b1 b2 : Nat) (h1 : zSh b1 = zsB) (h2 : zSh b2 = zsB) (o : Nat) (n1 n2 : Nat) (hT : zSh n1 = zsT) (hT2 : zSh n2 = zsT) (t : Nat) (lost : Int32) (Y : fl_M) {p9 : Program} {e9 : Env} {s9 : State} {m9 : MethodId} {ag9 : Array Value} {bl9 : List Frame} {mt9 : Method} {c9 : Code} (K : XC p9 s9 m9 ag9 mt9 c9 b_C_judgeHeader 6 none w_C_judgeHeader "CompatibilityJudge$Comparison" w) : ∀ (k : Nat) (i : Nat) (X : fl_M), i ≤ 12 → 12 + 1 ≤ i + k → cOk o b1 b2 X → jhl X lost (nI t) i (12 - i) = Y → XW p9 l e9 (rm_C_judgeHeader) s9 m9 ag9 bl9 mt9 c9 6 0 0 (MQ bl9 (CQ w zN none Y) ag9 s9 0 0 (fun q : Nat => w.2.2 ≤ q)) w zN X 62 [(5, .int (nI i)), (4, .int lost), (0, .ref (w.2.2 + 272)), (1, .ref (w.2.2 + n1)), (2, .ref (w.2.2 + n2)), (3, .int (nI t))] [] := by
  intro k
  induction k with
  | zero =>
    intro i X hi hk
    exact absurd hk (by omega)
  | succ k ih =>
    intro i X hi hk hX hf
    refine x_iload (pc := 62) K 0 d_C_judgeHeader_62 rfl ?_
    refine x_bipush (pc := 64) K (v := nI 12) d_C_judgeHeader_64 (by decide) ?_
    refine x_icmp_ge (pc := 66) K (tgt := 93) d_C_judgeHeader_66 (by decide) (fun c66 => ?_) (fun c66 => ?_)
    · skip
      have hic : i = 12 := by have := (nI_leI (a := 12) (by omega) (by omega)).mp c66; omega
      rw [hic, Nat.sub_self] at hf
      exact x_vret (pc := 93) K rfl (by subst hf; rfl) d_C_judgeHeader_93
    · skip
      have hic : i < 12 := Nat.not_le.mp (fun q => c66 (nI_le (a := 12) q (by omega)))
      rw [show 12 - i = (12 - (i + 1)) + 1 by omega, jhl] at hf
      refine x_iload (pc := 69) K 1 d_C_judgeHeader_69 rfl ?_
      refine x_iload (pc := 71) K 0 d_C_judgeHeader_71 rfl ?_
      refine x_callSN (pc := 73) K (As := [.int lost, .int (nI i)]) (rest := []) (c_J_contains l w X lost (nI i)) (zcwSN K.ts K.S.2.1.2.2.2 sm_J_contains ii_J co_J_contains pd_J_contains ⟨rfl, rfl⟩ ⟨by decide, by decide⟩) rfl rfl (Nat.le_of_ble_eq_true rfl) ⟨Nat.zero_le _, Nat.zero_le _⟩ d_C_judgeHeader_73 ?_
      refine x_ifeqB (pc := 76) K (tgt := 87) d_C_judgeHeader_76 (by decide) (fun c76 => ?_) (fun c76 => ?_)
      · skip
        rw [if_neg c76] at hf
        refine x_iinc (pc := 87) K (v := nI (i + 1)) (lv' := [(5, .int (nI (i + 1))), (4, .int lost), (0, .ref (w.2.2 + 272)), (1, .ref (w.2.2 + n1)), (2, .ref (w.2.2 + n2)), (3, .int (nI t))]) 0 d_C_judgeHeader_87 rfl (nI_1 _) (by decide) rfl ?_
        refine x_goto (pc := 90) K (tgt := 62) d_C_judgeHeader_90 (by decide) ?_
        refine x_lv [0, 1, 2, 3, 4, 5] rfl ?_
        exact ih (i + 1) _ (by omega) (by omega) hX hf
      · skip
        rw [if_pos c76] at hf
        refine x_aload_n (pc := 79) K 2 d_C_judgeHeader_79 rfl ?_
        refine x_iconst (pc := 80) K (v := 4) d_C_judgeHeader_80 (by decide) ?_
        refine x_iload_n (pc := 81) K 5 d_C_judgeHeader_81 rfl ?_
        refine x_iload (pc := 82) K 0 d_C_judgeHeader_82 rfl ?_
        refine x_callVv (pc := 84) K (As := [.int 4, .int (nI t), .int (nI i)]) (rest := []) (c_C_add l w X o hX.1 hX.2.2.2 4 (nI t) (nI i)) (zcwV K.ts lk_C_50 im_C_add se_C_add ii_C co_C_add pd_C_add ⟨rfl, rfl⟩ ⟨by decide, by decide⟩) (zlt shC) shC rfl rfl rfl (Nat.le_of_ble_eq_true rfl) ⟨Nat.zero_le _, Nat.zero_le _⟩ d_C_judgeHeader_84 ?_
        refine x_iinc (pc := 87) K (v := nI (i + 1)) (lv' := [(5, .int (nI (i + 1))), (4, .int lost), (0, .ref (w.2.2 + 272)), (1, .ref (w.2.2 + n1)), (2, .ref (w.2.2 + n2)), (3, .int (nI t))]) 0 d_C_judgeHeader_87 rfl (nI_1 _) (by decide) rfl ?_
        refine x_goto (pc := 90) K (tgt := 62) d_C_judgeHeader_90 (by decide) ?_
        refine x_lv [0, 1, 2, 3, 4, 5] rfl ?_
        exact ih (i + 1) _ (by omega) (by omega) (cOk_add h1 h2 hX) hf
set_option maxHeartbeats 4000000 in
set_option maxRecDepth 100000 in
theorem c_C_judgeHeader (l : Launch) (w : fl_W) (M : fl_M) (b1 b2 : Nat) (h1 : zSh b1 = zsB) (h2 : zSh b2 = zsB) (o : Nat) (n1 n2 : Nat) (hT : zSh n1 = zsT) (hT2 : zSh n2 = zsT) (t : Nat) (hM : cOk o b1 b2 M) : CT l y_C_judgeHeader w_C_judgeHeader rm_C_judgeHeader w zN [.ref (w.2.2 + 272), .ref (w.2.2 + n1), .ref (w.2.2 + n2), .int (nI t)] M none (jh M n1 n2 (nI t)) := by
  refine CT.of (cc := b_C_judgeHeader) (own := "CompatibilityJudge$Comparison") (by decide) rfl rfl (Nat.le_of_ble_eq_true rfl) ?_
  intro p9 e9 s9 m9 ag9 bl9 mt9 c9 K
  show XW p9 l e9 (rm_C_judgeHeader) s9 m9 ag9 bl9 mt9 c9 6 0 0 (MQ bl9 (CQ w zN none (jh M n1 n2 (nI t))) ag9 s9 0 0 (fun q : Nat => w.2.2 ≤ q)) w zN M 0 [(0, .ref (w.2.2 + 272)), (1, .ref (w.2.2 + n1)), (2, .ref (w.2.2 + n2)), (3, .int (nI t))] []
  refine x_aload_n (pc := 0) K 1 d_C_judgeHeader_0 rfl ?_
  refine x_iconst (pc := 1) K (v := 2) d_C_judgeHeader_1 (by decide) ?_
  refine x_callV (pc := 2) K (As := [.int 2]) (rest := []) (c_T_hasAny l w M 2 n1 hT) (zcwV K.ts lk_C_72 im_T_hasAny se_T_hasAny ii_T co_T_hasAny pd_T_hasAny ⟨rfl, rfl⟩ ⟨by decide, by decide⟩) (zlt hT) hT rfl rfl rfl (Nat.le_of_ble_eq_true rfl) ⟨Nat.zero_le _, Nat.zero_le _⟩ d_C_judgeHeader_2 ?_
  refine x_ifneB (pc := 5) K (tgt := 23) d_C_judgeHeader_5 (by decide) (fun c5 => ?_) (fun c5 => ?_)
  · skip
    refine x_aload_n (pc := 23) K 1 d_C_judgeHeader_23 rfl ?_
    refine x_iconst (pc := 24) K (v := 4) d_C_judgeHeader_24 (by decide) ?_
    refine x_callV (pc := 25) K (As := [.int 4]) (rest := []) (c_T_hasAny l w M 4 n1 hT) (zcwV K.ts lk_C_72 im_T_hasAny se_T_hasAny ii_T co_T_hasAny pd_T_hasAny ⟨rfl, rfl⟩ ⟨by decide, by decide⟩) (zlt hT) hT rfl rfl rfl (Nat.le_of_ble_eq_true rfl) ⟨Nat.zero_le _, Nat.zero_le _⟩ d_C_judgeHeader_25 ?_
    refine x_ifneB (pc := 28) K (tgt := 46) d_C_judgeHeader_28 (by decide) (fun c28 => ?_) (fun c28 => ?_)
    · skip
      refine x_aload_n (pc := 46) K 1 d_C_judgeHeader_46 rfl ?_
      refine x_geti (pc := 47) K (n := n1) (k := 9) (zlt hT) hT rfl rfl (by decide) (fun _ q => zmem (uw_T _ q)) (zmem lk_C_76) d_C_judgeHeader_47 ?_
      refine x_aload_n (pc := 50) K 2 d_C_judgeHeader_50 rfl ?_
      refine x_geti (pc := 51) K (n := n2) (k := 9) (zlt hT2) hT2 rfl rfl (by decide) (fun _ q => zmem (uw_T _ q)) (zmem lk_C_76) d_C_judgeHeader_51 ?_
      refine x_iconst (pc := 54) K (v := (-1)) d_C_judgeHeader_54 (by decide) ?_
      refine x_ixor (pc := 55) K d_C_judgeHeader_55 ?_
      refine x_iand (pc := 56) K d_C_judgeHeader_56 ?_
      refine x_istore (pc := 57) K (lv' := [(4, .int ((M.1 n1 9) &&& ((M.1 n2 9) ^^^ (-1)))), (0, .ref (w.2.2 + 272)), (1, .ref (w.2.2 + n1)), (2, .ref (w.2.2 + n2)), (3, .int (nI t))]) d_C_judgeHeader_57 (by decide) rfl ?_
      refine x_iconst (pc := 59) K (v := nI 0) d_C_judgeHeader_59 (by decide) ?_
      refine x_istore (pc := 60) K (lv' := [(5, .int (nI 0)), (4, .int ((M.1 n1 9) &&& ((M.1 n2 9) ^^^ (-1)))), (0, .ref (w.2.2 + 272)), (1, .ref (w.2.2 + n1)), (2, .ref (w.2.2 + n2)), (3, .int (nI t))]) d_C_judgeHeader_60 (by decide) rfl ?_
      refine x_lv [0, 1, 2, 3, 4, 5] rfl ?_
      have e1 : jhA M n1 n2 2 2 (nI t) = M := if_neg (fun q => q.1 c5)
      have e2 : jhA (M) n1 n2 4 3 (nI t) = M := if_neg (fun q => q.1 c28)
      exact lp_C_judgeHeader l w M b1 b2 h1 h2 o n1 n2 hT hT2 t _ _ K 13 0 _ (by omega) (by omega) hM (by unfold jh; rw [e1, e2]; rfl)
    · skip
      refine x_aload_n (pc := 31) K 2 d_C_judgeHeader_31 rfl ?_
      refine x_iconst (pc := 32) K (v := 4) d_C_judgeHeader_32 (by decide) ?_
      refine x_callV (pc := 33) K (As := [.int 4]) (rest := []) (c_T_hasAny l w M 4 n2 hT2) (zcwV K.ts lk_C_72 im_T_hasAny se_T_hasAny ii_T co_T_hasAny pd_T_hasAny ⟨rfl, rfl⟩ ⟨by decide, by decide⟩) (zlt hT2) hT2 rfl rfl rfl (Nat.le_of_ble_eq_true rfl) ⟨Nat.zero_le _, Nat.zero_le _⟩ d_C_judgeHeader_33 ?_
      refine x_ifeqB (pc := 36) K (tgt := 46) d_C_judgeHeader_36 (by decide) (fun c36 => ?_) (fun c36 => ?_)
      · skip
        refine x_aload_n (pc := 46) K 1 d_C_judgeHeader_46 rfl ?_
        refine x_geti (pc := 47) K (n := n1) (k := 9) (zlt hT) hT rfl rfl (by decide) (fun _ q => zmem (uw_T _ q)) (zmem lk_C_76) d_C_judgeHeader_47 ?_
        refine x_aload_n (pc := 50) K 2 d_C_judgeHeader_50 rfl ?_
        refine x_geti (pc := 51) K (n := n2) (k := 9) (zlt hT2) hT2 rfl rfl (by decide) (fun _ q => zmem (uw_T _ q)) (zmem lk_C_76) d_C_judgeHeader_51 ?_
        refine x_iconst (pc := 54) K (v := (-1)) d_C_judgeHeader_54 (by decide) ?_
        refine x_ixor (pc := 55) K d_C_judgeHeader_55 ?_
        refine x_iand (pc := 56) K d_C_judgeHeader_56 ?_
        refine x_istore (pc := 57) K (lv' := [(4, .int ((M.1 n1 9) &&& ((M.1 n2 9) ^^^ (-1)))), (0, .ref (w.2.2 + 272)), (1, .ref (w.2.2 + n1)), (2, .ref (w.2.2 + n2)), (3, .int (nI t))]) d_C_judgeHeader_57 (by decide) rfl ?_
        refine x_iconst (pc := 59) K (v := nI 0) d_C_judgeHeader_59 (by decide) ?_
        refine x_istore (pc := 60) K (lv' := [(5, .int (nI 0)), (4, .int ((M.1 n1 9) &&& ((M.1 n2 9) ^^^ (-1)))), (0, .ref (w.2.2 + 272)), (1, .ref (w.2.2 + n1)), (2, .ref (w.2.2 + n2)), (3, .int (nI t))]) d_C_judgeHeader_60 (by decide) rfl ?_
        refine x_lv [0, 1, 2, 3, 4, 5] rfl ?_
        have e1 : jhA M n1 n2 2 2 (nI t) = M := if_neg (fun q => q.1 c5)
        have e2 : jhA (M) n1 n2 4 3 (nI t) = M := if_neg (fun q => c36 q.2)
        exact lp_C_judgeHeader l w M b1 b2 h1 h2 o n1 n2 hT hT2 t _ _ K 13 0 _ (by omega) (by omega) hM (by unfold jh; rw [e1, e2]; rfl)
      · skip
        refine x_aload_n (pc := 39) K 0 d_C_judgeHeader_39 rfl ?_
        refine x_iconst (pc := 40) K (v := 3) d_C_judgeHeader_40 (by decide) ?_
        refine x_iload_n (pc := 41) K 3 d_C_judgeHeader_41 rfl ?_
        refine x_iconst (pc := 42) K (v := (-1)) d_C_judgeHeader_42 (by decide) ?_
        refine x_callVv (pc := 43) K (As := [.int 3, .int (nI t), .int (-1)]) (rest := []) (c_C_add l w M o hM.1 hM.2.2.2 3 (nI t) (-1)) (zcwV K.ts lk_C_50 im_C_add se_C_add ii_C co_C_add pd_C_add ⟨rfl, rfl⟩ ⟨by decide, by decide⟩) (zlt shC) shC rfl rfl rfl (Nat.le_of_ble_eq_true rfl) ⟨Nat.zero_le _, Nat.zero_le _⟩ d_C_judgeHeader_43 ?_
        refine x_aload_n (pc := 46) K 1 d_C_judgeHeader_46 rfl ?_
        refine x_geti (pc := 47) K (n := n1) (k := 9) (zlt hT) hT rfl rfl (by decide) (fun _ q => zmem (uw_T _ q)) (zmem lk_C_76) d_C_judgeHeader_47 ?_
        refine x_aload_n (pc := 50) K 2 d_C_judgeHeader_50 rfl ?_
        refine x_geti (pc := 51) K (n := n2) (k := 9) (zlt hT2) hT2 rfl rfl (by decide) (fun _ q => zmem (uw_T _ q)) (zmem lk_C_76) d_C_judgeHeader_51 ?_
        refine x_iconst (pc := 54) K (v := (-1)) d_C_judgeHeader_54 (by decide) ?_
        refine x_ixor (pc := 55) K d_C_judgeHeader_55 ?_
        refine x_iand (pc := 56) K d_C_judgeHeader_56 ?_
        refine x_istore (pc := 57) K (lv' := [(4, .int (((cAdd M 3 (nI t) (-1)).1 n1 9) &&& (((cAdd M 3 (nI t) (-1)).1 n2 9) ^^^ (-1)))), (0, .ref (w.2.2 + 272)), (1, .ref (w.2.2 + n1)), (2, .ref (w.2.2 + n2)), (3, .int (nI t))]) d_C_judgeHeader_57 (by decide) rfl ?_
        refine x_iconst (pc := 59) K (v := nI 0) d_C_judgeHeader_59 (by decide) ?_
        refine x_istore (pc := 60) K (lv' := [(5, .int (nI 0)), (4, .int (((cAdd M 3 (nI t) (-1)).1 n1 9) &&& (((cAdd M 3 (nI t) (-1)).1 n2 9) ^^^ (-1)))), (0, .ref (w.2.2 + 272)), (1, .ref (w.2.2 + n1)), (2, .ref (w.2.2 + n2)), (3, .int (nI t))]) d_C_judgeHeader_60 (by decide) rfl ?_
        refine x_lv [0, 1, 2, 3, 4, 5] rfl ?_
        have e1 : jhA M n1 n2 2 2 (nI t) = M := if_neg (fun q => q.1 c5)
        have e2 : jhA (M) n1 n2 4 3 (nI t) = cAdd M 3 (nI t) (-1) := if_pos ⟨c28, c36⟩
        exact lp_C_judgeHeader l w M b1 b2 h1 h2 o n1 n2 hT hT2 t _ _ K 13 0 _ (by omega) (by omega) (cOk_add h1 h2 hM) (by unfold jh; rw [e1, e2]; rfl)
  · skip
    refine x_aload_n (pc := 8) K 2 d_C_judgeHeader_8 rfl ?_
    refine x_iconst (pc := 9) K (v := 2) d_C_judgeHeader_9 (by decide) ?_
    refine x_callV (pc := 10) K (As := [.int 2]) (rest := []) (c_T_hasAny l w M 2 n2 hT2) (zcwV K.ts lk_C_72 im_T_hasAny se_T_hasAny ii_T co_T_hasAny pd_T_hasAny ⟨rfl, rfl⟩ ⟨by decide, by decide⟩) (zlt hT2) hT2 rfl rfl rfl (Nat.le_of_ble_eq_true rfl) ⟨Nat.zero_le _, Nat.zero_le _⟩ d_C_judgeHeader_10 ?_
    refine x_ifeqB (pc := 13) K (tgt := 23) d_C_judgeHeader_13 (by decide) (fun c13 => ?_) (fun c13 => ?_)
    · skip
      refine x_aload_n (pc := 23) K 1 d_C_judgeHeader_23 rfl ?_
      refine x_iconst (pc := 24) K (v := 4) d_C_judgeHeader_24 (by decide) ?_
      refine x_callV (pc := 25) K (As := [.int 4]) (rest := []) (c_T_hasAny l w M 4 n1 hT) (zcwV K.ts lk_C_72 im_T_hasAny se_T_hasAny ii_T co_T_hasAny pd_T_hasAny ⟨rfl, rfl⟩ ⟨by decide, by decide⟩) (zlt hT) hT rfl rfl rfl (Nat.le_of_ble_eq_true rfl) ⟨Nat.zero_le _, Nat.zero_le _⟩ d_C_judgeHeader_25 ?_
      refine x_ifneB (pc := 28) K (tgt := 46) d_C_judgeHeader_28 (by decide) (fun c28 => ?_) (fun c28 => ?_)
      · skip
        refine x_aload_n (pc := 46) K 1 d_C_judgeHeader_46 rfl ?_
        refine x_geti (pc := 47) K (n := n1) (k := 9) (zlt hT) hT rfl rfl (by decide) (fun _ q => zmem (uw_T _ q)) (zmem lk_C_76) d_C_judgeHeader_47 ?_
        refine x_aload_n (pc := 50) K 2 d_C_judgeHeader_50 rfl ?_
        refine x_geti (pc := 51) K (n := n2) (k := 9) (zlt hT2) hT2 rfl rfl (by decide) (fun _ q => zmem (uw_T _ q)) (zmem lk_C_76) d_C_judgeHeader_51 ?_
        refine x_iconst (pc := 54) K (v := (-1)) d_C_judgeHeader_54 (by decide) ?_
        refine x_ixor (pc := 55) K d_C_judgeHeader_55 ?_
        refine x_iand (pc := 56) K d_C_judgeHeader_56 ?_
        refine x_istore (pc := 57) K (lv' := [(4, .int ((M.1 n1 9) &&& ((M.1 n2 9) ^^^ (-1)))), (0, .ref (w.2.2 + 272)), (1, .ref (w.2.2 + n1)), (2, .ref (w.2.2 + n2)), (3, .int (nI t))]) d_C_judgeHeader_57 (by decide) rfl ?_
        refine x_iconst (pc := 59) K (v := nI 0) d_C_judgeHeader_59 (by decide) ?_
        refine x_istore (pc := 60) K (lv' := [(5, .int (nI 0)), (4, .int ((M.1 n1 9) &&& ((M.1 n2 9) ^^^ (-1)))), (0, .ref (w.2.2 + 272)), (1, .ref (w.2.2 + n1)), (2, .ref (w.2.2 + n2)), (3, .int (nI t))]) d_C_judgeHeader_60 (by decide) rfl ?_
        refine x_lv [0, 1, 2, 3, 4, 5] rfl ?_
        have e1 : jhA M n1 n2 2 2 (nI t) = M := if_neg (fun q => c13 q.2)
        have e2 : jhA (M) n1 n2 4 3 (nI t) = M := if_neg (fun q => q.1 c28)
        exact lp_C_judgeHeader l w M b1 b2 h1 h2 o n1 n2 hT hT2 t _ _ K 13 0 _ (by omega) (by omega) hM (by unfold jh; rw [e1, e2]; rfl)
      · skip
        refine x_aload_n (pc := 31) K 2 d_C_judgeHeader_31 rfl ?_
        refine x_iconst (pc := 32) K (v := 4) d_C_judgeHeader_32 (by decide) ?_
        refine x_callV (pc := 33) K (As := [.int 4]) (rest := []) (c_T_hasAny l w M 4 n2 hT2) (zcwV K.ts lk_C_72 im_T_hasAny se_T_hasAny ii_T co_T_hasAny pd_T_hasAny ⟨rfl, rfl⟩ ⟨by decide, by decide⟩) (zlt hT2) hT2 rfl rfl rfl (Nat.le_of_ble_eq_true rfl) ⟨Nat.zero_le _, Nat.zero_le _⟩ d_C_judgeHeader_33 ?_
        refine x_ifeqB (pc := 36) K (tgt := 46) d_C_judgeHeader_36 (by decide) (fun c36 => ?_) (fun c36 => ?_)
        · skip
          refine x_aload_n (pc := 46) K 1 d_C_judgeHeader_46 rfl ?_
          refine x_geti (pc := 47) K (n := n1) (k := 9) (zlt hT) hT rfl rfl (by decide) (fun _ q => zmem (uw_T _ q)) (zmem lk_C_76) d_C_judgeHeader_47 ?_
          refine x_aload_n (pc := 50) K 2 d_C_judgeHeader_50 rfl ?_
          refine x_geti (pc := 51) K (n := n2) (k := 9) (zlt hT2) hT2 rfl rfl (by decide) (fun _ q => zmem (uw_T _ q)) (zmem lk_C_76) d_C_judgeHeader_51 ?_
          refine x_iconst (pc := 54) K (v := (-1)) d_C_judgeHeader_54 (by decide) ?_
          refine x_ixor (pc := 55) K d_C_judgeHeader_55 ?_
          refine x_iand (pc := 56) K d_C_judgeHeader_56 ?_
          refine x_istore (pc := 57) K (lv' := [(4, .int ((M.1 n1 9) &&& ((M.1 n2 9) ^^^ (-1)))), (0, .ref (w.2.2 + 272)), (1, .ref (w.2.2 + n1)), (2, .ref (w.2.2 + n2)), (3, .int (nI t))]) d_C_judgeHeader_57 (by decide) rfl ?_
          refine x_iconst (pc := 59) K (v := nI 0) d_C_judgeHeader_59 (by decide) ?_
          refine x_istore (pc := 60) K (lv' := [(5, .int (nI 0)), (4, .int ((M.1 n1 9) &&& ((M.1 n2 9) ^^^ (-1)))), (0, .ref (w.2.2 + 272)), (1, .ref (w.2.2 + n1)), (2, .ref (w.2.2 + n2)), (3, .int (nI t))]) d_C_judgeHeader_60 (by decide) rfl ?_
          refine x_lv [0, 1, 2, 3, 4, 5] rfl ?_
          have e1 : jhA M n1 n2 2 2 (nI t) = M := if_neg (fun q => c13 q.2)
          have e2 : jhA (M) n1 n2 4 3 (nI t) = M := if_neg (fun q => c36 q.2)
          exact lp_C_judgeHeader l w M b1 b2 h1 h2 o n1 n2 hT hT2 t _ _ K 13 0 _ (by omega) (by omega) hM (by unfold jh; rw [e1, e2]; rfl)
        · skip
          refine x_aload_n (pc := 39) K 0 d_C_judgeHeader_39 rfl ?_
          refine x_iconst (pc := 40) K (v := 3) d_C_judgeHeader_40 (by decide) ?_
          refine x_iload_n (pc := 41) K 3 d_C_judgeHeader_41 rfl ?_
          refine x_iconst (pc := 42) K (v := (-1)) d_C_judgeHeader_42 (by decide) ?_
          refine x_callVv (pc := 43) K (As := [.int 3, .int (nI t), .int (-1)]) (rest := []) (c_C_add l w M o hM.1 hM.2.2.2 3 (nI t) (-1)) (zcwV K.ts lk_C_50 im_C_add se_C_add ii_C co_C_add pd_C_add ⟨rfl, rfl⟩ ⟨by decide, by decide⟩) (zlt shC) shC rfl rfl rfl (Nat.le_of_ble_eq_true rfl) ⟨Nat.zero_le _, Nat.zero_le _⟩ d_C_judgeHeader_43 ?_
          refine x_aload_n (pc := 46) K 1 d_C_judgeHeader_46 rfl ?_
          refine x_geti (pc := 47) K (n := n1) (k := 9) (zlt hT) hT rfl rfl (by decide) (fun _ q => zmem (uw_T _ q)) (zmem lk_C_76) d_C_judgeHeader_47 ?_
          refine x_aload_n (pc := 50) K 2 d_C_judgeHeader_50 rfl ?_
          refine x_geti (pc := 51) K (n := n2) (k := 9) (zlt hT2) hT2 rfl rfl (by decide) (fun _ q => zmem (uw_T _ q)) (zmem lk_C_76) d_C_judgeHeader_51 ?_
          refine x_iconst (pc := 54) K (v := (-1)) d_C_judgeHeader_54 (by decide) ?_
          refine x_ixor (pc := 55) K d_C_judgeHeader_55 ?_
          refine x_iand (pc := 56) K d_C_judgeHeader_56 ?_
          refine x_istore (pc := 57) K (lv' := [(4, .int (((cAdd M 3 (nI t) (-1)).1 n1 9) &&& (((cAdd M 3 (nI t) (-1)).1 n2 9) ^^^ (-1)))), (0, .ref (w.2.2 + 272)), (1, .ref (w.2.2 + n1)), (2, .ref (w.2.2 + n2)), (3, .int (nI t))]) d_C_judgeHeader_57 (by decide) rfl ?_
          refine x_iconst (pc := 59) K (v := nI 0) d_C_judgeHeader_59 (by decide) ?_
          refine x_istore (pc := 60) K (lv' := [(5, .int (nI 0)), (4, .int (((cAdd M 3 (nI t) (-1)).1 n1 9) &&& (((cAdd M 3 (nI t) (-1)).1 n2 9) ^^^ (-1)))), (0, .ref (w.2.2 + 272)), (1, .ref (w.2.2 + n1)), (2, .ref (w.2.2 + n2)), (3, .int (nI t))]) d_C_judgeHeader_60 (by decide) rfl ?_
          refine x_lv [0, 1, 2, 3, 4, 5] rfl ?_
          have e1 : jhA M n1 n2 2 2 (nI t) = M := if_neg (fun q => c13 q.2)
          have e2 : jhA (M) n1 n2 4 3 (nI t) = cAdd M 3 (nI t) (-1) := if_pos ⟨c28, c36⟩
          exact lp_C_judgeHeader l w M b1 b2 h1 h2 o n1 n2 hT hT2 t _ _ K 13 0 _ (by omega) (by omega) (cOk_add h1 h2 hM) (by unfold jh; rw [e1, e2]; rfl)
    · skip
      refine x_aload_n (pc := 16) K 0 d_C_judgeHeader_16 rfl ?_
      refine x_iconst (pc := 17) K (v := 2) d_C_judgeHeader_17 (by decide) ?_
      refine x_iload_n (pc := 18) K 3 d_C_judgeHeader_18 rfl ?_
      refine x_iconst (pc := 19) K (v := (-1)) d_C_judgeHeader_19 (by decide) ?_
      refine x_callVv (pc := 20) K (As := [.int 2, .int (nI t), .int (-1)]) (rest := []) (c_C_add l w M o hM.1 hM.2.2.2 2 (nI t) (-1)) (zcwV K.ts lk_C_50 im_C_add se_C_add ii_C co_C_add pd_C_add ⟨rfl, rfl⟩ ⟨by decide, by decide⟩) (zlt shC) shC rfl rfl rfl (Nat.le_of_ble_eq_true rfl) ⟨Nat.zero_le _, Nat.zero_le _⟩ d_C_judgeHeader_20 ?_
      refine x_aload_n (pc := 23) K 1 d_C_judgeHeader_23 rfl ?_
      refine x_iconst (pc := 24) K (v := 4) d_C_judgeHeader_24 (by decide) ?_
      refine x_callV (pc := 25) K (As := [.int 4]) (rest := []) (c_T_hasAny l w (cAdd M 2 (nI t) (-1)) 4 n1 hT) (zcwV K.ts lk_C_72 im_T_hasAny se_T_hasAny ii_T co_T_hasAny pd_T_hasAny ⟨rfl, rfl⟩ ⟨by decide, by decide⟩) (zlt hT) hT rfl rfl rfl (Nat.le_of_ble_eq_true rfl) ⟨Nat.zero_le _, Nat.zero_le _⟩ d_C_judgeHeader_25 ?_
      refine x_ifneB (pc := 28) K (tgt := 46) d_C_judgeHeader_28 (by decide) (fun c28 => ?_) (fun c28 => ?_)
      · skip
        refine x_aload_n (pc := 46) K 1 d_C_judgeHeader_46 rfl ?_
        refine x_geti (pc := 47) K (n := n1) (k := 9) (zlt hT) hT rfl rfl (by decide) (fun _ q => zmem (uw_T _ q)) (zmem lk_C_76) d_C_judgeHeader_47 ?_
        refine x_aload_n (pc := 50) K 2 d_C_judgeHeader_50 rfl ?_
        refine x_geti (pc := 51) K (n := n2) (k := 9) (zlt hT2) hT2 rfl rfl (by decide) (fun _ q => zmem (uw_T _ q)) (zmem lk_C_76) d_C_judgeHeader_51 ?_
        refine x_iconst (pc := 54) K (v := (-1)) d_C_judgeHeader_54 (by decide) ?_
        refine x_ixor (pc := 55) K d_C_judgeHeader_55 ?_
        refine x_iand (pc := 56) K d_C_judgeHeader_56 ?_
        refine x_istore (pc := 57) K (lv' := [(4, .int (((cAdd M 2 (nI t) (-1)).1 n1 9) &&& (((cAdd M 2 (nI t) (-1)).1 n2 9) ^^^ (-1)))), (0, .ref (w.2.2 + 272)), (1, .ref (w.2.2 + n1)), (2, .ref (w.2.2 + n2)), (3, .int (nI t))]) d_C_judgeHeader_57 (by decide) rfl ?_
        refine x_iconst (pc := 59) K (v := nI 0) d_C_judgeHeader_59 (by decide) ?_
        refine x_istore (pc := 60) K (lv' := [(5, .int (nI 0)), (4, .int (((cAdd M 2 (nI t) (-1)).1 n1 9) &&& (((cAdd M 2 (nI t) (-1)).1 n2 9) ^^^ (-1)))), (0, .ref (w.2.2 + 272)), (1, .ref (w.2.2 + n1)), (2, .ref (w.2.2 + n2)), (3, .int (nI t))]) d_C_judgeHeader_60 (by decide) rfl ?_
        refine x_lv [0, 1, 2, 3, 4, 5] rfl ?_
        have e1 : jhA M n1 n2 2 2 (nI t) = cAdd M 2 (nI t) (-1) := if_pos ⟨c5, c13⟩
        have e2 : jhA (cAdd M 2 (nI t) (-1)) n1 n2 4 3 (nI t) = cAdd M 2 (nI t) (-1) := if_neg (fun q => q.1 c28)
        exact lp_C_judgeHeader l w M b1 b2 h1 h2 o n1 n2 hT hT2 t _ _ K 13 0 _ (by omega) (by omega) (cOk_add h1 h2 hM) (by unfold jh; rw [e1, e2]; rfl)
      · skip
        refine x_aload_n (pc := 31) K 2 d_C_judgeHeader_31 rfl ?_
        refine x_iconst (pc := 32) K (v := 4) d_C_judgeHeader_32 (by decide) ?_
        refine x_callV (pc := 33) K (As := [.int 4]) (rest := []) (c_T_hasAny l w (cAdd M 2 (nI t) (-1)) 4 n2 hT2) (zcwV K.ts lk_C_72 im_T_hasAny se_T_hasAny ii_T co_T_hasAny pd_T_hasAny ⟨rfl, rfl⟩ ⟨by decide, by decide⟩) (zlt hT2) hT2 rfl rfl rfl (Nat.le_of_ble_eq_true rfl) ⟨Nat.zero_le _, Nat.zero_le _⟩ d_C_judgeHeader_33 ?_
        refine x_ifeqB (pc := 36) K (tgt := 46) d_C_judgeHeader_36 (by decide) (fun c36 => ?_) (fun c36 => ?_)
        · skip
          refine x_aload_n (pc := 46) K 1 d_C_judgeHeader_46 rfl ?_
          refine x_geti (pc := 47) K (n := n1) (k := 9) (zlt hT) hT rfl rfl (by decide) (fun _ q => zmem (uw_T _ q)) (zmem lk_C_76) d_C_judgeHeader_47 ?_
          refine x_aload_n (pc := 50) K 2 d_C_judgeHeader_50 rfl ?_
          refine x_geti (pc := 51) K (n := n2) (k := 9) (zlt hT2) hT2 rfl rfl (by decide) (fun _ q => zmem (uw_T _ q)) (zmem lk_C_76) d_C_judgeHeader_51 ?_
          refine x_iconst (pc := 54) K (v := (-1)) d_C_judgeHeader_54 (by decide) ?_
          refine x_ixor (pc := 55) K d_C_judgeHeader_55 ?_
          refine x_iand (pc := 56) K d_C_judgeHeader_56 ?_
          refine x_istore (pc := 57) K (lv' := [(4, .int (((cAdd M 2 (nI t) (-1)).1 n1 9) &&& (((cAdd M 2 (nI t) (-1)).1 n2 9) ^^^ (-1)))), (0, .ref (w.2.2 + 272)), (1, .ref (w.2.2 + n1)), (2, .ref (w.2.2 + n2)), (3, .int (nI t))]) d_C_judgeHeader_57 (by decide) rfl ?_
          refine x_iconst (pc := 59) K (v := nI 0) d_C_judgeHeader_59 (by decide) ?_
          refine x_istore (pc := 60) K (lv' := [(5, .int (nI 0)), (4, .int (((cAdd M 2 (nI t) (-1)).1 n1 9) &&& (((cAdd M 2 (nI t) (-1)).1 n2 9) ^^^ (-1)))), (0, .ref (w.2.2 + 272)), (1, .ref (w.2.2 + n1)), (2, .ref (w.2.2 + n2)), (3, .int (nI t))]) d_C_judgeHeader_60 (by decide) rfl ?_
          refine x_lv [0, 1, 2, 3, 4, 5] rfl ?_
          have e1 : jhA M n1 n2 2 2 (nI t) = cAdd M 2 (nI t) (-1) := if_pos ⟨c5, c13⟩
          have e2 : jhA (cAdd M 2 (nI t) (-1)) n1 n2 4 3 (nI t) = cAdd M 2 (nI t) (-1) := if_neg (fun q => c36 q.2)
          exact lp_C_judgeHeader l w M b1 b2 h1 h2 o n1 n2 hT hT2 t _ _ K 13 0 _ (by omega) (by omega) (cOk_add h1 h2 hM) (by unfold jh; rw [e1, e2]; rfl)
        · skip
          refine x_aload_n (pc := 39) K 0 d_C_judgeHeader_39 rfl ?_
          refine x_iconst (pc := 40) K (v := 3) d_C_judgeHeader_40 (by decide) ?_
          refine x_iload_n (pc := 41) K 3 d_C_judgeHeader_41 rfl ?_
          refine x_iconst (pc := 42) K (v := (-1)) d_C_judgeHeader_42 (by decide) ?_
          refine x_callVv (pc := 43) K (As := [.int 3, .int (nI t), .int (-1)]) (rest := []) (c_C_add l w (cAdd M 2 (nI t) (-1)) o (by rw [cAdd_2]; exact hM.1) (cAdd_z hM.2.2.2) 3 (nI t) (-1)) (zcwV K.ts lk_C_50 im_C_add se_C_add ii_C co_C_add pd_C_add ⟨rfl, rfl⟩ ⟨by decide, by decide⟩) (zlt shC) shC rfl rfl rfl (Nat.le_of_ble_eq_true rfl) ⟨Nat.zero_le _, Nat.zero_le _⟩ d_C_judgeHeader_43 ?_
          refine x_aload_n (pc := 46) K 1 d_C_judgeHeader_46 rfl ?_
          refine x_geti (pc := 47) K (n := n1) (k := 9) (zlt hT) hT rfl rfl (by decide) (fun _ q => zmem (uw_T _ q)) (zmem lk_C_76) d_C_judgeHeader_47 ?_
          refine x_aload_n (pc := 50) K 2 d_C_judgeHeader_50 rfl ?_
          refine x_geti (pc := 51) K (n := n2) (k := 9) (zlt hT2) hT2 rfl rfl (by decide) (fun _ q => zmem (uw_T _ q)) (zmem lk_C_76) d_C_judgeHeader_51 ?_
          refine x_iconst (pc := 54) K (v := (-1)) d_C_judgeHeader_54 (by decide) ?_
          refine x_ixor (pc := 55) K d_C_judgeHeader_55 ?_
          refine x_iand (pc := 56) K d_C_judgeHeader_56 ?_
          refine x_istore (pc := 57) K (lv' := [(4, .int (((cAdd (cAdd M 2 (nI t) (-1)) 3 (nI t) (-1)).1 n1 9) &&& (((cAdd (cAdd M 2 (nI t) (-1)) 3 (nI t) (-1)).1 n2 9) ^^^ (-1)))), (0, .ref (w.2.2 + 272)), (1, .ref (w.2.2 + n1)), (2, .ref (w.2.2 + n2)), (3, .int (nI t))]) d_C_judgeHeader_57 (by decide) rfl ?_
          refine x_iconst (pc := 59) K (v := nI 0) d_C_judgeHeader_59 (by decide) ?_
          refine x_istore (pc := 60) K (lv' := [(5, .int (nI 0)), (4, .int (((cAdd (cAdd M 2 (nI t) (-1)) 3 (nI t) (-1)).1 n1 9) &&& (((cAdd (cAdd M 2 (nI t) (-1)) 3 (nI t) (-1)).1 n2 9) ^^^ (-1)))), (0, .ref (w.2.2 + 272)), (1, .ref (w.2.2 + n1)), (2, .ref (w.2.2 + n2)), (3, .int (nI t))]) d_C_judgeHeader_60 (by decide) rfl ?_
          refine x_lv [0, 1, 2, 3, 4, 5] rfl ?_
          have e1 : jhA M n1 n2 2 2 (nI t) = cAdd M 2 (nI t) (-1) := if_pos ⟨c5, c13⟩
          have e2 : jhA (cAdd M 2 (nI t) (-1)) n1 n2 4 3 (nI t) = cAdd (cAdd M 2 (nI t) (-1)) 3 (nI t) (-1) := if_pos ⟨c28, c36⟩
          exact lp_C_judgeHeader l w M b1 b2 h1 h2 o n1 n2 hT hT2 t _ _ K 13 0 _ (by omega) (by omega) (cOk_add h1 h2 (cOk_add h1 h2 hM)) (by unfold jh; rw [e1, e2]; rfl)
