theorem bOk_clr {M : fl_M} {b t : Nat} (h : bOk M.1 b) : bOk (tClr M (b + 2 + 11 * t)).1 b := by
  intro u hu
  obtain ⟨⟨⟨a1, a2⟩, a3, a4⟩, a5, a6, a7⟩ := h u hu
  by_cases q : u = t
  · subst q
    have e0 : (tClr M (b + 2 + 11 * u)).1 (b + 2 + 11 * u) 0 = 0 := by
      rw [rdI_ne (Or.inr (by omega)), rdI_ne (Or.inr (by omega)), rdI_ne (Or.inr (by omega)), rdI_ne (Or.inr (by omega)), rdI_ne (Or.inr (by omega)), rdI_eq]
    have e3 : (tClr M (b + 2 + 11 * u)).1 (b + 2 + 11 * u) 3 = -1 := by
      rw [rdI_ne (Or.inr (by omega)), rdI_ne (Or.inr (by omega)), rdI_eq]
    have e5 : (tClr M (b + 2 + 11 * u)).1 (b + 2 + 11 * u) 5 = 0 := by
      rw [rdI_ne (Or.inr (by omega)), rdI_eq]
    have e7 : (tClr M (b + 2 + 11 * u)).1 (b + 2 + 11 * u) 7 = 0 := rdI_eq
    refine ⟨⟨⟨?_, ?_⟩, ?_, ?_⟩, ?_, ?_, ?_⟩
    · unfold cI; rw [e5]; decide
    · unfold cI; rw [e5]; decide
    · unfold cM; rw [e7]; decide
    · unfold cM; rw [e7]; decide
    · rw [e0]; exact Or.inl rfl
    · intro i hi
      unfold cI at hi
      rw [e5] at hi
      exact absurd hi (by rw [show ix 0 = 0 by decide]; omega)
    · rw [e3]; exact Or.inl rfl
  · have e : ∀ a j, a ≠ b + 2 + 11 * t → (tClr M (b + 2 + 11 * t)).1 a j = M.1 a j := fun a j ha => by
      rw [rdI_ne (Or.inl ha), rdI_ne (Or.inl ha), rdI_ne (Or.inl ha), rdI_ne (Or.inl ha), rdI_ne (Or.inl ha), rdI_ne (Or.inl ha)]
    refine ⟨⟨⟨?_, ?_⟩, ?_, ?_⟩, ?_, ?_, ?_⟩
    · unfold cI; rw [e _ _ (by omega)]; exact a1
    · unfold cI; rw [e _ _ (by omega)]; exact a2
    · unfold cM; rw [e _ _ (by omega)]; exact a3
    · unfold cM; rw [e _ _ (by omega)]; exact a4
    · rw [e _ _ (by omega)]; exact a5
    · intro i hi
      unfold cI at hi
      rw [e _ _ (by omega)] at hi
      rw [e _ _ (by omega)]
      exact a6 i hi
    · rw [e _ _ (by omega)]; exact a7
abbrev yRm (M : fl_M) (o : Nat) (b t : Int32) : Prop := okT b t ∧ ¬ M.1 (zb o (ix b) + 2 + 11 * ix t) 0 = 0
def xRm (M : fl_M) (o : Nat) (b t : Int32) : fl_M := wI (stl (tClr M (zb o (ix b) + 2 + 11 * ix t)) (zb o (ix b)) 0 12) 272 4 1
set_option maxHeartbeats 4000000 in
set_option maxRecDepth 100000 in
theorem c_J_remove (l : Launch) (w : fl_W) (M : fl_M) (o : Nat) (hR : zRf o M.2) (hA : ∀ x, x < 2 → bAll M.1 (zb o x)) (b t : Int32) : CT l y_J_remove w_J_remove rm_J_remove w zN [.ref (w.2.2 + 0), .int b, .int t] M (some (.int (if yRm M o b t then 1 else -1))) (if yRm M o b t then xRm M o b t else M) := by
  refine CT.of (cc := b_J_remove) (own := "CompatibilityJudge") (by decide) rfl rfl (Nat.le_of_ble_eq_true rfl) ?_
  intro p9 e9 s9 m9 ag9 bl9 mt9 c9 K
  show XW p9 l e9 (rm_J_remove) s9 m9 ag9 bl9 mt9 c9 3 0 0 (MQ bl9 (CQ w zN (some (.int (if yRm M o b t then 1 else -1))) (if yRm M o b t then xRm M o b t else M)) ag9 s9 0 0 (fun q : Nat => w.2.2 ≤ q)) w zN M 0 [(0, .ref (w.2.2 + 0)), (1, .int b), (2, .int t)] []
  refine x_iload_n (pc := 0) K 1 d_J_remove_0 rfl ?_
  refine x_iload_n (pc := 1) K 2 d_J_remove_1 rfl ?_
  refine x_callS (pc := 2) K (As := [.int b, .int t]) (rest := []) (c_J_isTypeOf l w M b t) (zcwS K.ts lk_J_27 sm_J_isTypeOf ii_J co_J_isTypeOf pd_J_isTypeOf ⟨rfl, rfl⟩ ⟨by decide, by decide⟩) rfl rfl (Nat.le_of_ble_eq_true rfl) ⟨Nat.zero_le _, Nat.zero_le _⟩ d_J_remove_2 ?_
  refine x_ifeqB (pc := 5) K (tgt := 25) d_J_remove_5 (by decide) (fun c5 => ?_) (fun c5 => ?_)
  · skip
    refine x_iconst (pc := 25) K (v := (-1)) d_J_remove_25 (by decide) ?_
    have hno : ¬ yRm M o b t := fun q => c5 q.1
    exact x_iret (pc := 26) K (by rw [if_neg hno]) (by rw [if_neg hno]) d_J_remove_26
  · skip
    have hbx := ix_of 2 (by omega) c5.1.1 c5.1.2
    have htx := ix_of 12 (by omega) c5.2.1 c5.2.2
    refine x_aload_n (pc := 8) K 0 d_J_remove_8 rfl ?_
    refine x_getr (pc := 9) K (n := 0) (n' := 1) (k := 0) (zlt shJ) shJ rfl hR.Ja rfl (by decide) (fun _ q => zmem (uw_J _ q)) (zmem lk_J_12) d_J_remove_9 ?_
    refine x_iload_n (pc := 12) K 1 d_J_remove_12 rfl ?_
    refine x_aald (pc := 13) K (n := 1) (n' := zb o (ix b)) (j := ix b) hbx.1 hbx.2 (hR.Jb hbx.2) (zlt shA) shA rfl (by decide) d_J_remove_13 ?_
    refine x_getr (pc := 14) K (n := zb o (ix b)) (n' := (zb o (ix b)) + 1) (k := 0) (zlt (hR.shb hbx.2)) (hR.shb hbx.2) rfl (hR.Ba (hR.shb hbx.2)) rfl (by decide) (fun _ q => zmem (uw_B _ q)) (zmem lk_J_34) d_J_remove_14 ?_
    refine x_iload_n (pc := 17) K 2 d_J_remove_17 rfl ?_
    refine x_aald (pc := 18) K (n := (zb o (ix b)) + 1) (n' := (zb o (ix b)) + 2 + 11 * (ix t)) (j := ix t) htx.1 htx.2 (hR.Bt (hR.shb hbx.2) htx.2) (zlt (shBa (hR.shb hbx.2))) (shBa (hR.shb hbx.2)) rfl (by decide) d_J_remove_18 ?_
    refine x_geti (pc := 19) K (n := (zb o (ix b)) + 2 + 11 * (ix t)) (k := 0) (zlt (shBt (hR.shb hbx.2) htx.2)) (shBt (hR.shb hbx.2) htx.2) rfl rfl (by decide) (fun _ q => zmem (uw_T _ q)) (zmem lk_J_38) d_J_remove_19 ?_
    refine x_if_ne (pc := 22) K (tgt := 27) d_J_remove_22 (by decide) (fun c22 => ?_) (fun c22 => ?_)
    · skip
      refine x_aload_n (pc := 27) K 0 d_J_remove_27 rfl ?_
      refine x_getr (pc := 28) K (n := 0) (n' := 1) (k := 0) (zlt shJ) shJ rfl hR.Ja rfl (by decide) (fun _ q => zmem (uw_J _ q)) (zmem lk_J_12) d_J_remove_28 ?_
      refine x_iload_n (pc := 31) K 1 d_J_remove_31 rfl ?_
      refine x_aald (pc := 32) K (n := 1) (n' := zb o (ix b)) (j := ix b) hbx.1 hbx.2 (hR.Jb hbx.2) (zlt shA) shA rfl (by decide) d_J_remove_32 ?_
      refine x_getr (pc := 33) K (n := zb o (ix b)) (n' := (zb o (ix b)) + 1) (k := 0) (zlt (hR.shb hbx.2)) (hR.shb hbx.2) rfl (hR.Ba (hR.shb hbx.2)) rfl (by decide) (fun _ q => zmem (uw_B _ q)) (zmem lk_J_34) d_J_remove_33 ?_
      refine x_iload_n (pc := 36) K 2 d_J_remove_36 rfl ?_
      refine x_aald (pc := 37) K (n := (zb o (ix b)) + 1) (n' := (zb o (ix b)) + 2 + 11 * (ix t)) (j := ix t) htx.1 htx.2 (hR.Bt (hR.shb hbx.2) htx.2) (zlt (shBa (hR.shb hbx.2))) (shBa (hR.shb hbx.2)) rfl (by decide) d_J_remove_37 ?_
      refine x_callVv (pc := 38) K (As := []) (rest := []) (c_T_clear l w M ((zb o (ix b)) + 2 + 11 * (ix t)) (shBt (hR.shb hbx.2) htx.2)) (zcwV K.ts lk_J_108 im_T_clear se_T_clear ii_T co_T_clear pd_T_clear ⟨rfl, rfl⟩ ⟨by decide, by decide⟩) (zlt (shBt (hR.shb hbx.2) htx.2)) (shBt (hR.shb hbx.2) htx.2) rfl rfl rfl (Nat.le_of_ble_eq_true rfl) ⟨Nat.zero_le _, Nat.zero_le _⟩ d_J_remove_38 ?_
      refine x_aload_n (pc := 41) K 0 d_J_remove_41 rfl ?_
      refine x_getr (pc := 42) K (n := 0) (n' := 1) (k := 0) (zlt shJ) shJ rfl hR.Ja rfl (by decide) (fun _ q => zmem (uw_J _ q)) (zmem lk_J_12) d_J_remove_42 ?_
      refine x_iload_n (pc := 45) K 1 d_J_remove_45 rfl ?_
      refine x_aald (pc := 46) K (n := 1) (n' := zb o (ix b)) (j := ix b) hbx.1 hbx.2 (hR.Jb hbx.2) (zlt shA) shA rfl (by decide) d_J_remove_46 ?_
      refine x_callVv (pc := 47) K (As := []) (rest := []) (c_B_settle l w (tClr M ((zb o (ix b)) + 2 + 11 * (ix t))) (zb o (ix b)) (hR.shb hbx.2) o hR (bOk_clr (hA _ hbx.2).1)) (zcwV K.ts lk_J_52 im_B_settle se_B_settle ii_B co_B_settle pd_B_settle ⟨rfl, rfl⟩ ⟨by decide, by decide⟩) (zlt (hR.shb hbx.2)) (hR.shb hbx.2) rfl rfl rfl (Nat.le_of_ble_eq_true rfl) ⟨Nat.zero_le _, Nat.zero_le _⟩ d_J_remove_47 ?_
      refine x_aload_n (pc := 50) K 0 d_J_remove_50 rfl ?_
      refine x_getr (pc := 51) K (n := 0) (n' := 272) (k := 1) (zlt shJ) shJ rfl (show zRf o (stl _ _ _ _).2 from by rw [stl_2]; exact hR).Jc rfl (by decide) (fun _ q => zmem (uw_J _ q)) (zmem lk_J_19) d_J_remove_51 ?_
      refine x_iconst (pc := 54) K (v := 1) d_J_remove_54 (by decide) ?_
      refine x_puti (pc := 55) K (n := 272) (k := 4) (x := 1) uY_C tk_C nm_C (zlt shC) shC rfl rfl (by decide) (fun _ q => zmem (uw_C _ q)) (zmem lk_J_55) rfl rfl rfl d_J_remove_55 ?_
      refine x_iconst (pc := 58) K (v := 1) d_J_remove_58 (by decide) ?_
      have hyes : yRm M o b t := ⟨c5, c22⟩
      exact x_iret (pc := 59) K (by rw [if_pos hyes]) (by rw [if_pos hyes, xRm]) d_J_remove_59
    · skip
      refine x_iconst (pc := 25) K (v := (-1)) d_J_remove_25 (by decide) ?_
      have hno : ¬ yRm M o b t := fun q => q.2 c22
      exact x_iret (pc := 26) K (by rw [if_neg hno]) (by rw [if_neg hno]) d_J_remove_26
