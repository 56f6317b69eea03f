theorem tAdI_2 {M : fl_M} {n : Nat} {a : Int32} : (tAdI M n a).2 = M.2 := by
  show (if cI M.1 n < 3 then _ else M).2 = M.2
  split <;> rfl
theorem tAdM_2 {M : fl_M} {n : Nat} {a b d : Int32} : (tAdM M n a b d).2 = M.2 := by
  show (if cM M.1 n < 8 then _ else M).2 = M.2
  split <;> rfl
theorem bOk_adI {M : fl_M} {b t : Nat} {a : Int32} (h : bOk M.1 b) (ht : t < 12) (ha : inL t a) : bOk (tAdI M (b + 2 + 11 * t) a).1 b := by
  show bOk (if cI M.1 (b + 2 + 11 * t) < 3 then _ else M).1 b
  split
  · rename_i h3
    have h3 : ix (M.1 (b + 2 + 11 * t) 5) < 3 := h3
    intro u hu
    obtain ⟨⟨⟨a1, a2⟩, a3, a4⟩, a5, a6, a7⟩ := h u hu
    have e : ∀ j, j ≠ 5 → (wI (wI M (b + 2 + 11 * t + 1) (cI M.1 (b + 2 + 11 * t)) a) (b + 2 + 11 * t) 5 (nI (cI M.1 (b + 2 + 11 * t) + 1))).1 (b + 2 + 11 * u) j = M.1 (b + 2 + 11 * u) j := fun j hj => by
      rw [rdI_ne (Or.inr hj), rdI_ne (Or.inl (by omega))]
    by_cases q : u = t
    · subst q
      have e5 : (wI (wI M (b + 2 + 11 * u + 1) (cI M.1 (b + 2 + 11 * u)) a) (b + 2 + 11 * u) 5 (nI (cI M.1 (b + 2 + 11 * u) + 1))).1 (b + 2 + 11 * u) 5 = nI (cI M.1 (b + 2 + 11 * u) + 1) := rdI_eq
      refine ⟨⟨⟨?_, ?_⟩, ?_, ?_⟩, ?_, ?_, ?_⟩
      · unfold cI; rw [e5]; rw [ix_nI (by omega)]
      · unfold cI; rw [e5]; rw [ix_nI (by omega)]; omega
      · unfold cM; rw [e 7 (by omega)]; exact a3
      · unfold cM; rw [e 7 (by omega)]; exact a4
      · rw [e 0 (by omega)]; exact a5
      · intro i hi
        have hi : i < ix (M.1 (b + 2 + 11 * u) 5) + 1 := by
          unfold cI at hi
          rw [e5] at hi
          rw [ix_nI (by omega)] at hi
          exact hi
        rw [rdI_ne (Or.inl (by omega))]
        by_cases q2 : i = cI M.1 (b + 2 + 11 * u)
        · rw [q2, rdI_eq]; exact ha
        · rw [rdI_ne (Or.inr q2)]
          exact a6 i (by have : i ≠ ix (M.1 (b + 2 + 11 * u) 5) := q2; show i < ix (M.1 (b + 2 + 11 * u) 5); omega)
      · rw [e 3 (by omega)]; exact a7
    · have e5 : (wI (wI M (b + 2 + 11 * t + 1) (cI M.1 (b + 2 + 11 * t)) a) (b + 2 + 11 * t) 5 (nI (cI M.1 (b + 2 + 11 * t) + 1))).1 (b + 2 + 11 * u) 5 = M.1 (b + 2 + 11 * u) 5 := by rw [rdI_ne (Or.inl (by omega)), rdI_ne (Or.inl (by omega))]
      refine ⟨⟨⟨?_, ?_⟩, ?_, ?_⟩, ?_, ?_, ?_⟩
      · unfold cI; rw [e5]; exact a1
      · unfold cI; rw [e5]; exact a2
      · unfold cM; rw [e 7 (by omega)]; exact a3
      · unfold cM; rw [e 7 (by omega)]; exact a4
      · rw [e 0 (by omega)]; exact a5
      · intro i hi
        unfold cI at hi
        rw [e5] at hi
        rw [rdI_ne (Or.inl (by omega)), rdI_ne (Or.inl (by omega))]
        exact a6 i hi
      · rw [e 3 (by omega)]; exact a7
  · exact h
abbrev yIm (M : fl_M) (o : Nat) (b t a : Int32) : Prop := okT b t ∧ (¬ a < 0 ∧ ¬ (12 : Int32) ≤ a) ∧ a < t ∧ ¬ M.1 (zb o (ix b) + 2 + 11 * ix t) 0 = 0 ∧ ¬ (3 : Int32) ≤ M.1 (zb o (ix b) + 2 + 11 * ix t) 5 ∧ ¬ ¬ tNm M.1 (zb o (ix b) + 2 + 11 * ix t) a = none
def xIm (M : fl_M) (o : Nat) (b t a : Int32) : fl_M := wI (stl (tAdI M (zb o (ix b) + 2 + 11 * ix t) a) (zb o (ix b)) 0 12) 272 4 1
set_option maxHeartbeats 4000000 in
set_option maxRecDepth 100000 in
theorem c_J_implement (l : Launch) (w : fl_W) (M : fl_M) (o : Nat) (hR : zRf o M.2) (hA : ∀ x, x < 2 → bAll M.1 (zb o x)) (b t a : Int32) : CT l y_J_implement w_J_implement rm_J_implement w zN [.ref (w.2.2 + 0), .int b, .int t, .int a] M (some (.int (if yIm M o b t a then (xIm M o b t a).1 (zb o (ix b) + 2 + 11 * ix t) 5 else -1))) (if yIm M o b t a then xIm M o b t a else M) := by
  refine CT.of (cc := b_J_implement) (own := "CompatibilityJudge") (by decide) rfl rfl (Nat.le_of_ble_eq_true rfl) ?_
  intro p9 e9 s9 m9 ag9 bl9 mt9 c9 K
  show XW p9 l e9 (rm_J_implement) s9 m9 ag9 bl9 mt9 c9 6 0 0 (MQ bl9 (CQ w zN (some (.int (if yIm M o b t a then (xIm M o b t a).1 (zb o (ix b) + 2 + 11 * ix t) 5 else -1))) (if yIm M o b t a then xIm M o b t a else M)) ag9 s9 0 0 (fun q : Nat => w.2.2 ≤ q)) w zN M 0 [(0, .ref (w.2.2 + 0)), (1, .int b), (2, .int t), (3, .int a)] []
  refine x_iload_n (pc := 0) K 1 d_J_implement_0 rfl ?_
  refine x_iload_n (pc := 1) K 2 d_J_implement_1 rfl ?_
  refine x_callS (pc := 2) K (As := [.int b, .int t]) (rest := []) (c_J_isTypeOf l w M b t) (zcwS K.ts lk_J_27 sm_J_isTypeOf ii_J co_J_isTypeOf pd_J_isTypeOf ⟨rfl, rfl⟩ ⟨by decide, by decide⟩) rfl rfl (Nat.le_of_ble_eq_true rfl) ⟨Nat.zero_le _, Nat.zero_le _⟩ d_J_implement_2 ?_
  refine x_ifeqB (pc := 5) K (tgt := 22) d_J_implement_5 (by decide) (fun c5 => ?_) (fun c5 => ?_)
  · skip
    refine x_iconst (pc := 22) K (v := (-1)) d_J_implement_22 (by decide) ?_
    have hno : ¬ yIm M o b t a := fun q => c5 q.1
    exact x_iret (pc := 23) K (by rw [if_neg hno]) (by rw [if_neg hno]) d_J_implement_23
  · skip
    have hbx := ix_of 2 (by omega) c5.1.1 c5.1.2
    have htx := ix_of 12 (by omega) c5.2.1 c5.2.2
    refine x_iload_n (pc := 8) K 3 d_J_implement_8 rfl ?_
    refine x_bipush (pc := 9) K (v := 12) d_J_implement_9 (by decide) ?_
    refine x_callS (pc := 11) K (As := [.int a, .int 12]) (rest := []) (c_J_isWithin l w M a 12) (zcwS K.ts lk_J_31 sm_J_isWithin ii_J co_J_isWithin pd_J_isWithin ⟨rfl, rfl⟩ ⟨by decide, by decide⟩) rfl rfl (Nat.le_of_ble_eq_true rfl) ⟨Nat.zero_le _, Nat.zero_le _⟩ d_J_implement_11 ?_
    refine x_ifeqB (pc := 14) K (tgt := 22) d_J_implement_14 (by decide) (fun c14 => ?_) (fun c14 => ?_)
    · skip
      refine x_iconst (pc := 22) K (v := (-1)) d_J_implement_22 (by decide) ?_
      have hno : ¬ yIm M o b t a := fun q => c14 q.2.1
      exact x_iret (pc := 23) K (by rw [if_neg hno]) (by rw [if_neg hno]) d_J_implement_23
    · skip
      refine x_iload_n (pc := 17) K 3 d_J_implement_17 rfl ?_
      refine x_iload_n (pc := 18) K 2 d_J_implement_18 rfl ?_
      refine x_icmp_lt (pc := 19) K (tgt := 24) d_J_implement_19 (by decide) (fun c19 => ?_) (fun c19 => ?_)
      · skip
        have ha9 : inL (ix t) a := inL_lt (ix_of 12 (by omega) c14.1 c14.2) htx (by omega) (fun q => Int32.not_le.mpr c19 q)
        refine x_aload_n (pc := 24) K 0 d_J_implement_24 rfl ?_
        refine x_getr (pc := 25) K (n := 0) (n' := 1) (k := 0) (zlt shJ) shJ rfl hR.Ja rfl (by decide) (fun _ q => zmem (uw_J _ q)) (zmem lk_J_12) d_J_implement_25 ?_
        refine x_iload_n (pc := 28) K 1 d_J_implement_28 rfl ?_
        refine x_aald (pc := 29) K (n := 1) (n' := zb o (ix b)) (j := ix b) hbx.1 hbx.2 (hR.Jb hbx.2) (zlt shA) shA rfl (by decide) d_J_implement_29 ?_
        refine x_astore (pc := 30) K (lv' := [(4, .ref (w.2.2 + (zb o (ix b)))), (0, .ref (w.2.2 + 0)), (1, .int b), (2, .int t), (3, .int a)]) d_J_implement_30 (by decide) rfl ?_
        refine x_aload (pc := 32) K 0 d_J_implement_32 rfl ?_
        refine x_getr (pc := 34) K (n := zb o (ix b)) (n' := (zb o (ix b)) + 1) (k := 0) (zlt (hR.shb hbx.2)) (hR.shb hbx.2) rfl (hR.Ba (hR.shb hbx.2)) rfl (by decide) (fun _ q => zmem (uw_B _ q)) (zmem lk_J_34) d_J_implement_34 ?_
        refine x_iload_n (pc := 37) K 3 d_J_implement_37 rfl ?_
        refine x_aald (pc := 38) K (n := (zb o (ix b)) + 1) (n' := (zb o (ix b)) + 2 + 11 * (ix t)) (j := ix t) htx.1 htx.2 (hR.Bt (hR.shb hbx.2) htx.2) (zlt (shBa (hR.shb hbx.2))) (shBa (hR.shb hbx.2)) rfl (by decide) d_J_implement_38 ?_
        refine x_astore (pc := 39) K (lv' := [(5, .ref (w.2.2 + ((zb o (ix b)) + 2 + 11 * (ix t)))), (4, .ref (w.2.2 + (zb o (ix b)))), (0, .ref (w.2.2 + 0)), (1, .int b), (2, .int t), (3, .int a)]) d_J_implement_39 (by decide) rfl ?_
        refine x_aload (pc := 41) K 0 d_J_implement_41 rfl ?_
        refine x_geti (pc := 43) K (n := (zb o (ix b)) + 2 + 11 * (ix t)) (k := 0) (zlt (shBt (hR.shb hbx.2) htx.2)) (shBt (hR.shb hbx.2) htx.2) rfl rfl (by decide) (fun _ q => zmem (uw_T _ q)) (zmem lk_J_38) d_J_implement_43 ?_
        refine x_if_eq (pc := 46) K (tgt := 67) d_J_implement_46 (by decide) (fun c46 => ?_) (fun c46 => ?_)
        · skip
          refine x_iconst (pc := 67) K (v := (-1)) d_J_implement_67 (by decide) ?_
          have hno : ¬ yIm M o b t a := fun q => q.2.2.2.1 c46
          exact x_iret (pc := 68) K (by rw [if_neg hno]) (by rw [if_neg hno]) d_J_implement_68
        · skip
          refine x_aload (pc := 49) K 0 d_J_implement_49 rfl ?_
          refine x_geti (pc := 51) K (n := (zb o (ix b)) + 2 + 11 * (ix t)) (k := 5) (zlt (shBt (hR.shb hbx.2) htx.2)) (shBt (hR.shb hbx.2) htx.2) rfl rfl (by decide) (fun _ q => zmem (uw_T _ q)) (zmem lk_J_58) d_J_implement_51 ?_
          refine x_iconst (pc := 54) K (v := 3) d_J_implement_54 (by decide) ?_
          refine x_icmp_ge (pc := 55) K (tgt := 67) d_J_implement_55 (by decide) (fun c55 => ?_) (fun c55 => ?_)
          · skip
            refine x_iconst (pc := 67) K (v := (-1)) d_J_implement_67 (by decide) ?_
            have hno : ¬ yIm M o b t a := fun q => q.2.2.2.2.1 c55
            exact x_iret (pc := 68) K (by rw [if_neg hno]) (by rw [if_neg hno]) d_J_implement_68
          · skip
            refine x_aload (pc := 58) K 0 d_J_implement_58 rfl ?_
            refine x_iload_n (pc := 60) K 5 d_J_implement_60 rfl ?_
            refine x_callV (pc := 61) K (As := [.int a]) (rest := []) (c_T_names l w M ((zb o (ix b)) + 2 + 11 * (ix t)) (shBt (hR.shb hbx.2) htx.2) o hR ((hA _ hbx.2).1 (ix t) htx.2).1 a) (zcwV K.ts lk_J_62 im_T_names se_T_names ii_T co_T_names pd_T_names ⟨rfl, rfl⟩ ⟨by decide, by decide⟩) (zlt (shBt (hR.shb hbx.2) htx.2)) (shBt (hR.shb hbx.2) htx.2) rfl rfl rfl (Nat.le_of_ble_eq_true rfl) ⟨Nat.zero_le _, Nat.zero_le _⟩ d_J_implement_61 ?_
            refine x_ifeqB (pc := 64) K (tgt := 69) d_J_implement_64 (by decide) (fun c64 => ?_) (fun c64 => ?_)
            · skip
              refine x_aload (pc := 69) K 0 d_J_implement_69 rfl ?_
              refine x_iload_n (pc := 71) K 5 d_J_implement_71 rfl ?_
              refine x_callVv (pc := 72) K (As := [.int a]) (rest := []) (c_T_addInterface l w M ((zb o (ix b)) + 2 + 11 * (ix t)) (shBt (hR.shb hbx.2) htx.2) o hR ((hA _ hbx.2).1 (ix t) htx.2).1 a) (zcwV K.ts lk_J_66 im_T_addInterface se_T_addInterface ii_T co_T_addInterface pd_T_addInterface ⟨rfl, rfl⟩ ⟨by decide, by decide⟩) (zlt (shBt (hR.shb hbx.2) htx.2)) (shBt (hR.shb hbx.2) htx.2) rfl rfl rfl (Nat.le_of_ble_eq_true rfl) ⟨Nat.zero_le _, Nat.zero_le _⟩ d_J_implement_72 ?_
              refine x_aload (pc := 75) K 1 d_J_implement_75 rfl ?_
              refine x_callVv (pc := 77) K (As := []) (rest := []) (c_B_settle l w (tAdI M ((zb o (ix b)) + 2 + 11 * (ix t)) a) (zb o (ix b)) (hR.shb hbx.2) o (by rw [tAdI_2]; exact hR) (bOk_adI (hA _ hbx.2).1 htx.2 ha9)) (zcwV K.ts lk_J_52 im_B_settle se_B_settle ii_B co_B_settle pd_B_settle ⟨rfl, rfl⟩ ⟨by decide, by decide⟩) (zlt (hR.shb hbx.2)) (hR.shb hbx.2) rfl rfl rfl (Nat.le_of_ble_eq_true rfl) ⟨Nat.zero_le _, Nat.zero_le _⟩ d_J_implement_77 ?_
              refine x_aload_n (pc := 80) K 2 d_J_implement_80 rfl ?_
              refine x_getr (pc := 81) K (n := 0) (n' := 272) (k := 1) (zlt shJ) shJ rfl (show zRf o (stl _ _ _ _).2 from by rw [stl_2, tAdI_2]; exact hR).Jc rfl (by decide) (fun _ q => zmem (uw_J _ q)) (zmem lk_J_19) d_J_implement_81 ?_
              refine x_iconst (pc := 84) K (v := 1) d_J_implement_84 (by decide) ?_
              refine x_puti (pc := 85) K (n := 272) (k := 4) (x := 1) uY_C tk_C nm_C (zlt shC) shC rfl rfl (by decide) (fun _ q => zmem (uw_C _ q)) (zmem lk_J_55) rfl rfl rfl d_J_implement_85 ?_
              refine x_aload (pc := 88) K 0 d_J_implement_88 rfl ?_
              refine x_geti (pc := 90) K (n := (zb o (ix b)) + 2 + 11 * (ix t)) (k := 5) (zlt (shBt (hR.shb hbx.2) htx.2)) (shBt (hR.shb hbx.2) htx.2) rfl rfl (by decide) (fun _ q => zmem (uw_T _ q)) (zmem lk_J_58) d_J_implement_90 ?_
              have hyes : yIm M o b t a := ⟨c5, c14, c19, c46, c55, c64⟩
              exact x_iret (pc := 93) K (by rw [if_pos hyes, xIm]) (by rw [if_pos hyes, xIm]) d_J_implement_93
            · skip
              refine x_iconst (pc := 67) K (v := (-1)) d_J_implement_67 (by decide) ?_
              have hno : ¬ yIm M o b t a := fun q => q.2.2.2.2.2 c64
              exact x_iret (pc := 68) K (by rw [if_neg hno]) (by rw [if_neg hno]) d_J_implement_68
      · skip
        refine x_iconst (pc := 22) K (v := (-1)) d_J_implement_22 (by decide) ?_
        have hno : ¬ yIm M o b t a := fun q => c19 q.2.2.1
        exact x_iret (pc := 23) K (by rw [if_neg hno]) (by rw [if_neg hno]) d_J_implement_23
