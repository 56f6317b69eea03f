abbrev yCo (M : fl_M) (o : Nat) (b t p : Int32) : Prop := okP M.1 o b t p ∧ M.1 (zb o (ix b) + 2 + 11 * ix t + 3 + ix p) 0 = 0
def xCo (M : fl_M) (o : Nat) (b t p v : Int32) : fl_M := wI (wI (wI M (zb o (ix b) + 2 + 11 * ix t + 3 + ix p) 3 1) (zb o (ix b) + 2 + 11 * ix t + 3 + ix p) 4 v) 272 4 1
set_option maxHeartbeats 4000000 in
set_option maxRecDepth 100000 in
theorem c_J_constant (l : Launch) (w : fl_W) (M : fl_M) (o : Nat) (hR : zRf o M.2) (hA : ∀ x, x < 2 → bAll M.1 (zb o x)) (b t p v : Int32) : CT l y_J_constant w_J_constant rm_J_constant w zN [.ref (w.2.2 + 0), .int b, .int t, .int p, .int v] M (some (.int (if yCo M o b t p then (if M.1 (zb o (ix b) + 2 + 11 * ix t + 3 + ix p) 3 = 0 then 0 else 1) else -1))) (if yCo M o b t p then xCo M o b t p v else M) := by
  refine CT.of (cc := b_J_constant) (own := "CompatibilityJudge") (by decide) rfl rfl (Nat.le_of_ble_eq_true rfl) ?_
  intro p9 e9 s9 m9 ag9 bl9 mt9 c9 K
  show XW p9 l e9 (rm_J_constant) s9 m9 ag9 bl9 mt9 c9 7 0 0 (MQ bl9 (CQ w zN (some (.int (if yCo M o b t p then (if M.1 (zb o (ix b) + 2 + 11 * ix t + 3 + ix p) 3 = 0 then 0 else 1) else -1))) (if yCo M o b t p then xCo M o b t p v else M)) ag9 s9 0 0 (fun q : Nat => w.2.2 ≤ q)) w zN M 0 [(0, .ref (w.2.2 + 0)), (1, .int b), (2, .int t), (3, .int p), (4, .int v)] []
  refine x_aload_n (pc := 0) K 0 d_J_constant_0 rfl ?_
  refine x_iload_n (pc := 1) K 1 d_J_constant_1 rfl ?_
  refine x_iload_n (pc := 2) K 2 d_J_constant_2 rfl ?_
  refine x_iload_n (pc := 3) K 3 d_J_constant_3 rfl ?_
  refine x_callV (pc := 4) K (As := [.int b, .int t, .int p]) (rest := []) (c_J_isMemberOf l w M o hR b t p) (zcwV K.ts lk_J_92 im_J_isMemberOf se_J_isMemberOf ii_J co_J_isMemberOf pd_J_isMemberOf ⟨rfl, rfl⟩ ⟨by decide, by decide⟩) (zlt shJ) shJ rfl rfl rfl (Nat.le_of_ble_eq_true rfl) ⟨Nat.zero_le _, Nat.zero_le _⟩ d_J_constant_4 ?_
  refine x_ifneB (pc := 7) K (tgt := 12) d_J_constant_7 (by decide) (fun c7 => ?_) (fun c7 => ?_)
  · skip
    have c5 := c7.1
    have hbx := ix_of 2 (by omega) c5.1.1 c5.1.2
    have htx := ix_of 12 (by omega) c5.2.1 c5.2.2
    have hok9 := ((hA _ hbx.2).1 (ix t) htx.2).1
    have h89 := hok9.2.2
    have hpx := ix_of (cM M.1 (zb o (ix b) + 2 + 11 * ix t)) (by omega) c7.2.1 (fun z => c7.2.2 (by rw [hok9.2.1]; exact z))
    refine x_aload_n (pc := 12) K 0 d_J_constant_12 rfl ?_
    refine x_getr (pc := 13) K (n := 0) (n' := 1) (k := 0) (zlt shJ) shJ rfl hR.Ja rfl (by decide) (fun _ q => zmem (uw_J _ q)) (zmem lk_J_12) d_J_constant_13 ?_
    refine x_iload_n (pc := 16) K 1 d_J_constant_16 rfl ?_
    refine x_aald (pc := 17) K (n := 1) (n' := zb o (ix b)) (j := ix b) hbx.1 hbx.2 (hR.Jb hbx.2) (zlt shA) shA rfl (by decide) d_J_constant_17 ?_
    refine x_getr (pc := 18) K (n := zb o (ix b)) (n' := (zb o (ix b)) + 1) (k := 0) (zlt (hR.shb hbx.2)) (hR.shb hbx.2) rfl (hR.Ba (hR.shb hbx.2)) rfl (by decide) (fun _ q => zmem (uw_B _ q)) (zmem lk_J_34) d_J_constant_18 ?_
    refine x_iload_n (pc := 21) K 2 d_J_constant_21 rfl ?_
    refine x_aald (pc := 22) K (n := (zb o (ix b)) + 1) (n' := (zb o (ix b)) + 2 + 11 * (ix t)) (j := ix t) htx.1 htx.2 (hR.Bt (hR.shb hbx.2) htx.2) (zlt (shBa (hR.shb hbx.2))) (shBa (hR.shb hbx.2)) rfl (by decide) d_J_constant_22 ?_
    refine x_getr (pc := 23) K (n := (zb o (ix b)) + 2 + 11 * (ix t)) (n' := ((zb o (ix b)) + 2 + 11 * (ix t)) + 2) (k := 6) (zlt (shBt (hR.shb hbx.2) htx.2)) (shBt (hR.shb hbx.2) htx.2) rfl (hR.Ta (shBt (hR.shb hbx.2) htx.2)) rfl (by decide) (fun _ q => zmem (uw_T _ q)) (zmem lk_J_95) d_J_constant_23 ?_
    refine x_iload_n (pc := 26) K 3 d_J_constant_26 rfl ?_
    refine x_aald (pc := 27) K (n := ((zb o (ix b)) + 2 + 11 * (ix t)) + 2) (n' := ((zb o (ix b)) + 2 + 11 * (ix t)) + 3 + (ix p)) (j := ix p) hpx.1 (show ix p < 8 by have := hpx.2; omega) (hR.Tm (shBt (hR.shb hbx.2) htx.2) (show ix p < 8 by have := hpx.2; omega)) (zlt (shTa (shBt (hR.shb hbx.2) htx.2))) (shTa (shBt (hR.shb hbx.2) htx.2)) rfl (by decide) d_J_constant_27 ?_
    refine x_astore (pc := 28) K (lv' := [(5, .ref (w.2.2 + (((zb o (ix b)) + 2 + 11 * (ix t)) + 3 + (ix p)))), (0, .ref (w.2.2 + 0)), (1, .int b), (2, .int t), (3, .int p), (4, .int v)]) d_J_constant_28 (by decide) rfl ?_
    refine x_aload (pc := 30) K 0 d_J_constant_30 rfl ?_
    refine x_geti (pc := 32) K (n := ((zb o (ix b)) + 2 + 11 * (ix t)) + 3 + (ix p)) (k := 0) (zlt (shTm (shBt (hR.shb hbx.2) htx.2) (show ix p < 8 by have := hpx.2; omega))) (shTm (shBt (hR.shb hbx.2) htx.2) (show ix p < 8 by have := hpx.2; omega)) rfl rfl (by decide) (fun _ q => zmem (uw_M _ q)) (zmem lk_J_99) d_J_constant_32 ?_
    refine x_if_eq (pc := 35) K (tgt := 40) d_J_constant_35 (by decide) (fun c35 => ?_) (fun c35 => ?_)
    · skip
      refine x_aload (pc := 40) K 0 d_J_constant_40 rfl ?_
      refine x_geti (pc := 42) K (n := ((zb o (ix b)) + 2 + 11 * (ix t)) + 3 + (ix p)) (k := 3) (zlt (shTm (shBt (hR.shb hbx.2) htx.2) (show ix p < 8 by have := hpx.2; omega))) (shTm (shBt (hR.shb hbx.2) htx.2) (show ix p < 8 by have := hpx.2; omega)) rfl rfl (by decide) (fun _ q => zmem (uw_M _ q)) (zmem lk_J_102) d_J_constant_42 ?_
      refine x_if_eq (pc := 45) K (tgt := 52) d_J_constant_45 (by decide) (fun c45 => ?_) (fun c45 => ?_)
      · skip
        refine x_iconst (pc := 52) K (v := 0) d_J_constant_52 (by decide) ?_
        refine x_istore (pc := 53) K (lv' := [(6, .int 0), (5, .ref (w.2.2 + (((zb o (ix b)) + 2 + 11 * (ix t)) + 3 + (ix p)))), (0, .ref (w.2.2 + 0)), (1, .int b), (2, .int t), (3, .int p), (4, .int v)]) d_J_constant_53 (by decide) rfl ?_
        refine x_aload (pc := 55) K 1 d_J_constant_55 rfl ?_
        refine x_iconst (pc := 57) K (v := 1) d_J_constant_57 (by decide) ?_
        refine x_puti (pc := 58) K (n := ((zb o (ix b)) + 2 + 11 * (ix t)) + 3 + (ix p)) (k := 3) (x := 1) uY_M tk_M nm_M (zlt (shTm (shBt (hR.shb hbx.2) htx.2) (show ix p < 8 by have := hpx.2; omega))) (shTm (shBt (hR.shb hbx.2) htx.2) (show ix p < 8 by have := hpx.2; omega)) rfl rfl (by decide) (fun _ q => zmem (uw_M _ q)) (zmem lk_J_102) rfl rfl rfl d_J_constant_58 ?_
        refine x_aload (pc := 61) K 1 d_J_constant_61 rfl ?_
        refine x_iload (pc := 63) K 6 d_J_constant_63 rfl ?_
        refine x_puti (pc := 65) K (n := ((zb o (ix b)) + 2 + 11 * (ix t)) + 3 + (ix p)) (k := 4) (x := v) uY_M tk_M nm_M (zlt (shTm (shBt (hR.shb hbx.2) htx.2) (show ix p < 8 by have := hpx.2; omega))) (shTm (shBt (hR.shb hbx.2) htx.2) (show ix p < 8 by have := hpx.2; omega)) rfl rfl (by decide) (fun _ q => zmem (uw_M _ q)) (zmem lk_J_105) rfl rfl rfl d_J_constant_65 ?_
        refine x_aload_n (pc := 68) K 2 d_J_constant_68 rfl ?_
        refine x_getr (pc := 69) K (n := 0) (n' := 272) (k := 1) (zlt shJ) shJ rfl hR.Jc rfl (by decide) (fun _ q => zmem (uw_J _ q)) (zmem lk_J_19) d_J_constant_69 ?_
        refine x_iconst (pc := 72) K (v := 1) d_J_constant_72 (by decide) ?_
        refine x_puti (pc := 73) K (n := 272) (k := 4) (x := 1) uY_C tk_C nm_C (zlt shC) shC rfl rfl (by decide) (fun _ q => zmem (uw_C _ q)) (zmem lk_J_55) rfl rfl rfl d_J_constant_73 ?_
        refine x_iload (pc := 76) K 0 d_J_constant_76 rfl ?_
        have hyes : yCo M o b t p := ⟨c7, c35⟩
        exact x_iret (pc := 78) K (by rw [if_pos hyes, if_pos c45]) (by rw [if_pos hyes, xCo]) d_J_constant_78
      · skip
        refine x_iconst (pc := 48) K (v := 1) d_J_constant_48 (by decide) ?_
        refine x_goto (pc := 49) K (tgt := 53) d_J_constant_49 (by decide) ?_
        refine x_istore (pc := 53) K (lv' := [(6, .int 1), (5, .ref (w.2.2 + (((zb o (ix b)) + 2 + 11 * (ix t)) + 3 + (ix p)))), (0, .ref (w.2.2 + 0)), (1, .int b), (2, .int t), (3, .int p), (4, .int v)]) d_J_constant_53 (by decide) rfl ?_
        refine x_aload (pc := 55) K 1 d_J_constant_55 rfl ?_
        refine x_iconst (pc := 57) K (v := 1) d_J_constant_57 (by decide) ?_
        refine x_puti (pc := 58) K (n := ((zb o (ix b)) + 2 + 11 * (ix t)) + 3 + (ix p)) (k := 3) (x := 1) uY_M tk_M nm_M (zlt (shTm (shBt (hR.shb hbx.2) htx.2) (show ix p < 8 by have := hpx.2; omega))) (shTm (shBt (hR.shb hbx.2) htx.2) (show ix p < 8 by have := hpx.2; omega)) rfl rfl (by decide) (fun _ q => zmem (uw_M _ q)) (zmem lk_J_102) rfl rfl rfl d_J_constant_58 ?_
        refine x_aload (pc := 61) K 1 d_J_constant_61 rfl ?_
        refine x_iload (pc := 63) K 6 d_J_constant_63 rfl ?_
        refine x_puti (pc := 65) K (n := ((zb o (ix b)) + 2 + 11 * (ix t)) + 3 + (ix p)) (k := 4) (x := v) uY_M tk_M nm_M (zlt (shTm (shBt (hR.shb hbx.2) htx.2) (show ix p < 8 by have := hpx.2; omega))) (shTm (shBt (hR.shb hbx.2) htx.2) (show ix p < 8 by have := hpx.2; omega)) rfl rfl (by decide) (fun _ q => zmem (uw_M _ q)) (zmem lk_J_105) rfl rfl rfl d_J_constant_65 ?_
        refine x_aload_n (pc := 68) K 2 d_J_constant_68 rfl ?_
        refine x_getr (pc := 69) K (n := 0) (n' := 272) (k := 1) (zlt shJ) shJ rfl hR.Jc rfl (by decide) (fun _ q => zmem (uw_J _ q)) (zmem lk_J_19) d_J_constant_69 ?_
        refine x_iconst (pc := 72) K (v := 1) d_J_constant_72 (by decide) ?_
        refine x_puti (pc := 73) K (n := 272) (k := 4) (x := 1) uY_C tk_C nm_C (zlt shC) shC rfl rfl (by decide) (fun _ q => zmem (uw_C _ q)) (zmem lk_J_55) rfl rfl rfl d_J_constant_73 ?_
        refine x_iload (pc := 76) K 0 d_J_constant_76 rfl ?_
        have hyes : yCo M o b t p := ⟨c7, c35⟩
        exact x_iret (pc := 78) K (by rw [if_pos hyes, if_neg c45]) (by rw [if_pos hyes, xCo]) d_J_constant_78
    · skip
      refine x_iconst (pc := 38) K (v := (-1)) d_J_constant_38 (by decide) ?_
      have hno : ¬ yCo M o b t p := fun q => c35 q.2
      exact x_iret (pc := 39) K (by rw [if_neg hno]) (by rw [if_neg hno]) d_J_constant_39
  · skip
    refine x_iconst (pc := 10) K (v := (-1)) d_J_constant_10 (by decide) ?_
    have hno : ¬ yCo M o b t p := fun q => c7 q.1
    exact x_iret (pc := 11) K (by rw [if_neg hno]) (by rw [if_neg hno]) d_J_constant_11
