def xDr (M : fl_M) (o : Nat) (b t p : Int32) : fl_M := wI (wI (tko M (zb o (ix b) + 2 + 11 * ix t) (ix p) (cM M.1 (zb o (ix b) + 2 + 11 * ix t) - 1 - ix p)) (zb o (ix b) + 2 + 11 * ix t) 7 (nI (cM M.1 (zb o (ix b) + 2 + 11 * ix t) - 1))) 272 4 1
set_option maxHeartbeats 4000000 in
set_option maxRecDepth 100000 in
theorem c_J_drop (l : Launch) (w : fl_W) (M : fl_M) (o : Nat) (hR : zRf o M.2) (hA : ∀ x, x < 2 → bAll M.1 (zb o x)) (hz : zM3 M.1) (b t p : Int32) : CT l y_J_drop w_J_drop rm_J_drop w zN [.ref (w.2.2 + 0), .int b, .int t, .int p] M (some (.int (if okP M.1 o b t p then (xDr M o b t p).1 (zb o (ix b) + 2 + 11 * ix t) 7 else -1))) (if okP M.1 o b t p then xDr M o b t p else M) := by
  refine CT.of (cc := b_J_drop) (own := "CompatibilityJudge") (by decide) rfl rfl (Nat.le_of_ble_eq_true rfl) ?_
  intro p9 e9 s9 m9 ag9 bl9 mt9 c9 K
  show XW p9 l e9 (rm_J_drop) s9 m9 ag9 bl9 mt9 c9 5 0 0 (MQ bl9 (CQ w zN (some (.int (if okP M.1 o b t p then (xDr M o b t p).1 (zb o (ix b) + 2 + 11 * ix t) 7 else -1))) (if okP M.1 o b t p then xDr M o b t p else M)) ag9 s9 0 0 (fun q : Nat => w.2.2 ≤ q)) w zN M 0 [(0, .ref (w.2.2 + 0)), (1, .int b), (2, .int t), (3, .int p)] []
  refine x_aload_n (pc := 0) K 0 d_J_drop_0 rfl ?_
  refine x_iload_n (pc := 1) K 1 d_J_drop_1 rfl ?_
  refine x_iload_n (pc := 2) K 2 d_J_drop_2 rfl ?_
  refine x_iload_n (pc := 3) K 3 d_J_drop_3 rfl ?_
  refine x_callV (pc := 4) K (As := [.int b, .int t, .int p]) (rest := []) (c_J_isMemberOf l w M o hR b t p) (zcwV K.ts lk_J_92 im_J_isMemberOf se_J_isMemberOf ii_J co_J_isMemberOf pd_J_isMemberOf ⟨rfl, rfl⟩ ⟨by decide, by decide⟩) (zlt shJ) shJ rfl rfl rfl (Nat.le_of_ble_eq_true rfl) ⟨Nat.zero_le _, Nat.zero_le _⟩ d_J_drop_4 ?_
  refine x_ifneB (pc := 7) K (tgt := 12) d_J_drop_7 (by decide) (fun c7 => ?_) (fun c7 => ?_)
  · skip
    have c5 := c7.1
    have hbx := ix_of 2 (by omega) c5.1.1 c5.1.2
    have htx := ix_of 12 (by omega) c5.2.1 c5.2.2
    have hok9 := ((hA _ hbx.2).1 (ix t) htx.2).1
    have h89 := hok9.2.2
    have hpx := ix_of (cM M.1 (zb o (ix b) + 2 + 11 * ix t)) (by omega) c7.2.1 (fun z => c7.2.2 (by rw [hok9.2.1]; exact z))
    refine x_aload_n (pc := 12) K 0 d_J_drop_12 rfl ?_
    refine x_getr (pc := 13) K (n := 0) (n' := 1) (k := 0) (zlt shJ) shJ rfl hR.Ja rfl (by decide) (fun _ q => zmem (uw_J _ q)) (zmem lk_J_12) d_J_drop_13 ?_
    refine x_iload_n (pc := 16) K 1 d_J_drop_16 rfl ?_
    refine x_aald (pc := 17) K (n := 1) (n' := zb o (ix b)) (j := ix b) hbx.1 hbx.2 (hR.Jb hbx.2) (zlt shA) shA rfl (by decide) d_J_drop_17 ?_
    refine x_getr (pc := 18) K (n := zb o (ix b)) (n' := (zb o (ix b)) + 1) (k := 0) (zlt (hR.shb hbx.2)) (hR.shb hbx.2) rfl (hR.Ba (hR.shb hbx.2)) rfl (by decide) (fun _ q => zmem (uw_B _ q)) (zmem lk_J_34) d_J_drop_18 ?_
    refine x_iload_n (pc := 21) K 2 d_J_drop_21 rfl ?_
    refine x_aald (pc := 22) K (n := (zb o (ix b)) + 1) (n' := (zb o (ix b)) + 2 + 11 * (ix t)) (j := ix t) htx.1 htx.2 (hR.Bt (hR.shb hbx.2) htx.2) (zlt (shBa (hR.shb hbx.2))) (shBa (hR.shb hbx.2)) rfl (by decide) d_J_drop_22 ?_
    refine x_astore (pc := 23) K (lv' := [(4, .ref (w.2.2 + ((zb o (ix b)) + 2 + 11 * (ix t)))), (0, .ref (w.2.2 + 0)), (1, .int b), (2, .int t), (3, .int p)]) d_J_drop_23 (by decide) rfl ?_
    refine x_aload (pc := 25) K 0 d_J_drop_25 rfl ?_
    refine x_iload_n (pc := 27) K 4 d_J_drop_27 rfl ?_
    refine x_eqi (y := nI (ix p)) (hpx.1) ?_
    refine x_callVv (pc := 28) K (As := [.int (nI (ix p))]) (rest := []) (c_T_takeOut l w M (zb o (ix b) + 2 + 11 * ix t) (shBt (hR.shb hbx.2) htx.2) o hR (cM M.1 (zb o (ix b) + 2 + 11 * ix t)) (ix p) hpx.2 h89 hok9.2.1 hz) (zcwV K.ts lk_J_111 im_T_takeOut se_T_takeOut ii_T co_T_takeOut pd_T_takeOut ⟨rfl, rfl⟩ ⟨by decide, by decide⟩) (zlt (shBt (hR.shb hbx.2) htx.2)) (shBt (hR.shb hbx.2) htx.2) rfl rfl rfl (Nat.le_of_ble_eq_true rfl) ⟨Nat.zero_le _, Nat.zero_le _⟩ d_J_drop_28 ?_
    refine x_aload_n (pc := 31) K 1 d_J_drop_31 rfl ?_
    refine x_getr (pc := 32) K (n := 0) (n' := 272) (k := 1) (zlt shJ) shJ rfl (show zRf o (tko _ _ _ _).2 from by rw [tko_2]; exact hR).Jc rfl (by decide) (fun _ q => zmem (uw_J _ q)) (zmem lk_J_19) d_J_drop_32 ?_
    refine x_iconst (pc := 35) K (v := 1) d_J_drop_35 (by decide) ?_
    refine x_puti (pc := 36) K (n := 272) (k := 4) (x := 1) uY_C tk_C nm_C (zlt shC) shC rfl rfl (by decide) (fun _ q => zmem (uw_C _ q)) (zmem lk_J_55) rfl rfl rfl d_J_drop_36 ?_
    refine x_aload (pc := 39) K 0 d_J_drop_39 rfl ?_
    refine x_geti (pc := 41) K (n := (zb o (ix b)) + 2 + 11 * (ix t)) (k := 7) (zlt (shBt (hR.shb hbx.2) htx.2)) (shBt (hR.shb hbx.2) htx.2) rfl rfl (by decide) (fun _ q => zmem (uw_T _ q)) (zmem lk_J_73) d_J_drop_41 ?_
    have hyes : okP M.1 o b t p := c7
    exact x_iret (pc := 44) K (by rw [if_pos hyes, xDr]) (by rw [if_pos hyes, xDr]) d_J_drop_44
  · skip
    refine x_iconst (pc := 10) K (v := (-1)) d_J_drop_10 (by decide) ?_
    have hno : ¬ okP M.1 o b t p := fun q => c7 q
    exact x_iret (pc := 11) K (by rw [if_neg hno]) (by rw [if_neg hno]) d_J_drop_11
