set_option maxHeartbeats 4000000 in
set_option maxRecDepth 100000 in
theorem c_J_supertypes (l : Launch) (w : fl_W) (M : fl_M) (o : Nat) (hR : zRf o M.2) (b t : Int32) : CT l y_J_supertypes w_J_supertypes rm_J_supertypes w zN [.ref (w.2.2 + 0), .int b, .int t] M (some (.int (if okT b t then M.1 (zb o (ix b) + 2 + 11 * ix t) 9 else -1))) M := by
  refine CT.of (cc := b_J_supertypes) (own := "CompatibilityJudge") (by decide) rfl rfl (Nat.le_of_ble_eq_true rfl) ?_
  intro p9 e9 s9 m9 ag9 bl9 mt9 c9 K
  show XW p9 l e9 (rm_J_supertypes) s9 m9 ag9 bl9 mt9 c9 3 0 0 (MQ bl9 (CQ w zN (some (.int (if okT b t then M.1 (zb o (ix b) + 2 + 11 * ix t) 9 else -1))) M) ag9 s9 0 0 (fun q : Nat => w.2.2 ≤ q)) w zN M 0 [(0, .ref (w.2.2 + 0)), (1, .int b), (2, .int t)] []
  refine x_iload_n (pc := 0) K 1 d_J_supertypes_0 rfl ?_
  refine x_iload_n (pc := 1) K 2 d_J_supertypes_1 rfl ?_
  refine x_callS (pc := 2) K (As := [.int b, .int t]) (rest := []) (c_J_isTypeOf l w M b t) (zcwS K.ts lk_J_27 sm_J_isTypeOf ii_J co_J_isTypeOf pd_J_isTypeOf ⟨rfl, rfl⟩ ⟨by decide, by decide⟩) rfl rfl (Nat.le_of_ble_eq_true rfl) ⟨Nat.zero_le _, Nat.zero_le _⟩ d_J_supertypes_2 ?_
  refine x_ifneB (pc := 5) K (tgt := 10) d_J_supertypes_5 (by decide) (fun c5 => ?_) (fun c5 => ?_)
  · skip
    have hbx := ix_of 2 (by omega) c5.1.1 c5.1.2
    have htx := ix_of 12 (by omega) c5.2.1 c5.2.2
    refine x_aload_n (pc := 10) K 0 d_J_supertypes_10 rfl ?_
    refine x_getr (pc := 11) K (n := 0) (n' := 1) (k := 0) (zlt shJ) shJ rfl hR.Ja rfl (by decide) (fun _ q => zmem (uw_J _ q)) (zmem lk_J_12) d_J_supertypes_11 ?_
    refine x_iload_n (pc := 14) K 1 d_J_supertypes_14 rfl ?_
    refine x_aald (pc := 15) K (n := 1) (n' := zb o (ix b)) (j := ix b) hbx.1 hbx.2 (hR.Jb hbx.2) (zlt shA) shA rfl (by decide) d_J_supertypes_15 ?_
    refine x_getr (pc := 16) K (n := zb o (ix b)) (n' := (zb o (ix b)) + 1) (k := 0) (zlt (hR.shb hbx.2)) (hR.shb hbx.2) rfl (hR.Ba (hR.shb hbx.2)) rfl (by decide) (fun _ q => zmem (uw_B _ q)) (zmem lk_J_34) d_J_supertypes_16 ?_
    refine x_iload_n (pc := 19) K 2 d_J_supertypes_19 rfl ?_
    refine x_aald (pc := 20) K (n := (zb o (ix b)) + 1) (n' := (zb o (ix b)) + 2 + 11 * (ix t)) (j := ix t) htx.1 htx.2 (hR.Bt (hR.shb hbx.2) htx.2) (zlt (shBa (hR.shb hbx.2))) (shBa (hR.shb hbx.2)) rfl (by decide) d_J_supertypes_20 ?_
    refine x_geti (pc := 21) K (n := (zb o (ix b)) + 2 + 11 * (ix t)) (k := 9) (zlt (shBt (hR.shb hbx.2) htx.2)) (shBt (hR.shb hbx.2) htx.2) rfl rfl (by decide) (fun _ q => zmem (uw_T _ q)) (zmem lk_J_125) d_J_supertypes_21 ?_
    exact x_iret (pc := 24) K (by rw [if_pos c5]) (rfl) d_J_supertypes_24
  · skip
    refine x_iconst (pc := 8) K (v := (-1)) d_J_supertypes_8 (by decide) ?_
    exact x_iret (pc := 9) K (by rw [if_neg c5]) (rfl) d_J_supertypes_9
set_option maxHeartbeats 4000000 in
set_option maxRecDepth 100000 in
theorem c_J_look (l : Launch) (w : fl_W) (M : fl_M) (o : Nat) (hR : zRf o M.2) (hA : ∀ x, x < 2 → bAll M.1 (zb o x)) (b t k q : Int32) : CT l y_J_look w_J_look rm_J_look w zN [.ref (w.2.2 + 0), .int b, .int t, .int k, .int q] M (some (.int (if (okT b t ∧ okK k q) then whr M (zb o (ix b)) (ix t) k q else -1))) (if (okT b t ∧ okK k q) then whM M (zb o (ix b)) (ix t) k q else M) := by
  refine CT.of (cc := b_J_look) (own := "CompatibilityJudge") (by decide) rfl rfl (Nat.le_of_ble_eq_true rfl) ?_
  intro p9 e9 s9 m9 ag9 bl9 mt9 c9 K
  show XW p9 l e9 (rm_J_look) s9 m9 ag9 bl9 mt9 c9 5 0 0 (MQ bl9 (CQ w zN (some (.int (if (okT b t ∧ okK k q) then whr M (zb o (ix b)) (ix t) k q else -1))) (if (okT b t ∧ okK k q) then whM M (zb o (ix b)) (ix t) k q else M)) ag9 s9 0 0 (fun q : Nat => w.2.2 ≤ q)) w zN M 0 [(0, .ref (w.2.2 + 0)), (1, .int b), (2, .int t), (3, .int k), (4, .int q)] []
  refine x_iload_n (pc := 0) K 1 d_J_look_0 rfl ?_
  refine x_iload_n (pc := 1) K 2 d_J_look_1 rfl ?_
  refine x_callS (pc := 2) K (As := [.int b, .int t]) (rest := []) (c_J_isTypeOf l w M b t) (zcwS K.ts lk_J_27 sm_J_isTypeOf ii_J co_J_isTypeOf pd_J_isTypeOf ⟨rfl, rfl⟩ ⟨by decide, by decide⟩) rfl rfl (Nat.le_of_ble_eq_true rfl) ⟨Nat.zero_le _, Nat.zero_le _⟩ d_J_look_2 ?_
  refine x_ifeqB (pc := 5) K (tgt := 17) d_J_look_5 (by decide) (fun c5 => ?_) (fun c5 => ?_)
  · skip
    refine x_iconst (pc := 17) K (v := (-1)) d_J_look_17 (by decide) ?_
    have hno : ¬ (okT b t ∧ okK k q) := fun q => c5 q.1
    exact x_iret (pc := 18) K (by rw [if_neg hno]) (by rw [if_neg hno]) d_J_look_18
  · skip
    have hbx := ix_of 2 (by omega) c5.1.1 c5.1.2
    have htx := ix_of 12 (by omega) c5.2.1 c5.2.2
    refine x_iload_n (pc := 8) K 3 d_J_look_8 rfl ?_
    refine x_iload (pc := 9) K 4 d_J_look_9 rfl ?_
    refine x_callS (pc := 11) K (As := [.int k, .int q]) (rest := []) (c_J_isKey l w M k q) (zcwS K.ts lk_J_70 sm_J_isKey ii_J co_J_isKey pd_J_isKey ⟨rfl, rfl⟩ ⟨by decide, by decide⟩) rfl rfl (Nat.le_of_ble_eq_true rfl) ⟨Nat.zero_le _, Nat.zero_le _⟩ d_J_look_11 ?_
    refine x_ifneB (pc := 14) K (tgt := 19) d_J_look_14 (by decide) (fun c14 => ?_) (fun c14 => ?_)
    · skip
      refine x_aload_n (pc := 19) K 0 d_J_look_19 rfl ?_
      refine x_getr (pc := 20) K (n := 0) (n' := 1) (k := 0) (zlt shJ) shJ rfl hR.Ja rfl (by decide) (fun _ q => zmem (uw_J _ q)) (zmem lk_J_12) d_J_look_20 ?_
      refine x_iload_n (pc := 23) K 1 d_J_look_23 rfl ?_
      refine x_aald (pc := 24) K (n := 1) (n' := zb o (ix b)) (j := ix b) hbx.1 hbx.2 (hR.Jb hbx.2) (zlt shA) shA rfl (by decide) d_J_look_24 ?_
      refine x_iload_n (pc := 25) K 2 d_J_look_25 rfl ?_
      refine x_eqi (y := nI (ix t)) (htx.1) ?_
      refine x_iload_n (pc := 26) K 3 d_J_look_26 rfl ?_
      refine x_iload (pc := 27) K 4 d_J_look_27 rfl ?_
      refine x_callV (pc := 29) K (As := [.int (nI (ix t)), .int k, .int q]) (rest := []) (c_B_whereIs l w M (zb o (ix b)) (hR.shb hbx.2) o hR (hA _ hbx.2).1 (hA _ hbx.2).2.1 (ix t) htx.2 k q) (zcwV K.ts lk_J_128 im_B_whereIs se_B_whereIs ii_B co_B_whereIs pd_B_whereIs ⟨rfl, rfl⟩ ⟨by decide, by decide⟩) (zlt (hR.shb hbx.2)) (hR.shb hbx.2) rfl rfl rfl (Nat.le_of_ble_eq_true rfl) ⟨Nat.zero_le _, Nat.zero_le _⟩ d_J_look_29 ?_
      have hyes : (okT b t ∧ okK k q) := ⟨c5, c14⟩
      exact x_iret (pc := 32) K (by rw [if_pos hyes]) (by rw [if_pos hyes]) d_J_look_32
    · skip
      refine x_iconst (pc := 17) K (v := (-1)) d_J_look_17 (by decide) ?_
      have hno : ¬ (okT b t ∧ okK k q) := fun q => c14 q.2
      exact x_iret (pc := 18) K (by rw [if_neg hno]) (by rw [if_neg hno]) d_J_look_18
