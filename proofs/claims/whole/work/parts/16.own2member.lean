abbrev yMb (M : fl_M) (o : Nat) (b t k q f : Int32) : Prop := okT b t ∧ okK k q ∧ (¬ f < 0 ∧ ¬ (32 : Int32) ≤ f) ∧ ¬ M.1 (zb o (ix b) + 2 + 11 * ix t) 0 = 0 ∧ ¬ (8 : Int32) ≤ M.1 (zb o (ix b) + 2 + 11 * ix t) 7 ∧ tOwn M.1 (zb o (ix b) + 2 + 11 * ix t) k q = none ∧ okMb k f ∧ (M.1 (zb o (ix b) + 2 + 11 * ix t) 1 = 1 → okIf k f)
def xMb (M : fl_M) (o : Nat) (b t k q f : Int32) : fl_M := wI (tAdM M (zb o (ix b) + 2 + 11 * ix t) k q f) 272 4 1
set_option maxHeartbeats 4000000 in
set_option maxRecDepth 100000 in
theorem c_J_member (l : Launch) (w : fl_W) (M : fl_M) (o : Nat) (hR : zRf o M.2) (hA : ∀ x, x < 2 → bAll M.1 (zb o x)) (b t k q f : Int32) : CT l y_J_member w_J_member rm_J_member w zN [.ref (w.2.2 + 0), .int b, .int t, .int k, .int q, .int f] M (some (.int (if yMb M o b t k q f then (xMb M o b t k q f).1 (zb o (ix b) + 2 + 11 * ix t) 7 - 1 else -1))) (if yMb M o b t k q f then xMb M o b t k q f else M) := by
  refine CT.of (cc := b_J_member) (own := "CompatibilityJudge") (by decide) rfl rfl (Nat.le_of_ble_eq_true rfl) ?_
  intro p9 e9 s9 m9 ag9 bl9 mt9 c9 K
  show XW p9 l e9 (rm_J_member) s9 m9 ag9 bl9 mt9 c9 7 0 0 (MQ bl9 (CQ w zN (some (.int (if yMb M o b t k q f then (xMb M o b t k q f).1 (zb o (ix b) + 2 + 11 * ix t) 7 - 1 else -1))) (if yMb M o b t k q f then xMb M o b t k q f else M)) ag9 s9 0 0 (fun q : Nat => w.2.2 ≤ q)) w zN M 0 [(0, .ref (w.2.2 + 0)), (1, .int b), (2, .int t), (3, .int k), (4, .int q), (5, .int f)] []
  refine x_iload_n (pc := 0) K 1 d_J_member_0 rfl ?_
  refine x_iload_n (pc := 1) K 2 d_J_member_1 rfl ?_
  refine x_callS (pc := 2) K (As := [.int b, .int t]) (rest := []) (c_J_isTypeOf l w M b t) (zcwS K.ts lk_J_27 sm_J_isTypeOf ii_J co_J_isTypeOf pd_J_isTypeOf ⟨rfl, rfl⟩ ⟨by decide, by decide⟩) rfl rfl (Nat.le_of_ble_eq_true rfl) ⟨Nat.zero_le _, Nat.zero_le _⟩ d_J_member_2 ?_
  refine x_ifeqB (pc := 5) K (tgt := 27) d_J_member_5 (by decide) (fun c5 => ?_) (fun c5 => ?_)
  · skip
    refine x_iconst (pc := 27) K (v := (-1)) d_J_member_27 (by decide) ?_
    have hno : ¬ yMb M o b t k q f := fun q => c5 q.1
    exact x_iret (pc := 28) K (by rw [if_neg hno]) (by rw [if_neg hno]) d_J_member_28
  · skip
    have hbx := ix_of 2 (by omega) c5.1.1 c5.1.2
    have htx := ix_of 12 (by omega) c5.2.1 c5.2.2
    refine x_iload_n (pc := 8) K 3 d_J_member_8 rfl ?_
    refine x_iload (pc := 9) K 4 d_J_member_9 rfl ?_
    refine x_callS (pc := 11) K (As := [.int k, .int q]) (rest := []) (c_J_isKey l w M k q) (zcwS K.ts lk_J_70 sm_J_isKey ii_J co_J_isKey pd_J_isKey ⟨rfl, rfl⟩ ⟨by decide, by decide⟩) rfl rfl (Nat.le_of_ble_eq_true rfl) ⟨Nat.zero_le _, Nat.zero_le _⟩ d_J_member_11 ?_
    refine x_ifeqB (pc := 14) K (tgt := 27) d_J_member_14 (by decide) (fun c14 => ?_) (fun c14 => ?_)
    · skip
      refine x_iconst (pc := 27) K (v := (-1)) d_J_member_27 (by decide) ?_
      have hno : ¬ yMb M o b t k q f := fun q => c14 q.2.1
      exact x_iret (pc := 28) K (by rw [if_neg hno]) (by rw [if_neg hno]) d_J_member_28
    · skip
      refine x_iload (pc := 17) K 5 d_J_member_17 rfl ?_
      refine x_bipush (pc := 19) K (v := 32) d_J_member_19 (by decide) ?_
      refine x_callS (pc := 21) K (As := [.int f, .int 32]) (rest := []) (c_J_isWithin l w M f 32) (zcwS K.ts lk_J_31 sm_J_isWithin ii_J co_J_isWithin pd_J_isWithin ⟨rfl, rfl⟩ ⟨by decide, by decide⟩) rfl rfl (Nat.le_of_ble_eq_true rfl) ⟨Nat.zero_le _, Nat.zero_le _⟩ d_J_member_21 ?_
      refine x_ifneB (pc := 24) K (tgt := 29) d_J_member_24 (by decide) (fun c24 => ?_) (fun c24 => ?_)
      · skip
        refine x_aload_n (pc := 29) K 0 d_J_member_29 rfl ?_
        refine x_getr (pc := 30) K (n := 0) (n' := 1) (k := 0) (zlt shJ) shJ rfl hR.Ja rfl (by decide) (fun _ q => zmem (uw_J _ q)) (zmem lk_J_12) d_J_member_30 ?_
        refine x_iload_n (pc := 33) K 1 d_J_member_33 rfl ?_
        refine x_aald (pc := 34) K (n := 1) (n' := zb o (ix b)) (j := ix b) hbx.1 hbx.2 (hR.Jb hbx.2) (zlt shA) shA rfl (by decide) d_J_member_34 ?_
        refine x_getr (pc := 35) K (n := zb o (ix b)) (n' := (zb o (ix b)) + 1) (k := 0) (zlt (hR.shb hbx.2)) (hR.shb hbx.2) rfl (hR.Ba (hR.shb hbx.2)) rfl (by decide) (fun _ q => zmem (uw_B _ q)) (zmem lk_J_34) d_J_member_35 ?_
        refine x_iload_n (pc := 38) K 2 d_J_member_38 rfl ?_
        refine x_aald (pc := 39) K (n := (zb o (ix b)) + 1) (n' := (zb o (ix b)) + 2 + 11 * (ix t)) (j := ix t) htx.1 htx.2 (hR.Bt (hR.shb hbx.2) htx.2) (zlt (shBa (hR.shb hbx.2))) (shBa (hR.shb hbx.2)) rfl (by decide) d_J_member_39 ?_
        refine x_astore (pc := 40) K (lv' := [(6, .ref (w.2.2 + ((zb o (ix b)) + 2 + 11 * (ix t)))), (0, .ref (w.2.2 + 0)), (1, .int b), (2, .int t), (3, .int k), (4, .int q), (5, .int f)]) d_J_member_40 (by decide) rfl ?_
        refine x_aload (pc := 42) K 0 d_J_member_42 rfl ?_
        refine x_geti (pc := 44) K (n := (zb o (ix b)) + 2 + 11 * (ix t)) (k := 0) (zlt (shBt (hR.shb hbx.2) htx.2)) (shBt (hR.shb hbx.2) htx.2) rfl rfl (by decide) (fun _ q => zmem (uw_T _ q)) (zmem lk_J_38) d_J_member_44 ?_
        refine x_if_eq (pc := 47) K (tgt := 98) d_J_member_47 (by decide) (fun c47 => ?_) (fun c47 => ?_)
        · skip
          refine x_iconst (pc := 98) K (v := (-1)) d_J_member_98 (by decide) ?_
          have hno : ¬ yMb M o b t k q f := fun q => q.2.2.2.1 c47
          exact x_iret (pc := 99) K (by rw [if_neg hno]) (by rw [if_neg hno]) d_J_member_99
        · skip
          refine x_aload (pc := 50) K 0 d_J_member_50 rfl ?_
          refine x_geti (pc := 52) K (n := (zb o (ix b)) + 2 + 11 * (ix t)) (k := 7) (zlt (shBt (hR.shb hbx.2) htx.2)) (shBt (hR.shb hbx.2) htx.2) rfl rfl (by decide) (fun _ q => zmem (uw_T _ q)) (zmem lk_J_73) d_J_member_52 ?_
          refine x_bipush (pc := 55) K (v := 8) d_J_member_55 (by decide) ?_
          refine x_icmp_ge (pc := 57) K (tgt := 98) d_J_member_57 (by decide) (fun c57 => ?_) (fun c57 => ?_)
          · skip
            refine x_iconst (pc := 98) K (v := (-1)) d_J_member_98 (by decide) ?_
            have hno : ¬ yMb M o b t k q f := fun q => q.2.2.2.2.1 c57
            exact x_iret (pc := 99) K (by rw [if_neg hno]) (by rw [if_neg hno]) d_J_member_99
          · skip
            refine x_aload (pc := 60) K 0 d_J_member_60 rfl ?_
            refine x_iload_n (pc := 62) K 4 d_J_member_62 rfl ?_
            refine x_iload (pc := 63) K 5 d_J_member_63 rfl ?_
            refine x_callV (pc := 65) K (As := [.int k, .int q]) (rest := []) (c_T_own l w M ((zb o (ix b)) + 2 + 11 * (ix t)) (shBt (hR.shb hbx.2) htx.2) o hR ((hA _ hbx.2).1 (ix t) htx.2).1 k q) (zcwV K.ts lk_J_76 im_T_own se_T_own ii_T co_T_own pd_T_own ⟨rfl, rfl⟩ ⟨by decide, by decide⟩) (zlt (shBt (hR.shb hbx.2) htx.2)) (shBt (hR.shb hbx.2) htx.2) rfl rfl rfl (Nat.le_of_ble_eq_true rfl) ⟨Nat.zero_le _, Nat.zero_le _⟩ d_J_member_65 ?_
            refine x_opt (n := (zb o (ix b)) + 2 + 11 * (ix t)) (F := tOwn M.1 ((zb o (ix b)) + 2 + 11 * (ix t)) k q) (fun ho65 => ?_) (fun j65 ho65 => ?_)
            · skip
              refine x_ifnonnullN (pc := 68) K d_J_member_68 ?_
              refine x_iload_n (pc := 71) K 4 d_J_member_71 rfl ?_
              refine x_iload (pc := 72) K 6 d_J_member_72 rfl ?_
              refine x_callS (pc := 74) K (As := [.int k, .int f]) (rest := []) (c_J_isMemberAllowed l w M k f) (zcwS K.ts lk_J_80 sm_J_isMemberAllowed ii_J co_J_isMemberAllowed pd_J_isMemberAllowed ⟨rfl, rfl⟩ ⟨by decide, by decide⟩) rfl rfl (Nat.le_of_ble_eq_true rfl) ⟨Nat.zero_le _, Nat.zero_le _⟩ d_J_member_74 ?_
              refine x_ifeqB (pc := 77) K (tgt := 98) d_J_member_77 (by decide) (fun c77 => ?_) (fun c77 => ?_)
              · skip
                refine x_iconst (pc := 98) K (v := (-1)) d_J_member_98 (by decide) ?_
                have hno : ¬ yMb M o b t k q f := fun q => c77 q.2.2.2.2.2.2.1
                exact x_iret (pc := 99) K (by rw [if_neg hno]) (by rw [if_neg hno]) d_J_member_99
              · skip
                refine x_aload (pc := 80) K 0 d_J_member_80 rfl ?_
                refine x_geti (pc := 82) K (n := (zb o (ix b)) + 2 + 11 * (ix t)) (k := 1) (zlt (shBt (hR.shb hbx.2) htx.2)) (shBt (hR.shb hbx.2) htx.2) rfl rfl (by decide) (fun _ q => zmem (uw_T _ q)) (zmem lk_J_83) d_J_member_82 ?_
                refine x_iconst (pc := 85) K (v := 1) d_J_member_85 (by decide) ?_
                refine x_icmp_ne (pc := 86) K (tgt := 100) d_J_member_86 (by decide) (fun c86 => ?_) (fun c86 => ?_)
                · skip
                  refine x_aload (pc := 100) K 0 d_J_member_100 rfl ?_
                  refine x_iload_n (pc := 102) K 4 d_J_member_102 rfl ?_
                  refine x_iload (pc := 103) K 5 d_J_member_103 rfl ?_
                  refine x_iload (pc := 105) K 6 d_J_member_105 rfl ?_
                  refine x_callVv (pc := 107) K (As := [.int k, .int q, .int f]) (rest := []) (c_T_addMember l w M ((zb o (ix b)) + 2 + 11 * (ix t)) (shBt (hR.shb hbx.2) htx.2) o hR ((hA _ hbx.2).1 (ix t) htx.2).1 k q f) (zcwV K.ts lk_J_89 im_T_addMember se_T_addMember ii_T co_T_addMember pd_T_addMember ⟨rfl, rfl⟩ ⟨by decide, by decide⟩) (zlt (shBt (hR.shb hbx.2) htx.2)) (shBt (hR.shb hbx.2) htx.2) rfl rfl rfl (Nat.le_of_ble_eq_true rfl) ⟨Nat.zero_le _, Nat.zero_le _⟩ d_J_member_107 ?_
                  refine x_aload_n (pc := 110) K 1 d_J_member_110 rfl ?_
                  refine x_getr (pc := 111) K (n := 0) (n' := 272) (k := 1) (zlt shJ) shJ rfl (show zRf o (tAdM _ _ _ _ _).2 from by rw [tAdM_2]; exact hR).Jc rfl (by decide) (fun _ q => zmem (uw_J _ q)) (zmem lk_J_19) d_J_member_111 ?_
                  refine x_iconst (pc := 114) K (v := 1) d_J_member_114 (by decide) ?_
                  refine x_puti (pc := 115) K (n := 272) (k := 4) (x := 1) uY_C tk_C nm_C (zlt shC) shC rfl rfl (by decide) (fun _ q => zmem (uw_C _ q)) (zmem lk_J_55) rfl rfl rfl d_J_member_115 ?_
                  refine x_aload (pc := 118) K 0 d_J_member_118 rfl ?_
                  refine x_geti (pc := 120) K (n := (zb o (ix b)) + 2 + 11 * (ix t)) (k := 7) (zlt (shBt (hR.shb hbx.2) htx.2)) (shBt (hR.shb hbx.2) htx.2) rfl rfl (by decide) (fun _ q => zmem (uw_T _ q)) (zmem lk_J_73) d_J_member_120 ?_
                  refine x_iconst (pc := 123) K (v := 1) d_J_member_123 (by decide) ?_
                  refine x_isub (pc := 124) K d_J_member_124 ?_
                  have hyes : yMb M o b t k q f := ⟨c5, c14, c24, c47, c57, ho65, c77, fun z => absurd z c86⟩
                  exact x_iret (pc := 125) K (by rw [if_pos hyes, xMb]) (by rw [if_pos hyes, xMb]) d_J_member_125
                · skip
                  refine x_iload_n (pc := 89) K 4 d_J_member_89 rfl ?_
                  refine x_iload (pc := 90) K 6 d_J_member_90 rfl ?_
                  refine x_callS (pc := 92) K (As := [.int k, .int f]) (rest := []) (c_J_isAllowedInInterface l w M k f) (zcwS K.ts lk_J_86 sm_J_isAllowedInInterface ii_J co_J_isAllowedInInterface pd_J_isAllowedInInterface ⟨rfl, rfl⟩ ⟨by decide, by decide⟩) rfl rfl (Nat.le_of_ble_eq_true rfl) ⟨Nat.zero_le _, Nat.zero_le _⟩ d_J_member_92 ?_
                  refine x_ifneB (pc := 95) K (tgt := 100) d_J_member_95 (by decide) (fun c95 => ?_) (fun c95 => ?_)
                  · skip
                    refine x_aload (pc := 100) K 0 d_J_member_100 rfl ?_
                    refine x_iload_n (pc := 102) K 4 d_J_member_102 rfl ?_
                    refine x_iload (pc := 103) K 5 d_J_member_103 rfl ?_
                    refine x_iload (pc := 105) K 6 d_J_member_105 rfl ?_
                    refine x_callVv (pc := 107) K (As := [.int k, .int q, .int f]) (rest := []) (c_T_addMember l w M ((zb o (ix b)) + 2 + 11 * (ix t)) (shBt (hR.shb hbx.2) htx.2) o hR ((hA _ hbx.2).1 (ix t) htx.2).1 k q f) (zcwV K.ts lk_J_89 im_T_addMember se_T_addMember ii_T co_T_addMember pd_T_addMember ⟨rfl, rfl⟩ ⟨by decide, by decide⟩) (zlt (shBt (hR.shb hbx.2) htx.2)) (shBt (hR.shb hbx.2) htx.2) rfl rfl rfl (Nat.le_of_ble_eq_true rfl) ⟨Nat.zero_le _, Nat.zero_le _⟩ d_J_member_107 ?_
                    refine x_aload_n (pc := 110) K 1 d_J_member_110 rfl ?_
                    refine x_getr (pc := 111) K (n := 0) (n' := 272) (k := 1) (zlt shJ) shJ rfl (show zRf o (tAdM _ _ _ _ _).2 from by rw [tAdM_2]; exact hR).Jc rfl (by decide) (fun _ q => zmem (uw_J _ q)) (zmem lk_J_19) d_J_member_111 ?_
                    refine x_iconst (pc := 114) K (v := 1) d_J_member_114 (by decide) ?_
                    refine x_puti (pc := 115) K (n := 272) (k := 4) (x := 1) uY_C tk_C nm_C (zlt shC) shC rfl rfl (by decide) (fun _ q => zmem (uw_C _ q)) (zmem lk_J_55) rfl rfl rfl d_J_member_115 ?_
                    refine x_aload (pc := 118) K 0 d_J_member_118 rfl ?_
                    refine x_geti (pc := 120) K (n := (zb o (ix b)) + 2 + 11 * (ix t)) (k := 7) (zlt (shBt (hR.shb hbx.2) htx.2)) (shBt (hR.shb hbx.2) htx.2) rfl rfl (by decide) (fun _ q => zmem (uw_T _ q)) (zmem lk_J_73) d_J_member_120 ?_
                    refine x_iconst (pc := 123) K (v := 1) d_J_member_123 (by decide) ?_
                    refine x_isub (pc := 124) K d_J_member_124 ?_
                    have hyes : yMb M o b t k q f := ⟨c5, c14, c24, c47, c57, ho65, c77, fun _ => c95⟩
                    exact x_iret (pc := 125) K (by rw [if_pos hyes, xMb]) (by rw [if_pos hyes, xMb]) d_J_member_125
                  · skip
                    refine x_iconst (pc := 98) K (v := (-1)) d_J_member_98 (by decide) ?_
                    have hno : ¬ yMb M o b t k q f := fun q => c95 (q.2.2.2.2.2.2.2 c86)
                    exact x_iret (pc := 99) K (by rw [if_neg hno]) (by rw [if_neg hno]) d_J_member_99
            · skip
              have hj65 : j65 < 8 := by have := (fnd_lt ho65).2.1; have := ((hA _ hbx.2).1 (ix t) htx.2).1.2.2; omega
              refine x_ifnonnull (pc := 68) K (tgt := 98) d_J_member_68 (by decide) ?_
              refine x_iconst (pc := 98) K (v := (-1)) d_J_member_98 (by decide) ?_
              have hno : ¬ yMb M o b t k q f := fun q => (by have z9 := q.2.2.2.2.2.1; rw [ho65] at z9; exact nomatch z9)
              exact x_iret (pc := 99) K (by rw [if_neg hno]) (by rw [if_neg hno]) d_J_member_99
      · skip
        refine x_iconst (pc := 27) K (v := (-1)) d_J_member_27 (by decide) ?_
        have hno : ¬ yMb M o b t k q f := fun q => c24 q.2.2.1
        exact x_iret (pc := 28) K (by rw [if_neg hno]) (by rw [if_neg hno]) d_J_member_28
