abbrev yRT (μ : Nat → Nat → Int32) (b t k f p : Int32) : Prop := ¬ badT b t ∧ ¬ (k < 0 ∨ (1 : Int32) < k) ∧ ¬ (f < 0 ∨ (7 : Int32) < f) ∧ ¬ (p + 1 < 0 ∨ (12 : Int32) < p + 1) ∧ μ 279 (12 * ix b + ix t) = 0 ∧ ¬ t ≤ p ∧ (k = 1 → ¬ (1 : Int32) < f ∧ ¬ 0 ≤ p) ∧ f < 6
def xRT (M : fl_M) (b t k f p : Int32) : fl_M := wI (wI (wI (wI (wI (wI M 279 (12 * ix b + ix t) 1) 280 (12 * ix b + ix t) k) 281 (12 * ix b + ix t) f) 282 (12 * ix b + ix t) p) 283 (12 * ix b + ix t) 0) 285 (12 * ix b + ix t) 0
set_option maxHeartbeats 4000000 in
set_option maxRecDepth 100000 in
theorem c_R_type (l : Launch) (w : fl_W) (M : fl_M) (o : Nat) (hR : zRf o M.2) (b t k f p : Int32) : CT l y_R_type w_R_type rm_R_type w zN [.ref (w.2.2 + 278), .int b, .int t, .int k, .int f, .int p] M (some (.int (if yRT M.1 b t k f p then 1 else -1))) (if yRT M.1 b t k f p then xRT M b t k f p else M) := by
  refine CT.of (cc := b_R_type) (own := "CompatibilityJudgeModel") (by decide) rfl rfl (Nat.le_of_ble_eq_true rfl) ?_
  intro p9 e9 s9 m9 ag9 bl9 mt9 c9 K
  show XW p9 l e9 (rm_R_type) s9 m9 ag9 bl9 mt9 c9 7 0 0 (MQ bl9 (CQ w zN (some (.int (if yRT M.1 b t k f p then 1 else -1))) (if yRT M.1 b t k f p then xRT M b t k f p else M)) ag9 s9 0 0 (fun q : Nat => w.2.2 ≤ q)) w zN M 0 [(0, .ref (w.2.2 + 278)), (1, .int b), (2, .int t), (3, .int k), (4, .int f), (5, .int p)] []
  refine x_iload_n (pc := 0) K 1 d_R_type_0 rfl ?_
  refine x_iload_n (pc := 1) K 2 d_R_type_1 rfl ?_
  refine x_callS (pc := 2) K (As := [.int b, .int t]) (rest := []) (c_R_bad l w M b t) (zcwS K.ts lk_R_63 sm_R_bad ii_R co_R_bad pd_R_bad ⟨rfl, rfl⟩ ⟨by decide, by decide⟩) rfl rfl (Nat.le_of_ble_eq_true rfl) ⟨Nat.zero_le _, Nat.zero_le _⟩ d_R_type_2 ?_
  refine x_ifneB (pc := 5) K (tgt := 52) d_R_type_5 (by decide) (fun c5 => ?_) (fun c5 => ?_)
  · skip
    refine x_iconst (pc := 52) K (v := (-1)) d_R_type_52 (by decide) ?_
    have hno : ¬ yRT M.1 b t k f p := fun q => q.1 c5
    exact x_iret (pc := 53) K (by rw [if_neg hno]) (by rw [if_neg hno]) d_R_type_53
  · skip
    have hok9 := badT_iff.mp c5
    obtain ⟨hbx, htx⟩ := okT_ix hok9
    have hb2 := hbx.2
    have ht12 := htx.2
    refine x_iload_n (pc := 8) K 3 d_R_type_8 rfl ?_
    refine x_iconst (pc := 9) K (v := 1) d_R_type_9 (by decide) ?_
    refine x_callS (pc := 10) K (As := [.int k, .int 1]) (rest := []) (c_R_out l w M k 1) (zcwS K.ts lk_R_59 sm_R_out ii_R co_R_out pd_R_out ⟨rfl, rfl⟩ ⟨by decide, by decide⟩) rfl rfl (Nat.le_of_ble_eq_true rfl) ⟨Nat.zero_le _, Nat.zero_le _⟩ d_R_type_10 ?_
    refine x_ifneB (pc := 13) K (tgt := 52) d_R_type_13 (by decide) (fun c13 => ?_) (fun c13 => ?_)
    · skip
      refine x_iconst (pc := 52) K (v := (-1)) d_R_type_52 (by decide) ?_
      have hno : ¬ yRT M.1 b t k f p := fun q => q.2.1 c13
      exact x_iret (pc := 53) K (by rw [if_neg hno]) (by rw [if_neg hno]) d_R_type_53
    · skip
      refine x_iload (pc := 16) K 4 d_R_type_16 rfl ?_
      refine x_bipush (pc := 18) K (v := 7) d_R_type_18 (by decide) ?_
      refine x_callS (pc := 20) K (As := [.int f, .int 7]) (rest := []) (c_R_out l w M f 7) (zcwS K.ts lk_R_59 sm_R_out ii_R co_R_out pd_R_out ⟨rfl, rfl⟩ ⟨by decide, by decide⟩) rfl rfl (Nat.le_of_ble_eq_true rfl) ⟨Nat.zero_le _, Nat.zero_le _⟩ d_R_type_20 ?_
      refine x_ifneB (pc := 23) K (tgt := 52) d_R_type_23 (by decide) (fun c23 => ?_) (fun c23 => ?_)
      · skip
        refine x_iconst (pc := 52) K (v := (-1)) d_R_type_52 (by decide) ?_
        have hno : ¬ yRT M.1 b t k f p := fun q => q.2.2.1 c23
        exact x_iret (pc := 53) K (by rw [if_neg hno]) (by rw [if_neg hno]) d_R_type_53
      · skip
        refine x_iload (pc := 26) K 5 d_R_type_26 rfl ?_
        refine x_iconst (pc := 28) K (v := 1) d_R_type_28 (by decide) ?_
        refine x_iadd (pc := 29) K d_R_type_29 ?_
        refine x_eqi (y := p + 1) (rfl) ?_
        refine x_bipush (pc := 30) K (v := 12) d_R_type_30 (by decide) ?_
        refine x_callS (pc := 32) K (As := [.int (p + 1), .int 12]) (rest := []) (c_R_out l w M (p + 1) 12) (zcwS K.ts lk_R_59 sm_R_out ii_R co_R_out pd_R_out ⟨rfl, rfl⟩ ⟨by decide, by decide⟩) rfl rfl (Nat.le_of_ble_eq_true rfl) ⟨Nat.zero_le _, Nat.zero_le _⟩ d_R_type_32 ?_
        refine x_ifneB (pc := 35) K (tgt := 52) d_R_type_35 (by decide) (fun c35 => ?_) (fun c35 => ?_)
        · skip
          refine x_iconst (pc := 52) K (v := (-1)) d_R_type_52 (by decide) ?_
          have hno : ¬ yRT M.1 b t k f p := fun q => q.2.2.2.1 c35
          exact x_iret (pc := 53) K (by rw [if_neg hno]) (by rw [if_neg hno]) d_R_type_53
        · skip
          refine x_aload_n (pc := 38) K 0 d_R_type_38 rfl ?_
          refine x_getr (pc := 39) K (n := 278) (n' := 279) (k := 0) (zlt shR) shR rfl hR.r279 rfl (by decide) (fun _ q => zmem (uw_R _ q)) (zmem lk_R_7) d_R_type_39 ?_
          refine x_bipush (pc := 42) K (v := nI 12) d_R_type_42 (by decide) ?_
          refine x_iload_n (pc := 44) K 1 d_R_type_44 rfl ?_
          refine x_eqi (y := nI (ix b)) (hbx.1) ?_
          refine x_imul (pc := 45) K d_R_type_45 ?_
          refine x_eqi (y := nI (12 * (ix b))) (pk_mul _ _) ?_
          refine x_iload_n (pc := 46) K 2 d_R_type_46 rfl ?_
          refine x_eqi (y := nI (ix t)) (htx.1) ?_
          refine x_iadd (pc := 47) K d_R_type_47 ?_
          refine x_eqi (y := nI ((12 * (ix b)) + (ix t))) (nI_add _ _) ?_
          refine x_zald (pc := 48) K (n := 279) (j := (12 * (ix b)) + (ix t)) rfl (by omega) (zlt sh279) sh279 rfl (by decide) d_R_type_48 ?_
          refine x_if_eq (pc := 49) K (tgt := 54) d_R_type_49 (by decide) (fun c49 => ?_) (fun c49 => ?_)
          · skip
            refine x_iload (pc := 54) K 5 d_R_type_54 rfl ?_
            refine x_iload_n (pc := 56) K 2 d_R_type_56 rfl ?_
            refine x_icmp_ge (pc := 57) K (tgt := 83) d_R_type_57 (by decide) (fun c57 => ?_) (fun c57 => ?_)
            · skip
              refine x_iconst (pc := 83) K (v := (-1)) d_R_type_83 (by decide) ?_
              have hno : ¬ yRT M.1 b t k f p := fun q => q.2.2.2.2.2.1 c57
              exact x_iret (pc := 84) K (by rw [if_neg hno]) (by rw [if_neg hno]) d_R_type_84
            · skip
              refine x_iload_n (pc := 60) K 3 d_R_type_60 rfl ?_
              refine x_iconst (pc := 61) K (v := 1) d_R_type_61 (by decide) ?_
              refine x_icmp_ne (pc := 62) K (tgt := 76) d_R_type_62 (by decide) (fun c62 => ?_) (fun c62 => ?_)
              · skip
                refine x_iload (pc := 76) K 4 d_R_type_76 rfl ?_
                refine x_bipush (pc := 78) K (v := 6) d_R_type_78 (by decide) ?_
                refine x_icmp_lt (pc := 80) K (tgt := 85) d_R_type_80 (by decide) (fun c80 => ?_) (fun c80 => ?_)
                · skip
                  refine x_bipush (pc := 85) K (v := nI 12) d_R_type_85 (by decide) ?_
                  refine x_iload_n (pc := 87) K 1 d_R_type_87 rfl ?_
                  refine x_eqi (y := nI (ix b)) (hbx.1) ?_
                  refine x_imul (pc := 88) K d_R_type_88 ?_
                  refine x_eqi (y := nI (12 * (ix b))) (pk_mul _ _) ?_
                  refine x_iload_n (pc := 89) K 2 d_R_type_89 rfl ?_
                  refine x_eqi (y := nI (ix t)) (htx.1) ?_
                  refine x_iadd (pc := 90) K d_R_type_90 ?_
                  refine x_eqi (y := nI ((12 * (ix b)) + (ix t))) (nI_add _ _) ?_
                  refine x_istore (pc := 91) K (lv' := [(6, .int (nI ((12 * (ix b)) + (ix t)))), (0, .ref (w.2.2 + 278)), (1, .int b), (2, .int t), (3, .int k), (4, .int f), (5, .int p)]) d_R_type_91 (by decide) rfl ?_
                  refine x_aload_n (pc := 93) K 1 d_R_type_93 rfl ?_
                  refine x_getr (pc := 94) K (n := 278) (n' := 279) (k := 0) (zlt shR) shR rfl hR.r279 rfl (by decide) (fun _ q => zmem (uw_R _ q)) (zmem lk_R_7) d_R_type_94 ?_
                  refine x_iload (pc := 97) K 0 d_R_type_97 rfl ?_
                  refine x_iconst (pc := 99) K (v := 1) d_R_type_99 (by decide) ?_
                  refine x_zast (pc := 100) K (n := 279) (j := (12 * (ix b)) + (ix t)) (x := 1) (Or.inr rfl) rfl (by omega) (zlt sh279) sh279 rfl (by decide) d_R_type_100 ?_
                  refine x_aload_n (pc := 101) K 1 d_R_type_101 rfl ?_
                  refine x_getr (pc := 102) K (n := 278) (n' := 280) (k := 1) (zlt shR) shR rfl hR.r280 rfl (by decide) (fun _ q => zmem (uw_R _ q)) (zmem lk_R_13) d_R_type_102 ?_
                  refine x_iload (pc := 105) K 0 d_R_type_105 rfl ?_
                  refine x_iload_n (pc := 107) K 4 d_R_type_107 rfl ?_
                  refine x_iast (pc := 108) K (n := 280) (j := (12 * (ix b)) + (ix t)) (x := k) rfl (by omega) (zlt sh280) sh280 rfl (by decide) d_R_type_108 ?_
                  refine x_aload_n (pc := 109) K 1 d_R_type_109 rfl ?_
                  refine x_getr (pc := 110) K (n := 278) (n' := 281) (k := 2) (zlt shR) shR rfl hR.r281 rfl (by decide) (fun _ q => zmem (uw_R _ q)) (zmem lk_R_17) d_R_type_110 ?_
                  refine x_iload (pc := 113) K 0 d_R_type_113 rfl ?_
                  refine x_iload (pc := 115) K 5 d_R_type_115 rfl ?_
                  refine x_iast (pc := 117) K (n := 281) (j := (12 * (ix b)) + (ix t)) (x := f) rfl (by omega) (zlt sh281) sh281 rfl (by decide) d_R_type_117 ?_
                  refine x_aload_n (pc := 118) K 1 d_R_type_118 rfl ?_
                  refine x_getr (pc := 119) K (n := 278) (n' := 282) (k := 3) (zlt shR) shR rfl hR.r282 rfl (by decide) (fun _ q => zmem (uw_R _ q)) (zmem lk_R_20) d_R_type_119 ?_
                  refine x_iload (pc := 122) K 0 d_R_type_122 rfl ?_
                  refine x_iload (pc := 124) K 6 d_R_type_124 rfl ?_
                  refine x_iast (pc := 126) K (n := 282) (j := (12 * (ix b)) + (ix t)) (x := p) rfl (by omega) (zlt sh282) sh282 rfl (by decide) d_R_type_126 ?_
                  refine x_aload_n (pc := 127) K 1 d_R_type_127 rfl ?_
                  refine x_getr (pc := 128) K (n := 278) (n' := 283) (k := 4) (zlt shR) shR rfl hR.r283 rfl (by decide) (fun _ q => zmem (uw_R _ q)) (zmem lk_R_23) d_R_type_128 ?_
                  refine x_iload (pc := 131) K 0 d_R_type_131 rfl ?_
                  refine x_iconst (pc := 133) K (v := 0) d_R_type_133 (by decide) ?_
                  refine x_iast (pc := 134) K (n := 283) (j := (12 * (ix b)) + (ix t)) (x := 0) rfl (by omega) (zlt sh283) sh283 rfl (by decide) d_R_type_134 ?_
                  refine x_aload_n (pc := 135) K 1 d_R_type_135 rfl ?_
                  refine x_getr (pc := 136) K (n := 278) (n' := 285) (k := 6) (zlt shR) shR rfl hR.r285 rfl (by decide) (fun _ q => zmem (uw_R _ q)) (zmem lk_R_29) d_R_type_136 ?_
                  refine x_iload (pc := 139) K 0 d_R_type_139 rfl ?_
                  refine x_iconst (pc := 141) K (v := 0) d_R_type_141 (by decide) ?_
                  refine x_iast (pc := 142) K (n := 285) (j := (12 * (ix b)) + (ix t)) (x := 0) rfl (by omega) (zlt sh285) sh285 rfl (by decide) d_R_type_142 ?_
                  refine x_iconst (pc := 143) K (v := 1) d_R_type_143 (by decide) ?_
                  have hyes : yRT M.1 b t k f p := ⟨c5, c13, c23, c35, c49, c57, fun z => absurd z c62, c80⟩
                  exact x_iret (pc := 144) K (by rw [if_pos hyes]) (by rw [if_pos hyes, xRT]) d_R_type_144
                · skip
                  refine x_iconst (pc := 83) K (v := (-1)) d_R_type_83 (by decide) ?_
                  have hno : ¬ yRT M.1 b t k f p := fun q => c80 q.2.2.2.2.2.2.2
                  exact x_iret (pc := 84) K (by rw [if_neg hno]) (by rw [if_neg hno]) d_R_type_84
              · skip
                refine x_iload (pc := 65) K 4 d_R_type_65 rfl ?_
                refine x_iconst (pc := 67) K (v := 1) d_R_type_67 (by decide) ?_
                refine x_icmp_gt (pc := 68) K (tgt := 83) d_R_type_68 (by decide) (fun c68 => ?_) (fun c68 => ?_)
                · skip
                  refine x_iconst (pc := 83) K (v := (-1)) d_R_type_83 (by decide) ?_
                  have hno : ¬ yRT M.1 b t k f p := fun q => (q.2.2.2.2.2.2.1 c62).1 c68
                  exact x_iret (pc := 84) K (by rw [if_neg hno]) (by rw [if_neg hno]) d_R_type_84
                · skip
                  refine x_iload (pc := 71) K 5 d_R_type_71 rfl ?_
                  refine x_if_ge (pc := 73) K (tgt := 83) d_R_type_73 (by decide) (fun c73 => ?_) (fun c73 => ?_)
                  · skip
                    refine x_iconst (pc := 83) K (v := (-1)) d_R_type_83 (by decide) ?_
                    have hno : ¬ yRT M.1 b t k f p := fun q => (q.2.2.2.2.2.2.1 c62).2 c73
                    exact x_iret (pc := 84) K (by rw [if_neg hno]) (by rw [if_neg hno]) d_R_type_84
                  · skip
                    refine x_iload (pc := 76) K 4 d_R_type_76 rfl ?_
                    refine x_bipush (pc := 78) K (v := 6) d_R_type_78 (by decide) ?_
                    refine x_icmp_lt (pc := 80) K (tgt := 85) d_R_type_80 (by decide) (fun c80 => ?_) (fun c80 => ?_)
                    · skip
                      refine x_bipush (pc := 85) K (v := nI 12) d_R_type_85 (by decide) ?_
                      refine x_iload_n (pc := 87) K 1 d_R_type_87 rfl ?_
                      refine x_eqi (y := nI (ix b)) (hbx.1) ?_
                      refine x_imul (pc := 88) K d_R_type_88 ?_
                      refine x_eqi (y := nI (12 * (ix b))) (pk_mul _ _) ?_
                      refine x_iload_n (pc := 89) K 2 d_R_type_89 rfl ?_
                      refine x_eqi (y := nI (ix t)) (htx.1) ?_
                      refine x_iadd (pc := 90) K d_R_type_90 ?_
                      refine x_eqi (y := nI ((12 * (ix b)) + (ix t))) (nI_add _ _) ?_
                      refine x_istore (pc := 91) K (lv' := [(6, .int (nI ((12 * (ix b)) + (ix t)))), (0, .ref (w.2.2 + 278)), (1, .int b), (2, .int t), (3, .int k), (4, .int f), (5, .int p)]) d_R_type_91 (by decide) rfl ?_
                      refine x_aload_n (pc := 93) K 1 d_R_type_93 rfl ?_
                      refine x_getr (pc := 94) K (n := 278) (n' := 279) (k := 0) (zlt shR) shR rfl hR.r279 rfl (by decide) (fun _ q => zmem (uw_R _ q)) (zmem lk_R_7) d_R_type_94 ?_
                      refine x_iload (pc := 97) K 0 d_R_type_97 rfl ?_
                      refine x_iconst (pc := 99) K (v := 1) d_R_type_99 (by decide) ?_
                      refine x_zast (pc := 100) K (n := 279) (j := (12 * (ix b)) + (ix t)) (x := 1) (Or.inr rfl) rfl (by omega) (zlt sh279) sh279 rfl (by decide) d_R_type_100 ?_
                      refine x_aload_n (pc := 101) K 1 d_R_type_101 rfl ?_
                      refine x_getr (pc := 102) K (n := 278) (n' := 280) (k := 1) (zlt shR) shR rfl hR.r280 rfl (by decide) (fun _ q => zmem (uw_R _ q)) (zmem lk_R_13) d_R_type_102 ?_
                      refine x_iload (pc := 105) K 0 d_R_type_105 rfl ?_
                      refine x_iload_n (pc := 107) K 4 d_R_type_107 rfl ?_
                      refine x_iast (pc := 108) K (n := 280) (j := (12 * (ix b)) + (ix t)) (x := k) rfl (by omega) (zlt sh280) sh280 rfl (by decide) d_R_type_108 ?_
                      refine x_aload_n (pc := 109) K 1 d_R_type_109 rfl ?_
                      refine x_getr (pc := 110) K (n := 278) (n' := 281) (k := 2) (zlt shR) shR rfl hR.r281 rfl (by decide) (fun _ q => zmem (uw_R _ q)) (zmem lk_R_17) d_R_type_110 ?_
                      refine x_iload (pc := 113) K 0 d_R_type_113 rfl ?_
                      refine x_iload (pc := 115) K 5 d_R_type_115 rfl ?_
                      refine x_iast (pc := 117) K (n := 281) (j := (12 * (ix b)) + (ix t)) (x := f) rfl (by omega) (zlt sh281) sh281 rfl (by decide) d_R_type_117 ?_
                      refine x_aload_n (pc := 118) K 1 d_R_type_118 rfl ?_
                      refine x_getr (pc := 119) K (n := 278) (n' := 282) (k := 3) (zlt shR) shR rfl hR.r282 rfl (by decide) (fun _ q => zmem (uw_R _ q)) (zmem lk_R_20) d_R_type_119 ?_
                      refine x_iload (pc := 122) K 0 d_R_type_122 rfl ?_
                      refine x_iload (pc := 124) K 6 d_R_type_124 rfl ?_
                      refine x_iast (pc := 126) K (n := 282) (j := (12 * (ix b)) + (ix t)) (x := p) rfl (by omega) (zlt sh282) sh282 rfl (by decide) d_R_type_126 ?_
                      refine x_aload_n (pc := 127) K 1 d_R_type_127 rfl ?_
                      refine x_getr (pc := 128) K (n := 278) (n' := 283) (k := 4) (zlt shR) shR rfl hR.r283 rfl (by decide) (fun _ q => zmem (uw_R _ q)) (zmem lk_R_23) d_R_type_128 ?_
                      refine x_iload (pc := 131) K 0 d_R_type_131 rfl ?_
                      refine x_iconst (pc := 133) K (v := 0) d_R_type_133 (by decide) ?_
                      refine x_iast (pc := 134) K (n := 283) (j := (12 * (ix b)) + (ix t)) (x := 0) rfl (by omega) (zlt sh283) sh283 rfl (by decide) d_R_type_134 ?_
                      refine x_aload_n (pc := 135) K 1 d_R_type_135 rfl ?_
                      refine x_getr (pc := 136) K (n := 278) (n' := 285) (k := 6) (zlt shR) shR rfl hR.r285 rfl (by decide) (fun _ q => zmem (uw_R _ q)) (zmem lk_R_29) d_R_type_136 ?_
                      refine x_iload (pc := 139) K 0 d_R_type_139 rfl ?_
                      refine x_iconst (pc := 141) K (v := 0) d_R_type_141 (by decide) ?_
                      refine x_iast (pc := 142) K (n := 285) (j := (12 * (ix b)) + (ix t)) (x := 0) rfl (by omega) (zlt sh285) sh285 rfl (by decide) d_R_type_142 ?_
                      refine x_iconst (pc := 143) K (v := 1) d_R_type_143 (by decide) ?_
                      have hyes : yRT M.1 b t k f p := ⟨c5, c13, c23, c35, c49, c57, fun _ => ⟨c68, c73⟩, c80⟩
                      exact x_iret (pc := 144) K (by rw [if_pos hyes]) (by rw [if_pos hyes, xRT]) d_R_type_144
                    · skip
                      refine x_iconst (pc := 83) K (v := (-1)) d_R_type_83 (by decide) ?_
                      have hno : ¬ yRT M.1 b t k f p := fun q => c80 q.2.2.2.2.2.2.2
                      exact x_iret (pc := 84) K (by rw [if_neg hno]) (by rw [if_neg hno]) d_R_type_84
          · skip
            refine x_iconst (pc := 52) K (v := (-1)) d_R_type_52 (by decide) ?_
            have hno : ¬ yRT M.1 b t k f p := fun q => c49 q.2.2.2.2.1
            exact x_iret (pc := 53) K (by rw [if_neg hno]) (by rw [if_neg hno]) d_R_type_53
abbrev fcF (μ : Nat → Nat → Int32) (r : Nat) (a : Int32) : Option Nat := fnd (fun i => μ 284 (3 * r + i) = a) 0 (qF μ r)
abbrev yRI (μ : Nat → Nat → Int32) (b t a : Int32) : Prop := ¬ badT b t ∧ ¬ (a < 0 ∨ (11 : Int32) < a) ∧ a < t ∧ ¬ μ 279 (12 * ix b + ix t) = 0 ∧ ¬ μ 283 (12 * ix b + ix t) = nI 3 ∧ fcF μ (12 * ix b + ix t) a = none
def xRI (M : fl_M) (b t a : Int32) : fl_M := wI (wI M 284 (3 * (12 * ix b + ix t) + qF M.1 (12 * ix b + ix t)) a) 283 (12 * ix b + ix t) (nI (qF M.1 (12 * ix b + ix t) + 1))
def vRI (M : fl_M) (b t a : Int32) (r : Nat) (F : Option Nat) : Int32 := if F = none then nI (qF M.1 r + 1) else -1
def zRI (M : fl_M) (r : Nat) (a : Int32) (F : Option Nat) : fl_M := if F = none then wI (wI M 284 (3 * r + qF M.1 r) a) 283 r (nI (qF M.1 r + 1)) else M
set_option maxHeartbeats 4000000 in
set_option maxRecDepth 100000 in
theorem lp_R_implement (l : Launch) (w : fl_W) (M : fl_M) (o : Nat) (hR : zRf o M.2) (b t a : Int32) (r : Nat) (hr : r < 24) (hc : rC M.1 r) (h3 : qF M.1 r < 3) (F : Option Nat) {p9 : Program} {e9 : Env} {s9 : State} {m9 : MethodId} {ag9 : Array Value} {bl9 : List Frame} {mt9 : Method} {c9 : Code} (K : XC p9 s9 m9 ag9 mt9 c9 b_R_implement 6 (some .int) w_R_implement "CompatibilityJudgeModel" w) : ∀ (k : Nat) (i : Nat), i ≤ qF M.1 r → qF M.1 r + 1 ≤ i + k → fnd (fun i => M.1 284 (3 * r + i) = a) i (qF M.1 r - i) = F → XW p9 l e9 (rm_R_implement) s9 m9 ag9 bl9 mt9 c9 6 0 0 (MQ bl9 (CQ w zN (some (.int (vRI M b t a r F))) (zRI M r a F)) ag9 s9 0 0 (fun q : Nat => w.2.2 ≤ q)) w zN M 58 [(5, .int (nI i)), (4, .int (nI r)), (0, .ref (w.2.2 + 278)), (1, .int b), (2, .int t), (3, .int a)] [] := by
  intro k
  induction k with
  | zero =>
    intro i hi hk
    exact absurd hk (by omega)
  | succ k ih =>
    intro i hi hk hf
    refine x_iload (pc := 58) K 0 d_R_implement_58 rfl ?_
    refine x_aload_n (pc := 60) K 2 d_R_implement_60 rfl ?_
    refine x_getr (pc := 61) K (n := 278) (n' := 283) (k := 4) (zlt shR) shR rfl hR.r283 rfl (by decide) (fun _ q => zmem (uw_R _ q)) (zmem lk_R_23) d_R_implement_61 ?_
    refine x_iload (pc := 64) K 1 d_R_implement_64 rfl ?_
    refine x_iald (pc := 66) K (n := 283) (j := r) rfl (by omega) (zlt sh283) sh283 rfl (by decide) d_R_implement_66 ?_
    refine x_eqi (y := nI (qF M.1 r)) (hc.1.1) ?_
    refine x_icmp_ge (pc := 67) K (tgt := 94) d_R_implement_67 (by decide) (fun c67 => ?_) (fun c67 => ?_)
    · skip
      have hic : i = qF M.1 r := by have := (nI_leI (by omega) (by omega)).mp c67; omega
      rw [hic, Nat.sub_self] at hf
      refine x_aload_n (pc := 94) K 2 d_R_implement_94 rfl ?_
      refine x_getr (pc := 95) K (n := 278) (n' := 284) (k := 5) (zlt shR) shR rfl hR.r284 rfl (by decide) (fun _ q => zmem (uw_R _ q)) (zmem lk_R_26) d_R_implement_95 ?_
      refine x_iconst (pc := 98) K (v := nI 3) d_R_implement_98 (by decide) ?_
      refine x_iload (pc := 99) K 1 d_R_implement_99 rfl ?_
      refine x_imul (pc := 101) K d_R_implement_101 ?_
      refine x_eqi (y := nI (3 * r)) (pk_mul _ _) ?_
      refine x_aload_n (pc := 102) K 2 d_R_implement_102 rfl ?_
      refine x_getr (pc := 103) K (n := 278) (n' := 283) (k := 4) (zlt shR) shR rfl hR.r283 rfl (by decide) (fun _ q => zmem (uw_R _ q)) (zmem lk_R_23) d_R_implement_103 ?_
      refine x_iload (pc := 106) K 1 d_R_implement_106 rfl ?_
      refine x_iald (pc := 108) K (n := 283) (j := r) rfl (by omega) (zlt sh283) sh283 rfl (by decide) d_R_implement_108 ?_
      refine x_eqi (y := nI (qF M.1 r)) (hc.1.1) ?_
      refine x_iadd (pc := 109) K d_R_implement_109 ?_
      refine x_eqi (y := nI ((3 * r) + (qF M.1 r))) (nI_add _ _) ?_
      refine x_iload_n (pc := 110) K 5 d_R_implement_110 rfl ?_
      refine x_iast (pc := 111) K (n := 284) (j := (3 * r) + (qF M.1 r)) (x := a) rfl (by omega) (zlt sh284) sh284 rfl (by decide) d_R_implement_111 ?_
      refine x_aload_n (pc := 112) K 2 d_R_implement_112 rfl ?_
      refine x_getr (pc := 113) K (n := 278) (n' := 283) (k := 4) (zlt shR) shR rfl hR.r283 rfl (by decide) (fun _ q => zmem (uw_R _ q)) (zmem lk_R_23) d_R_implement_113 ?_
      refine x_iload (pc := 116) K 1 d_R_implement_116 rfl ?_
      refine x_dup2 (pc := 118) K d_R_implement_118 rfl rfl ?_
      refine x_iald (pc := 119) K (n := 283) (j := r) rfl (by omega) (zlt sh283) sh283 rfl (by decide) d_R_implement_119 ?_
      refine x_eqi (y := nI (qF M.1 r)) ((rdI_ne (Or.inl (by decide))).trans hc.1.1) ?_
      refine x_iconst (pc := 120) K (v := 1) d_R_implement_120 (by decide) ?_
      refine x_iadd (pc := 121) K d_R_implement_121 ?_
      refine x_eqi (y := nI (qF M.1 r + 1)) (nI_1 _) ?_
      refine x_iast (pc := 122) K (n := 283) (j := r) (x := nI (qF M.1 r + 1)) rfl (by omega) (zlt sh283) sh283 rfl (by decide) d_R_implement_122 ?_
      refine x_aload_n (pc := 123) K 2 d_R_implement_123 rfl ?_
      refine x_getr (pc := 124) K (n := 278) (n' := 283) (k := 4) (zlt shR) shR rfl hR.r283 rfl (by decide) (fun _ q => zmem (uw_R _ q)) (zmem lk_R_23) d_R_implement_124 ?_
      refine x_iload (pc := 127) K 1 d_R_implement_127 rfl ?_
      refine x_iald (pc := 129) K (n := 283) (j := r) rfl (by omega) (zlt sh283) sh283 rfl (by decide) d_R_implement_129 ?_
      refine x_eqi (y := nI (qF M.1 r + 1)) (rdI_eq) ?_
      have hFn : F = none := hf.symm
      exact x_iret (pc := 130) K (by unfold vRI; rw [if_pos hFn]) (by unfold zRI; rw [if_pos hFn]) d_R_implement_130
    · skip
      have hic : i < qF M.1 r := Nat.not_le.mp (fun q => c67 (nI_le q (by omega)))
      rw [show qF M.1 r - i = (qF M.1 r - (i + 1)) + 1 by omega, fnd] at hf
      refine x_aload_n (pc := 70) K 2 d_R_implement_70 rfl ?_
      refine x_getr (pc := 71) K (n := 278) (n' := 284) (k := 5) (zlt shR) shR rfl hR.r284 rfl (by decide) (fun _ q => zmem (uw_R _ q)) (zmem lk_R_26) d_R_implement_71 ?_
      refine x_iconst (pc := 74) K (v := nI 3) d_R_implement_74 (by decide) ?_
      refine x_iload (pc := 75) K 1 d_R_implement_75 rfl ?_
      refine x_imul (pc := 77) K d_R_implement_77 ?_
      refine x_eqi (y := nI (3 * r)) (pk_mul _ _) ?_
      refine x_iload (pc := 78) K 0 d_R_implement_78 rfl ?_
      refine x_iadd (pc := 80) K d_R_implement_80 ?_
      refine x_eqi (y := nI ((3 * r) + i)) (nI_add _ _) ?_
      refine x_iald (pc := 81) K (n := 284) (j := (3 * r) + i) rfl (by omega) (zlt sh284) sh284 rfl (by decide) d_R_implement_81 ?_
      refine x_iload_n (pc := 82) K 5 d_R_implement_82 rfl ?_
      refine x_icmp_ne (pc := 83) K (tgt := 88) d_R_implement_83 (by decide) (fun c83 => ?_) (fun c83 => ?_)
      · skip
        rw [if_neg c83] at hf
        refine x_iinc (pc := 88) K (v := nI (i + 1)) (lv' := [(5, .int (nI (i + 1))), (4, .int (nI r)), (0, .ref (w.2.2 + 278)), (1, .int b), (2, .int t), (3, .int a)]) 0 d_R_implement_88 rfl (nI_1 _) (by decide) rfl ?_
        refine x_goto (pc := 91) K (tgt := 58) d_R_implement_91 (by decide) ?_
        exact ih (i + 1) (by omega) (by omega) hf
      · skip
        rw [if_pos c83] at hf
        refine x_iconst (pc := 86) K (v := (-1)) d_R_implement_86 (by decide) ?_
        have hFn : ¬ F = none := by rw [← hf]; exact fun q => nomatch q
        exact x_iret (pc := 87) K (by unfold vRI; rw [if_neg hFn]) (by unfold zRI; rw [if_neg hFn]) d_R_implement_87
set_option maxHeartbeats 4000000 in
set_option maxRecDepth 100000 in
theorem c_R_implement (l : Launch) (w : fl_W) (M : fl_M) (o : Nat) (hR : zRf o M.2) (hc : ∀ r, r < 24 → rC M.1 r) (b t a : Int32) : CT l y_R_implement w_R_implement rm_R_implement w zN [.ref (w.2.2 + 278), .int b, .int t, .int a] M (some (.int (if yRI M.1 b t a then nI (qF M.1 (12 * ix b + ix t) + 1) else -1))) (if yRI M.1 b t a then xRI M b t a else M) := by
  refine CT.of (cc := b_R_implement) (own := "CompatibilityJudgeModel") (by decide) rfl rfl (Nat.le_of_ble_eq_true rfl) ?_
  intro p9 e9 s9 m9 ag9 bl9 mt9 c9 K
  show XW p9 l e9 (rm_R_implement) s9 m9 ag9 bl9 mt9 c9 6 0 0 (MQ bl9 (CQ w zN (some (.int (if yRI M.1 b t a then nI (qF M.1 (12 * ix b + ix t) + 1) else -1))) (if yRI M.1 b t a then xRI M b t a else M)) ag9 s9 0 0 (fun q : Nat => w.2.2 ≤ q)) w zN M 0 [(0, .ref (w.2.2 + 278)), (1, .int b), (2, .int t), (3, .int a)] []
  refine x_iload_n (pc := 0) K 1 d_R_implement_0 rfl ?_
  refine x_iload_n (pc := 1) K 2 d_R_implement_1 rfl ?_
  refine x_callS (pc := 2) K (As := [.int b, .int t]) (rest := []) (c_R_bad l w M b t) (zcwS K.ts lk_R_63 sm_R_bad ii_R co_R_bad pd_R_bad ⟨rfl, rfl⟩ ⟨by decide, by decide⟩) rfl rfl (Nat.le_of_ble_eq_true rfl) ⟨Nat.zero_le _, Nat.zero_le _⟩ d_R_implement_2 ?_
  refine x_ifneB (pc := 5) K (tgt := 22) d_R_implement_5 (by decide) (fun c5 => ?_) (fun c5 => ?_)
  · skip
    refine x_iconst (pc := 22) K (v := (-1)) d_R_implement_22 (by decide) ?_
    have hno : ¬ yRI M.1 b t a := fun q => q.1 c5
    exact x_iret (pc := 23) K (by rw [if_neg hno]) (by rw [if_neg hno]) d_R_implement_23
  · skip
    have hok9 := badT_iff.mp c5
    obtain ⟨hbx, htx⟩ := okT_ix hok9
    have hb2 := hbx.2
    have ht12 := htx.2
    refine x_iload_n (pc := 8) K 3 d_R_implement_8 rfl ?_
    refine x_bipush (pc := 9) K (v := 11) d_R_implement_9 (by decide) ?_
    refine x_callS (pc := 11) K (As := [.int a, .int 11]) (rest := []) (c_R_out l w M a 11) (zcwS K.ts lk_R_59 sm_R_out ii_R co_R_out pd_R_out ⟨rfl, rfl⟩ ⟨by decide, by decide⟩) rfl rfl (Nat.le_of_ble_eq_true rfl) ⟨Nat.zero_le _, Nat.zero_le _⟩ d_R_implement_11 ?_
    refine x_ifneB (pc := 14) K (tgt := 22) d_R_implement_14 (by decide) (fun c14 => ?_) (fun c14 => ?_)
    · skip
      refine x_iconst (pc := 22) K (v := (-1)) d_R_implement_22 (by decide) ?_
      have hno : ¬ yRI M.1 b t a := fun q => q.2.1 c14
      exact x_iret (pc := 23) K (by rw [if_neg hno]) (by rw [if_neg hno]) d_R_implement_23
    · skip
      refine x_iload_n (pc := 17) K 3 d_R_implement_17 rfl ?_
      refine x_iload_n (pc := 18) K 2 d_R_implement_18 rfl ?_
      refine x_icmp_lt (pc := 19) K (tgt := 24) d_R_implement_19 (by decide) (fun c19 => ?_) (fun c19 => ?_)
      · skip
        refine x_bipush (pc := 24) K (v := nI 12) d_R_implement_24 (by decide) ?_
        refine x_iload_n (pc := 26) K 1 d_R_implement_26 rfl ?_
        refine x_eqi (y := nI (ix b)) (hbx.1) ?_
        refine x_imul (pc := 27) K d_R_implement_27 ?_
        refine x_eqi (y := nI (12 * (ix b))) (pk_mul _ _) ?_
        refine x_iload_n (pc := 28) K 2 d_R_implement_28 rfl ?_
        refine x_eqi (y := nI (ix t)) (htx.1) ?_
        refine x_iadd (pc := 29) K d_R_implement_29 ?_
        refine x_eqi (y := nI ((12 * (ix b)) + (ix t))) (nI_add _ _) ?_
        refine x_istore (pc := 30) K (lv' := [(4, .int (nI ((12 * (ix b)) + (ix t)))), (0, .ref (w.2.2 + 278)), (1, .int b), (2, .int t), (3, .int a)]) d_R_implement_30 (by decide) rfl ?_
        refine x_aload_n (pc := 32) K 1 d_R_implement_32 rfl ?_
        refine x_getr (pc := 33) K (n := 278) (n' := 279) (k := 0) (zlt shR) shR rfl hR.r279 rfl (by decide) (fun _ q => zmem (uw_R _ q)) (zmem lk_R_7) d_R_implement_33 ?_
        refine x_iload (pc := 36) K 0 d_R_implement_36 rfl ?_
        refine x_zald (pc := 38) K (n := 279) (j := (12 * (ix b)) + (ix t)) rfl (by omega) (zlt sh279) sh279 rfl (by decide) d_R_implement_38 ?_
        refine x_if_eq (pc := 39) K (tgt := 53) d_R_implement_39 (by decide) (fun c39 => ?_) (fun c39 => ?_)
        · skip
          refine x_iconst (pc := 53) K (v := (-1)) d_R_implement_53 (by decide) ?_
          have hno : ¬ yRI M.1 b t a := fun q => q.2.2.2.1 c39
          exact x_iret (pc := 54) K (by rw [if_neg hno]) (by rw [if_neg hno]) d_R_implement_54
        · skip
          refine x_aload_n (pc := 42) K 1 d_R_implement_42 rfl ?_
          refine x_getr (pc := 43) K (n := 278) (n' := 283) (k := 4) (zlt shR) shR rfl hR.r283 rfl (by decide) (fun _ q => zmem (uw_R _ q)) (zmem lk_R_23) d_R_implement_43 ?_
          refine x_iload (pc := 46) K 0 d_R_implement_46 rfl ?_
          refine x_iald (pc := 48) K (n := 283) (j := (12 * (ix b)) + (ix t)) rfl (by omega) (zlt sh283) sh283 rfl (by decide) d_R_implement_48 ?_
          refine x_iconst (pc := 49) K (v := nI 3) d_R_implement_49 (by decide) ?_
          refine x_icmp_ne (pc := 50) K (tgt := 55) d_R_implement_50 (by decide) (fun c50 => ?_) (fun c50 => ?_)
          · skip
            refine x_iconst (pc := 55) K (v := nI 0) d_R_implement_55 (by decide) ?_
            refine x_istore (pc := 56) K (lv' := [(5, .int (nI 0)), (4, .int (nI ((12 * (ix b)) + (ix t)))), (0, .ref (w.2.2 + 278)), (1, .int b), (2, .int t), (3, .int a)]) d_R_implement_56 (by decide) rfl ?_
            have hc9 := hc (12 * ix b + ix t) (by omega)
            have h39 : qF M.1 (12 * ix b + ix t) < 3 := by rcases Nat.lt_or_ge (qF M.1 (12 * ix b + ix t)) 3 with z | z; exact z; exact absurd (by rw [hc9.1.1, show qF M.1 (12 * ix b + ix t) = 3 from Nat.le_antisymm hc9.1.2 z]) c50
            have e1 : (if yRI M.1 b t a then nI (qF M.1 (12 * ix b + ix t) + 1) else -1) = vRI M b t a (12 * ix b + ix t) (fcF M.1 (12 * ix b + ix t) a) := by unfold vRI; by_cases z : fcF M.1 (12 * ix b + ix t) a = none; (rw [if_pos ⟨c5, c14, c19, c39, c50, z⟩, if_pos z]); (rw [if_neg (fun q => z q.2.2.2.2.2), if_neg z])
            have e2 : (if yRI M.1 b t a then xRI M b t a else M) = zRI M (12 * ix b + ix t) a (fcF M.1 (12 * ix b + ix t) a) := by unfold zRI xRI; by_cases z : fcF M.1 (12 * ix b + ix t) a = none; (rw [if_pos ⟨c5, c14, c19, c39, c50, z⟩, if_pos z]); (rw [if_neg (fun q => z q.2.2.2.2.2), if_neg z])
            rw [e1, e2]
            refine x_lv [0, 1, 2, 3, 4, 5] rfl ?_
            exact lp_R_implement l w M o hR b t a (12 * ix b + ix t) (by omega) hc9 h39 _ K (qF M.1 (12 * ix b + ix t) + 1) 0 (by omega) (by omega) (by rw [Nat.sub_zero])
          · skip
            refine x_iconst (pc := 53) K (v := (-1)) d_R_implement_53 (by decide) ?_
            have hno : ¬ yRI M.1 b t a := fun q => q.2.2.2.2.1 c50
            exact x_iret (pc := 54) K (by rw [if_neg hno]) (by rw [if_neg hno]) d_R_implement_54
      · skip
        refine x_iconst (pc := 22) K (v := (-1)) d_R_implement_22 (by decide) ?_
        have hno : ¬ yRI M.1 b t a := fun q => c19 q.2.2.1
        exact x_iret (pc := 23) K (by rw [if_neg hno]) (by rw [if_neg hno]) d_R_implement_23
abbrev yRM (μ : Nat → Nat → Int32) (b t k q f : Int32) : Prop := ¬ badT b t ∧ ¬ bdK k q ∧ ¬ (f < 0 ∨ (31 : Int32) < f) ∧ ¬ μ 279 (12 * ix b + ix t) = 0 ∧ ¬ μ 285 (12 * ix b + ix t) = nI 8 ∧ ¬ 0 ≤ qOwn μ (12 * ix b + ix t) k q ∧ ¬ bdF (bI (μ 280 (12 * ix b + ix t) = 1)) k f
def xRM (M : fl_M) (b t k q f : Int32) : fl_M := wI (wI (wI (wI (wI M 286 (8 * (12 * ix b + ix t) + qM M.1 (12 * ix b + ix t)) k) 287 (8 * (12 * ix b + ix t) + qM M.1 (12 * ix b + ix t)) q) 288 (8 * (12 * ix b + ix t) + qM M.1 (12 * ix b + ix t)) f) 289 (8 * (12 * ix b + ix t) + qM M.1 (12 * ix b + ix t)) 0) 285 (12 * ix b + ix t) (nI (qM M.1 (12 * ix b + ix t) + 1))
set_option maxHeartbeats 4000000 in
set_option maxRecDepth 100000 in
theorem c_R_member (l : Launch) (w : fl_W) (M : fl_M) (o : Nat) (hR : zRf o M.2) (hc : ∀ r, r < 24 → rC M.1 r) (b t k q f : Int32) : CT l y_R_member w_R_member rm_R_member w zN [.ref (w.2.2 + 278), .int b, .int t, .int k, .int q, .int f] M (some (.int (if yRM M.1 b t k q f then nI (qM M.1 (12 * ix b + ix t)) else -1))) (if yRM M.1 b t k q f then xRM M b t k q f else M) := by
  refine CT.of (cc := b_R_member) (own := "CompatibilityJudgeModel") (by decide) rfl rfl (Nat.le_of_ble_eq_true rfl) ?_
  intro p9 e9 s9 m9 ag9 bl9 mt9 c9 K
  show XW p9 l e9 (rm_R_member) s9 m9 ag9 bl9 mt9 c9 8 0 0 (MQ bl9 (CQ w zN (some (.int (if yRM M.1 b t k q f then nI (qM M.1 (12 * ix b + ix t)) else -1))) (if yRM M.1 b t k q f then xRM M b t k q f else M)) ag9 s9 0 0 (fun q : Nat => w.2.2 ≤ q)) w zN M 0 [(0, .ref (w.2.2 + 278)), (1, .int b), (2, .int t), (3, .int k), (4, .int q), (5, .int f)] []
  refine x_iload_n (pc := 0) K 1 d_R_member_0 rfl ?_
  refine x_iload_n (pc := 1) K 2 d_R_member_1 rfl ?_
  refine x_callS (pc := 2) K (As := [.int b, .int t]) (rest := []) (c_R_bad l w M b t) (zcwS K.ts lk_R_63 sm_R_bad ii_R co_R_bad pd_R_bad ⟨rfl, rfl⟩ ⟨by decide, by decide⟩) rfl rfl (Nat.le_of_ble_eq_true rfl) ⟨Nat.zero_le _, Nat.zero_le _⟩ d_R_member_2 ?_
  refine x_ifneB (pc := 5) K (tgt := 27) d_R_member_5 (by decide) (fun c5 => ?_) (fun c5 => ?_)
  · skip
    refine x_iconst (pc := 27) K (v := (-1)) d_R_member_27 (by decide) ?_
    have hno : ¬ yRM M.1 b t k q f := fun z => z.1 c5
    exact x_iret (pc := 28) K (by rw [if_neg hno]) (by rw [if_neg hno]) d_R_member_28
  · skip
    have hok9 := badT_iff.mp c5
    obtain ⟨hbx, htx⟩ := okT_ix hok9
    have hb2 := hbx.2
    have ht12 := htx.2
    refine x_iload_n (pc := 8) K 3 d_R_member_8 rfl ?_
    refine x_iload (pc := 9) K 4 d_R_member_9 rfl ?_
    refine x_callS (pc := 11) K (As := [.int k, .int q]) (rest := []) (c_R_badKey l w M k q) (zcwS K.ts lk_R_69 sm_R_badKey ii_R co_R_badKey pd_R_badKey ⟨rfl, rfl⟩ ⟨by decide, by decide⟩) rfl rfl (Nat.le_of_ble_eq_true rfl) ⟨Nat.zero_le _, Nat.zero_le _⟩ d_R_member_11 ?_
    refine x_ifneB (pc := 14) K (tgt := 27) d_R_member_14 (by decide) (fun c14 => ?_) (fun c14 => ?_)
    · skip
      refine x_iconst (pc := 27) K (v := (-1)) d_R_member_27 (by decide) ?_
      have hno : ¬ yRM M.1 b t k q f := fun z => z.2.1 c14
      exact x_iret (pc := 28) K (by rw [if_neg hno]) (by rw [if_neg hno]) d_R_member_28
    · skip
      refine x_iload (pc := 17) K 5 d_R_member_17 rfl ?_
      refine x_bipush (pc := 19) K (v := 31) d_R_member_19 (by decide) ?_
      refine x_callS (pc := 21) K (As := [.int f, .int 31]) (rest := []) (c_R_out l w M f 31) (zcwS K.ts lk_R_59 sm_R_out ii_R co_R_out pd_R_out ⟨rfl, rfl⟩ ⟨by decide, by decide⟩) rfl rfl (Nat.le_of_ble_eq_true rfl) ⟨Nat.zero_le _, Nat.zero_le _⟩ d_R_member_21 ?_
      refine x_ifeqB (pc := 24) K (tgt := 29) d_R_member_24 (by decide) (fun c24 => ?_) (fun c24 => ?_)
      · skip
        refine x_bipush (pc := 29) K (v := nI 12) d_R_member_29 (by decide) ?_
        refine x_iload_n (pc := 31) K 1 d_R_member_31 rfl ?_
        refine x_eqi (y := nI (ix b)) (hbx.1) ?_
        refine x_imul (pc := 32) K d_R_member_32 ?_
        refine x_eqi (y := nI (12 * (ix b))) (pk_mul _ _) ?_
        refine x_iload_n (pc := 33) K 2 d_R_member_33 rfl ?_
        refine x_eqi (y := nI (ix t)) (htx.1) ?_
        refine x_iadd (pc := 34) K d_R_member_34 ?_
        refine x_eqi (y := nI ((12 * (ix b)) + (ix t))) (nI_add _ _) ?_
        refine x_istore (pc := 35) K (lv' := [(6, .int (nI ((12 * (ix b)) + (ix t)))), (0, .ref (w.2.2 + 278)), (1, .int b), (2, .int t), (3, .int k), (4, .int q), (5, .int f)]) d_R_member_35 (by decide) rfl ?_
        refine x_aload_n (pc := 37) K 1 d_R_member_37 rfl ?_
        refine x_getr (pc := 38) K (n := 278) (n' := 279) (k := 0) (zlt shR) shR rfl hR.r279 rfl (by decide) (fun _ q => zmem (uw_R _ q)) (zmem lk_R_7) d_R_member_38 ?_
        refine x_iload (pc := 41) K 0 d_R_member_41 rfl ?_
        refine x_zald (pc := 43) K (n := 279) (j := (12 * (ix b)) + (ix t)) rfl (by omega) (zlt sh279) sh279 rfl (by decide) d_R_member_43 ?_
        refine x_if_eq (pc := 44) K (tgt := 96) d_R_member_44 (by decide) (fun c44 => ?_) (fun c44 => ?_)
        · skip
          refine x_iconst (pc := 96) K (v := (-1)) d_R_member_96 (by decide) ?_
          have hno : ¬ yRM M.1 b t k q f := fun z => z.2.2.2.1 c44
          exact x_iret (pc := 97) K (by rw [if_neg hno]) (by rw [if_neg hno]) d_R_member_97
        · skip
          have hc9 := hc (12 * ix b + ix t) (by omega)
          refine x_aload_n (pc := 47) K 1 d_R_member_47 rfl ?_
          refine x_getr (pc := 48) K (n := 278) (n' := 285) (k := 6) (zlt shR) shR rfl hR.r285 rfl (by decide) (fun _ q => zmem (uw_R _ q)) (zmem lk_R_29) d_R_member_48 ?_
          refine x_iload (pc := 51) K 0 d_R_member_51 rfl ?_
          refine x_iald (pc := 53) K (n := 285) (j := (12 * (ix b)) + (ix t)) rfl (by omega) (zlt sh285) sh285 rfl (by decide) d_R_member_53 ?_
          refine x_bipush (pc := 54) K (v := nI 8) d_R_member_54 (by decide) ?_
          refine x_icmp_eq (pc := 56) K (tgt := 96) d_R_member_56 (by decide) (fun c56 => ?_) (fun c56 => ?_)
          · skip
            refine x_iconst (pc := 96) K (v := (-1)) d_R_member_96 (by decide) ?_
            have hno : ¬ yRM M.1 b t k q f := fun z => z.2.2.2.2.1 c56
            exact x_iret (pc := 97) K (by rw [if_neg hno]) (by rw [if_neg hno]) d_R_member_97
          · skip
            have h89 : qM M.1 (12 * ix b + ix t) < 8 := by rcases Nat.lt_or_ge (qM M.1 (12 * ix b + ix t)) 8 with z | z; exact z; exact absurd (by rw [hc9.2.1, show qM M.1 (12 * ix b + ix t) = 8 from Nat.le_antisymm hc9.2.2 z]) c56
            refine x_aload_n (pc := 59) K 1 d_R_member_59 rfl ?_
            refine x_iload (pc := 60) K 0 d_R_member_60 rfl ?_
            refine x_iload_n (pc := 62) K 4 d_R_member_62 rfl ?_
            refine x_iload (pc := 63) K 5 d_R_member_63 rfl ?_
            refine x_callV (pc := 65) K (As := [.int (nI ((12 * (ix b)) + (ix t))), .int k, .int q]) (rest := []) (c_R_own l w M o hR ((12 * (ix b)) + (ix t)) (by omega) (hc ((12 * (ix b)) + (ix t)) (by omega)) k q) (zcwV K.ts lk_R_72 im_R_own se_R_own ii_R co_R_own pd_R_own ⟨rfl, rfl⟩ ⟨by decide, by decide⟩) (zlt shR) shR rfl rfl rfl (Nat.le_of_ble_eq_true rfl) ⟨Nat.zero_le _, Nat.zero_le _⟩ d_R_member_65 ?_
            refine x_if_ge (pc := 68) K (tgt := 96) d_R_member_68 (by decide) (fun c68 => ?_) (fun c68 => ?_)
            · skip
              refine x_iconst (pc := 96) K (v := (-1)) d_R_member_96 (by decide) ?_
              have hno : ¬ yRM M.1 b t k q f := fun z => z.2.2.2.2.2.1 c68
              exact x_iret (pc := 97) K (by rw [if_neg hno]) (by rw [if_neg hno]) d_R_member_97
            · skip
              refine x_aload_n (pc := 71) K 1 d_R_member_71 rfl ?_
              refine x_getr (pc := 72) K (n := 278) (n' := 280) (k := 1) (zlt shR) shR rfl hR.r280 rfl (by decide) (fun _ q => zmem (uw_R _ q)) (zmem lk_R_13) d_R_member_72 ?_
              refine x_iload (pc := 75) K 0 d_R_member_75 rfl ?_
              refine x_iald (pc := 77) K (n := 280) (j := (12 * (ix b)) + (ix t)) rfl (by omega) (zlt sh280) sh280 rfl (by decide) d_R_member_77 ?_
              refine x_iconst (pc := 78) K (v := 1) d_R_member_78 (by decide) ?_
              refine x_icmp_ne (pc := 79) K (tgt := 86) d_R_member_79 (by decide) (fun c79 => ?_) (fun c79 => ?_)
              · skip
                have hb9 : bI (M.1 280 (12 * ix b + ix t) = 1) = 0 := bI_f c79
                refine x_iconst (pc := 86) K (v := 0) d_R_member_86 (by decide) ?_
                refine x_iload_n (pc := 87) K 4 d_R_member_87 rfl ?_
                refine x_iload (pc := 88) K 6 d_R_member_88 rfl ?_
                refine x_callS (pc := 90) K (As := [.int 0, .int k, .int f]) (rest := []) (c_R_badFlags l w M 0 k f) (zcwS K.ts lk_R_76 sm_R_badFlags ii_R co_R_badFlags pd_R_badFlags ⟨rfl, rfl⟩ ⟨by decide, by decide⟩) rfl rfl (Nat.le_of_ble_eq_true rfl) ⟨Nat.zero_le _, Nat.zero_le _⟩ d_R_member_90 ?_
                refine x_ifeqB (pc := 93) K (tgt := 98) d_R_member_93 (by decide) (fun c93 => ?_) (fun c93 => ?_)
                · skip
                  refine x_bipush (pc := 98) K (v := nI 8) d_R_member_98 (by decide) ?_
                  refine x_iload (pc := 100) K 0 d_R_member_100 rfl ?_
                  refine x_imul (pc := 102) K d_R_member_102 ?_
                  refine x_eqi (y := nI (8 * ((12 * (ix b)) + (ix t)))) (pk_mul _ _) ?_
                  refine x_aload_n (pc := 103) K 1 d_R_member_103 rfl ?_
                  refine x_getr (pc := 104) K (n := 278) (n' := 285) (k := 6) (zlt shR) shR rfl hR.r285 rfl (by decide) (fun _ q => zmem (uw_R _ q)) (zmem lk_R_29) d_R_member_104 ?_
                  refine x_iload (pc := 107) K 0 d_R_member_107 rfl ?_
                  refine x_iald (pc := 109) K (n := 285) (j := (12 * (ix b)) + (ix t)) rfl (by omega) (zlt sh285) sh285 rfl (by decide) d_R_member_109 ?_
                  refine x_eqi (y := nI (qM M.1 (12 * ix b + ix t))) (hc9.2.1) ?_
                  refine x_iadd (pc := 110) K d_R_member_110 ?_
                  refine x_eqi (y := nI ((8 * ((12 * (ix b)) + (ix t))) + (qM M.1 (12 * ix b + ix t)))) (nI_add _ _) ?_
                  refine x_istore (pc := 111) K (lv' := [(7, .int (nI ((8 * ((12 * (ix b)) + (ix t))) + (qM M.1 (12 * ix b + ix t))))), (6, .int (nI ((12 * (ix b)) + (ix t)))), (0, .ref (w.2.2 + 278)), (1, .int b), (2, .int t), (3, .int k), (4, .int q), (5, .int f)]) d_R_member_111 (by decide) rfl ?_
                  refine x_aload_n (pc := 113) K 2 d_R_member_113 rfl ?_
                  refine x_getr (pc := 114) K (n := 278) (n' := 286) (k := 7) (zlt shR) shR rfl hR.r286 rfl (by decide) (fun _ q => zmem (uw_R _ q)) (zmem lk_R_32) d_R_member_114 ?_
                  refine x_iload (pc := 117) K 0 d_R_member_117 rfl ?_
                  refine x_iload_n (pc := 119) K 5 d_R_member_119 rfl ?_
                  refine x_iast (pc := 120) K (n := 286) (j := (8 * ((12 * (ix b)) + (ix t))) + (qM M.1 (12 * ix b + ix t))) (x := k) rfl (by omega) (zlt sh286) sh286 rfl (by decide) d_R_member_120 ?_
                  refine x_aload_n (pc := 121) K 2 d_R_member_121 rfl ?_
                  refine x_getr (pc := 122) K (n := 278) (n' := 287) (k := 8) (zlt shR) shR rfl hR.r287 rfl (by decide) (fun _ q => zmem (uw_R _ q)) (zmem lk_R_35) d_R_member_122 ?_
                  refine x_iload (pc := 125) K 0 d_R_member_125 rfl ?_
                  refine x_iload (pc := 127) K 6 d_R_member_127 rfl ?_
                  refine x_iast (pc := 129) K (n := 287) (j := (8 * ((12 * (ix b)) + (ix t))) + (qM M.1 (12 * ix b + ix t))) (x := q) rfl (by omega) (zlt sh287) sh287 rfl (by decide) d_R_member_129 ?_
                  refine x_aload_n (pc := 130) K 2 d_R_member_130 rfl ?_
                  refine x_getr (pc := 131) K (n := 278) (n' := 288) (k := 9) (zlt shR) shR rfl hR.r288 rfl (by decide) (fun _ q => zmem (uw_R _ q)) (zmem lk_R_38) d_R_member_131 ?_
                  refine x_iload (pc := 134) K 0 d_R_member_134 rfl ?_
                  refine x_iload (pc := 136) K 7 d_R_member_136 rfl ?_
                  refine x_iast (pc := 138) K (n := 288) (j := (8 * ((12 * (ix b)) + (ix t))) + (qM M.1 (12 * ix b + ix t))) (x := f) rfl (by omega) (zlt sh288) sh288 rfl (by decide) d_R_member_138 ?_
                  refine x_aload_n (pc := 139) K 2 d_R_member_139 rfl ?_
                  refine x_getr (pc := 140) K (n := 278) (n' := 289) (k := 10) (zlt shR) shR rfl hR.r289 rfl (by decide) (fun _ q => zmem (uw_R _ q)) (zmem lk_R_41) d_R_member_140 ?_
                  refine x_iload (pc := 143) K 0 d_R_member_143 rfl ?_
                  refine x_iconst (pc := 145) K (v := 0) d_R_member_145 (by decide) ?_
                  refine x_zast (pc := 146) K (n := 289) (j := (8 * ((12 * (ix b)) + (ix t))) + (qM M.1 (12 * ix b + ix t))) (x := 0) (Or.inl rfl) rfl (by omega) (zlt sh289) sh289 rfl (by decide) d_R_member_146 ?_
                  refine x_aload_n (pc := 147) K 2 d_R_member_147 rfl ?_
                  refine x_getr (pc := 148) K (n := 278) (n' := 285) (k := 6) (zlt shR) shR rfl hR.r285 rfl (by decide) (fun _ q => zmem (uw_R _ q)) (zmem lk_R_29) d_R_member_148 ?_
                  refine x_iload (pc := 151) K 1 d_R_member_151 rfl ?_
                  refine x_dup2 (pc := 153) K d_R_member_153 rfl rfl ?_
                  refine x_iald (pc := 154) K (n := 285) (j := (12 * (ix b)) + (ix t)) rfl (by omega) (zlt sh285) sh285 rfl (by decide) d_R_member_154 ?_
                  refine x_eqi (y := nI (qM M.1 (12 * ix b + ix t))) (by rw [rdI_ne (Or.inl (by decide)), rdI_ne (Or.inl (by decide)), rdI_ne (Or.inl (by decide)), rdI_ne (Or.inl (by decide))]; exact hc9.2.1) ?_
                  refine x_iconst (pc := 155) K (v := 1) d_R_member_155 (by decide) ?_
                  refine x_iadd (pc := 156) K d_R_member_156 ?_
                  refine x_eqi (y := nI (qM M.1 (12 * ix b + ix t) + 1)) (nI_1 _) ?_
                  refine x_iast (pc := 157) K (n := 285) (j := (12 * (ix b)) + (ix t)) (x := nI (qM M.1 (12 * ix b + ix t) + 1)) rfl (by omega) (zlt sh285) sh285 rfl (by decide) d_R_member_157 ?_
                  refine x_aload_n (pc := 158) K 2 d_R_member_158 rfl ?_
                  refine x_getr (pc := 159) K (n := 278) (n' := 285) (k := 6) (zlt shR) shR rfl hR.r285 rfl (by decide) (fun _ q => zmem (uw_R _ q)) (zmem lk_R_29) d_R_member_159 ?_
                  refine x_iload (pc := 162) K 1 d_R_member_162 rfl ?_
                  refine x_iald (pc := 164) K (n := 285) (j := (12 * (ix b)) + (ix t)) rfl (by omega) (zlt sh285) sh285 rfl (by decide) d_R_member_164 ?_
                  refine x_eqi (y := nI (qM M.1 (12 * ix b + ix t) + 1)) (rdI_eq) ?_
                  refine x_iconst (pc := 165) K (v := 1) d_R_member_165 (by decide) ?_
                  refine x_isub (pc := 166) K d_R_member_166 ?_
                  refine x_eqi (y := nI (qM M.1 (12 * ix b + ix t))) (nI_pred _) ?_
                  have hyes : yRM M.1 b t k q f := ⟨c5, c14, c24, c44, c56, c68, by rw [hb9]; exact c93⟩
                  exact x_iret (pc := 167) K (by rw [if_pos hyes]) (by rw [if_pos hyes, xRM]) d_R_member_167
                · skip
                  refine x_iconst (pc := 96) K (v := (-1)) d_R_member_96 (by decide) ?_
                  have hno : ¬ yRM M.1 b t k q f := fun z => z.2.2.2.2.2.2 (by rw [hb9]; exact c93)
                  exact x_iret (pc := 97) K (by rw [if_neg hno]) (by rw [if_neg hno]) d_R_member_97
              · skip
                have hb9 : bI (M.1 280 (12 * ix b + ix t) = 1) = 1 := bI_t c79
                refine x_iconst (pc := 82) K (v := 1) d_R_member_82 (by decide) ?_
                refine x_goto (pc := 83) K (tgt := 87) d_R_member_83 (by decide) ?_
                refine x_iload_n (pc := 87) K 4 d_R_member_87 rfl ?_
                refine x_iload (pc := 88) K 6 d_R_member_88 rfl ?_
                refine x_callS (pc := 90) K (As := [.int 1, .int k, .int f]) (rest := []) (c_R_badFlags l w M 1 k f) (zcwS K.ts lk_R_76 sm_R_badFlags ii_R co_R_badFlags pd_R_badFlags ⟨rfl, rfl⟩ ⟨by decide, by decide⟩) rfl rfl (Nat.le_of_ble_eq_true rfl) ⟨Nat.zero_le _, Nat.zero_le _⟩ d_R_member_90 ?_
                refine x_ifeqB (pc := 93) K (tgt := 98) d_R_member_93 (by decide) (fun c93 => ?_) (fun c93 => ?_)
                · skip
                  refine x_bipush (pc := 98) K (v := nI 8) d_R_member_98 (by decide) ?_
                  refine x_iload (pc := 100) K 0 d_R_member_100 rfl ?_
                  refine x_imul (pc := 102) K d_R_member_102 ?_
                  refine x_eqi (y := nI (8 * ((12 * (ix b)) + (ix t)))) (pk_mul _ _) ?_
                  refine x_aload_n (pc := 103) K 1 d_R_member_103 rfl ?_
                  refine x_getr (pc := 104) K (n := 278) (n' := 285) (k := 6) (zlt shR) shR rfl hR.r285 rfl (by decide) (fun _ q => zmem (uw_R _ q)) (zmem lk_R_29) d_R_member_104 ?_
                  refine x_iload (pc := 107) K 0 d_R_member_107 rfl ?_
                  refine x_iald (pc := 109) K (n := 285) (j := (12 * (ix b)) + (ix t)) rfl (by omega) (zlt sh285) sh285 rfl (by decide) d_R_member_109 ?_
                  refine x_eqi (y := nI (qM M.1 (12 * ix b + ix t))) (hc9.2.1) ?_
                  refine x_iadd (pc := 110) K d_R_member_110 ?_
                  refine x_eqi (y := nI ((8 * ((12 * (ix b)) + (ix t))) + (qM M.1 (12 * ix b + ix t)))) (nI_add _ _) ?_
                  refine x_istore (pc := 111) K (lv' := [(7, .int (nI ((8 * ((12 * (ix b)) + (ix t))) + (qM M.1 (12 * ix b + ix t))))), (6, .int (nI ((12 * (ix b)) + (ix t)))), (0, .ref (w.2.2 + 278)), (1, .int b), (2, .int t), (3, .int k), (4, .int q), (5, .int f)]) d_R_member_111 (by decide) rfl ?_
                  refine x_aload_n (pc := 113) K 2 d_R_member_113 rfl ?_
                  refine x_getr (pc := 114) K (n := 278) (n' := 286) (k := 7) (zlt shR) shR rfl hR.r286 rfl (by decide) (fun _ q => zmem (uw_R _ q)) (zmem lk_R_32) d_R_member_114 ?_
                  refine x_iload (pc := 117) K 0 d_R_member_117 rfl ?_
                  refine x_iload_n (pc := 119) K 5 d_R_member_119 rfl ?_
                  refine x_iast (pc := 120) K (n := 286) (j := (8 * ((12 * (ix b)) + (ix t))) + (qM M.1 (12 * ix b + ix t))) (x := k) rfl (by omega) (zlt sh286) sh286 rfl (by decide) d_R_member_120 ?_
                  refine x_aload_n (pc := 121) K 2 d_R_member_121 rfl ?_
                  refine x_getr (pc := 122) K (n := 278) (n' := 287) (k := 8) (zlt shR) shR rfl hR.r287 rfl (by decide) (fun _ q => zmem (uw_R _ q)) (zmem lk_R_35) d_R_member_122 ?_
                  refine x_iload (pc := 125) K 0 d_R_member_125 rfl ?_
                  refine x_iload (pc := 127) K 6 d_R_member_127 rfl ?_
                  refine x_iast (pc := 129) K (n := 287) (j := (8 * ((12 * (ix b)) + (ix t))) + (qM M.1 (12 * ix b + ix t))) (x := q) rfl (by omega) (zlt sh287) sh287 rfl (by decide) d_R_member_129 ?_
                  refine x_aload_n (pc := 130) K 2 d_R_member_130 rfl ?_
                  refine x_getr (pc := 131) K (n := 278) (n' := 288) (k := 9) (zlt shR) shR rfl hR.r288 rfl (by decide) (fun _ q => zmem (uw_R _ q)) (zmem lk_R_38) d_R_member_131 ?_
                  refine x_iload (pc := 134) K 0 d_R_member_134 rfl ?_
                  refine x_iload (pc := 136) K 7 d_R_member_136 rfl ?_
                  refine x_iast (pc := 138) K (n := 288) (j := (8 * ((12 * (ix b)) + (ix t))) + (qM M.1 (12 * ix b + ix t))) (x := f) rfl (by omega) (zlt sh288) sh288 rfl (by decide) d_R_member_138 ?_
                  refine x_aload_n (pc := 139) K 2 d_R_member_139 rfl ?_
                  refine x_getr (pc := 140) K (n := 278) (n' := 289) (k := 10) (zlt shR) shR rfl hR.r289 rfl (by decide) (fun _ q => zmem (uw_R _ q)) (zmem lk_R_41) d_R_member_140 ?_
                  refine x_iload (pc := 143) K 0 d_R_member_143 rfl ?_
                  refine x_iconst (pc := 145) K (v := 0) d_R_member_145 (by decide) ?_
                  refine x_zast (pc := 146) K (n := 289) (j := (8 * ((12 * (ix b)) + (ix t))) + (qM M.1 (12 * ix b + ix t))) (x := 0) (Or.inl rfl) rfl (by omega) (zlt sh289) sh289 rfl (by decide) d_R_member_146 ?_
                  refine x_aload_n (pc := 147) K 2 d_R_member_147 rfl ?_
                  refine x_getr (pc := 148) K (n := 278) (n' := 285) (k := 6) (zlt shR) shR rfl hR.r285 rfl (by decide) (fun _ q => zmem (uw_R _ q)) (zmem lk_R_29) d_R_member_148 ?_
                  refine x_iload (pc := 151) K 1 d_R_member_151 rfl ?_
                  refine x_dup2 (pc := 153) K d_R_member_153 rfl rfl ?_
                  refine x_iald (pc := 154) K (n := 285) (j := (12 * (ix b)) + (ix t)) rfl (by omega) (zlt sh285) sh285 rfl (by decide) d_R_member_154 ?_
                  refine x_eqi (y := nI (qM M.1 (12 * ix b + ix t))) (by rw [rdI_ne (Or.inl (by decide)), rdI_ne (Or.inl (by decide)), rdI_ne (Or.inl (by decide)), rdI_ne (Or.inl (by decide))]; exact hc9.2.1) ?_
                  refine x_iconst (pc := 155) K (v := 1) d_R_member_155 (by decide) ?_
                  refine x_iadd (pc := 156) K d_R_member_156 ?_
                  refine x_eqi (y := nI (qM M.1 (12 * ix b + ix t) + 1)) (nI_1 _) ?_
                  refine x_iast (pc := 157) K (n := 285) (j := (12 * (ix b)) + (ix t)) (x := nI (qM M.1 (12 * ix b + ix t) + 1)) rfl (by omega) (zlt sh285) sh285 rfl (by decide) d_R_member_157 ?_
                  refine x_aload_n (pc := 158) K 2 d_R_member_158 rfl ?_
                  refine x_getr (pc := 159) K (n := 278) (n' := 285) (k := 6) (zlt shR) shR rfl hR.r285 rfl (by decide) (fun _ q => zmem (uw_R _ q)) (zmem lk_R_29) d_R_member_159 ?_
                  refine x_iload (pc := 162) K 1 d_R_member_162 rfl ?_
                  refine x_iald (pc := 164) K (n := 285) (j := (12 * (ix b)) + (ix t)) rfl (by omega) (zlt sh285) sh285 rfl (by decide) d_R_member_164 ?_
                  refine x_eqi (y := nI (qM M.1 (12 * ix b + ix t) + 1)) (rdI_eq) ?_
                  refine x_iconst (pc := 165) K (v := 1) d_R_member_165 (by decide) ?_
                  refine x_isub (pc := 166) K d_R_member_166 ?_
                  refine x_eqi (y := nI (qM M.1 (12 * ix b + ix t))) (nI_pred _) ?_
                  have hyes : yRM M.1 b t k q f := ⟨c5, c14, c24, c44, c56, c68, by rw [hb9]; exact c93⟩
                  exact x_iret (pc := 167) K (by rw [if_pos hyes]) (by rw [if_pos hyes, xRM]) d_R_member_167
                · skip
                  refine x_iconst (pc := 96) K (v := (-1)) d_R_member_96 (by decide) ?_
                  have hno : ¬ yRM M.1 b t k q f := fun z => z.2.2.2.2.2.2 (by rw [hb9]; exact c93)
                  exact x_iret (pc := 97) K (by rw [if_neg hno]) (by rw [if_neg hno]) d_R_member_97
      · skip
        refine x_iconst (pc := 27) K (v := (-1)) d_R_member_27 (by decide) ?_
        have hno : ¬ yRM M.1 b t k q f := fun z => z.2.2.1 c24
        exact x_iret (pc := 28) K (by rw [if_neg hno]) (by rw [if_neg hno]) d_R_member_28
abbrev yCl (μ : Nat → Nat → Int32) (b t p : Int32) : Prop := ¬ badT b t ∧ ¬ μ 279 (12 * ix b + ix t) = 0 ∧ ¬ (p < 0 ∨ μ 285 (12 * ix b + ix t) - 1 < p)
def vCl (μ : Nat → Nat → Int32) (b t p : Int32) : Int32 := if yCl μ b t p then nI (8 * (12 * ix b + ix t)) + p else -1
set_option maxHeartbeats 4000000 in
set_option maxRecDepth 100000 in
theorem c_R_cell (l : Launch) (w : fl_W) (M : fl_M) (o : Nat) (hR : zRf o M.2) (b t p : Int32) : CT l y_R_cell w_R_cell rm_R_cell w zN [.ref (w.2.2 + 278), .int b, .int t, .int p] M (some (.int (vCl M.1 b t p))) M := by
  refine CT.of (cc := b_R_cell) (own := "CompatibilityJudgeModel") (by decide) rfl rfl (Nat.le_of_ble_eq_true rfl) ?_
  intro p9 e9 s9 m9 ag9 bl9 mt9 c9 K
  show XW p9 l e9 (rm_R_cell) s9 m9 ag9 bl9 mt9 c9 5 0 0 (MQ bl9 (CQ w zN (some (.int (vCl M.1 b t p))) M) ag9 s9 0 0 (fun q : Nat => w.2.2 ≤ q)) w zN M 0 [(0, .ref (w.2.2 + 278)), (1, .int b), (2, .int t), (3, .int p)] []
  refine x_iload_n (pc := 0) K 1 d_R_cell_0 rfl ?_
  refine x_iload_n (pc := 1) K 2 d_R_cell_1 rfl ?_
  refine x_callS (pc := 2) K (As := [.int b, .int t]) (rest := []) (c_R_bad l w M b t) (zcwS K.ts lk_R_63 sm_R_bad ii_R co_R_bad pd_R_bad ⟨rfl, rfl⟩ ⟨by decide, by decide⟩) rfl rfl (Nat.le_of_ble_eq_true rfl) ⟨Nat.zero_le _, Nat.zero_le _⟩ d_R_cell_2 ?_
  refine x_ifeqB (pc := 5) K (tgt := 10) d_R_cell_5 (by decide) (fun c5 => ?_) (fun c5 => ?_)
  · skip
    have hok9 := badT_iff.mp c5
    obtain ⟨hbx, htx⟩ := okT_ix hok9
    have hb2 := hbx.2
    have ht12 := htx.2
    refine x_bipush (pc := 10) K (v := nI 12) d_R_cell_10 (by decide) ?_
    refine x_iload_n (pc := 12) K 1 d_R_cell_12 rfl ?_
    refine x_eqi (y := nI (ix b)) (hbx.1) ?_
    refine x_imul (pc := 13) K d_R_cell_13 ?_
    refine x_eqi (y := nI (12 * (ix b))) (pk_mul _ _) ?_
    refine x_iload_n (pc := 14) K 2 d_R_cell_14 rfl ?_
    refine x_eqi (y := nI (ix t)) (htx.1) ?_
    refine x_iadd (pc := 15) K d_R_cell_15 ?_
    refine x_eqi (y := nI ((12 * (ix b)) + (ix t))) (nI_add _ _) ?_
    refine x_istore (pc := 16) K (lv' := [(4, .int (nI ((12 * (ix b)) + (ix t)))), (0, .ref (w.2.2 + 278)), (1, .int b), (2, .int t), (3, .int p)]) d_R_cell_16 (by decide) rfl ?_
    refine x_aload_n (pc := 18) K 1 d_R_cell_18 rfl ?_
    refine x_getr (pc := 19) K (n := 278) (n' := 279) (k := 0) (zlt shR) shR rfl hR.r279 rfl (by decide) (fun _ q => zmem (uw_R _ q)) (zmem lk_R_7) d_R_cell_19 ?_
    refine x_iload (pc := 22) K 0 d_R_cell_22 rfl ?_
    refine x_zald (pc := 24) K (n := 279) (j := (12 * (ix b)) + (ix t)) rfl (by omega) (zlt sh279) sh279 rfl (by decide) d_R_cell_24 ?_
    refine x_if_eq (pc := 25) K (tgt := 44) d_R_cell_25 (by decide) (fun c25 => ?_) (fun c25 => ?_)
    · skip
      refine x_iconst (pc := 44) K (v := (-1)) d_R_cell_44 (by decide) ?_
      refine x_goto (pc := 45) K (tgt := 55) d_R_cell_45 (by decide) ?_
      have hno : ¬ yCl M.1 b t p := fun z => z.2.1 c25
      exact x_iret (pc := 55) K (by unfold vCl; rw [if_neg hno]) rfl d_R_cell_55
    · skip
      refine x_iload_n (pc := 28) K 4 d_R_cell_28 rfl ?_
      refine x_aload_n (pc := 29) K 1 d_R_cell_29 rfl ?_
      refine x_getr (pc := 30) K (n := 278) (n' := 285) (k := 6) (zlt shR) shR rfl hR.r285 rfl (by decide) (fun _ q => zmem (uw_R _ q)) (zmem lk_R_29) d_R_cell_30 ?_
      refine x_iload (pc := 33) K 0 d_R_cell_33 rfl ?_
      refine x_iald (pc := 35) K (n := 285) (j := (12 * (ix b)) + (ix t)) rfl (by omega) (zlt sh285) sh285 rfl (by decide) d_R_cell_35 ?_
      refine x_iconst (pc := 36) K (v := 1) d_R_cell_36 (by decide) ?_
      refine x_isub (pc := 37) K d_R_cell_37 ?_
      refine x_callS (pc := 38) K (As := [.int p, .int ((M.1 285 ((12 * (ix b)) + (ix t))) - 1)]) (rest := []) (c_R_out l w M p ((M.1 285 ((12 * (ix b)) + (ix t))) - 1)) (zcwS K.ts lk_R_59 sm_R_out ii_R co_R_out pd_R_out ⟨rfl, rfl⟩ ⟨by decide, by decide⟩) rfl rfl (Nat.le_of_ble_eq_true rfl) ⟨Nat.zero_le _, Nat.zero_le _⟩ d_R_cell_38 ?_
      refine x_ifeqB (pc := 41) K (tgt := 48) d_R_cell_41 (by decide) (fun c41 => ?_) (fun c41 => ?_)
      · skip
        refine x_bipush (pc := 48) K (v := nI 8) d_R_cell_48 (by decide) ?_
        refine x_iload (pc := 50) K 0 d_R_cell_50 rfl ?_
        refine x_imul (pc := 52) K d_R_cell_52 ?_
        refine x_eqi (y := nI (8 * ((12 * (ix b)) + (ix t)))) (pk_mul _ _) ?_
        refine x_iload_n (pc := 53) K 4 d_R_cell_53 rfl ?_
        refine x_iadd (pc := 54) K d_R_cell_54 ?_
        have hyes : yCl M.1 b t p := ⟨c5, c25, c41⟩
        exact x_iret (pc := 55) K (by unfold vCl; rw [if_pos hyes]) rfl d_R_cell_55
      · skip
        refine x_iconst (pc := 44) K (v := (-1)) d_R_cell_44 (by decide) ?_
        refine x_goto (pc := 45) K (tgt := 55) d_R_cell_45 (by decide) ?_
        have hno : ¬ yCl M.1 b t p := fun z => z.2.2 c41
        exact x_iret (pc := 55) K (by unfold vCl; rw [if_neg hno]) rfl d_R_cell_55
  · skip
    refine x_iconst (pc := 8) K (v := (-1)) d_R_cell_8 (by decide) ?_
    have hno : ¬ yCl M.1 b t p := fun z => z.1 c5
    exact x_iret (pc := 9) K (by unfold vCl; rw [if_neg hno]) rfl d_R_cell_9
abbrev yRR (μ : Nat → Nat → Int32) (b t : Int32) : Prop := ¬ badT b t ∧ ¬ μ 279 (12 * ix b + ix t) = 0
def xRR (M : fl_M) (b t : Int32) : fl_M := wI M 279 (12 * ix b + ix t) 0
set_option maxHeartbeats 4000000 in
set_option maxRecDepth 100000 in
theorem c_R_remove (l : Launch) (w : fl_W) (M : fl_M) (o : Nat) (hR : zRf o M.2) (b t : Int32) : CT l y_R_remove w_R_remove rm_R_remove w zN [.ref (w.2.2 + 278), .int b, .int t] M (some (.int (if yRR M.1 b t then 1 else -1))) (if yRR M.1 b t then xRR M b t else M) := by
  refine CT.of (cc := b_R_remove) (own := "CompatibilityJudgeModel") (by decide) rfl rfl (Nat.le_of_ble_eq_true rfl) ?_
  intro p9 e9 s9 m9 ag9 bl9 mt9 c9 K
  show XW p9 l e9 (rm_R_remove) s9 m9 ag9 bl9 mt9 c9 3 0 0 (MQ bl9 (CQ w zN (some (.int (if yRR M.1 b t then 1 else -1))) (if yRR M.1 b t then xRR M b t else M)) ag9 s9 0 0 (fun q : Nat => w.2.2 ≤ q)) w zN M 0 [(0, .ref (w.2.2 + 278)), (1, .int b), (2, .int t)] []
  refine x_iload_n (pc := 0) K 1 d_R_remove_0 rfl ?_
  refine x_iload_n (pc := 1) K 2 d_R_remove_1 rfl ?_
  refine x_callS (pc := 2) K (As := [.int b, .int t]) (rest := []) (c_R_bad l w M b t) (zcwS K.ts lk_R_63 sm_R_bad ii_R co_R_bad pd_R_bad ⟨rfl, rfl⟩ ⟨by decide, by decide⟩) rfl rfl (Nat.le_of_ble_eq_true rfl) ⟨Nat.zero_le _, Nat.zero_le _⟩ d_R_remove_2 ?_
  refine x_ifneB (pc := 5) K (tgt := 22) d_R_remove_5 (by decide) (fun c5 => ?_) (fun c5 => ?_)
  · skip
    refine x_iconst (pc := 22) K (v := (-1)) d_R_remove_22 (by decide) ?_
    have hno : ¬ yRR M.1 b t := fun q => q.1 c5
    exact x_iret (pc := 23) K (by rw [if_neg hno]) (by rw [if_neg hno]) d_R_remove_23
  · skip
    have hok9 := badT_iff.mp c5
    obtain ⟨hbx, htx⟩ := okT_ix hok9
    have hb2 := hbx.2
    have ht12 := htx.2
    refine x_aload_n (pc := 8) K 0 d_R_remove_8 rfl ?_
    refine x_getr (pc := 9) K (n := 278) (n' := 279) (k := 0) (zlt shR) shR rfl hR.r279 rfl (by decide) (fun _ q => zmem (uw_R _ q)) (zmem lk_R_7) d_R_remove_9 ?_
    refine x_bipush (pc := 12) K (v := nI 12) d_R_remove_12 (by decide) ?_
    refine x_iload_n (pc := 14) K 1 d_R_remove_14 rfl ?_
    refine x_eqi (y := nI (ix b)) (hbx.1) ?_
    refine x_imul (pc := 15) K d_R_remove_15 ?_
    refine x_eqi (y := nI (12 * (ix b))) (pk_mul _ _) ?_
    refine x_iload_n (pc := 16) K 2 d_R_remove_16 rfl ?_
    refine x_eqi (y := nI (ix t)) (htx.1) ?_
    refine x_iadd (pc := 17) K d_R_remove_17 ?_
    refine x_eqi (y := nI ((12 * (ix b)) + (ix t))) (nI_add _ _) ?_
    refine x_zald (pc := 18) K (n := 279) (j := (12 * (ix b)) + (ix t)) rfl (by omega) (zlt sh279) sh279 rfl (by decide) d_R_remove_18 ?_
    refine x_if_ne (pc := 19) K (tgt := 24) d_R_remove_19 (by decide) (fun c19 => ?_) (fun c19 => ?_)
    · skip
      refine x_aload_n (pc := 24) K 0 d_R_remove_24 rfl ?_
      refine x_getr (pc := 25) K (n := 278) (n' := 279) (k := 0) (zlt shR) shR rfl hR.r279 rfl (by decide) (fun _ q => zmem (uw_R _ q)) (zmem lk_R_7) d_R_remove_25 ?_
      refine x_bipush (pc := 28) K (v := nI 12) d_R_remove_28 (by decide) ?_
      refine x_iload_n (pc := 30) K 1 d_R_remove_30 rfl ?_
      refine x_eqi (y := nI (ix b)) (hbx.1) ?_
      refine x_imul (pc := 31) K d_R_remove_31 ?_
      refine x_eqi (y := nI (12 * (ix b))) (pk_mul _ _) ?_
      refine x_iload_n (pc := 32) K 2 d_R_remove_32 rfl ?_
      refine x_eqi (y := nI (ix t)) (htx.1) ?_
      refine x_iadd (pc := 33) K d_R_remove_33 ?_
      refine x_eqi (y := nI ((12 * (ix b)) + (ix t))) (nI_add _ _) ?_
      refine x_iconst (pc := 34) K (v := 0) d_R_remove_34 (by decide) ?_
      refine x_zast (pc := 35) K (n := 279) (j := (12 * (ix b)) + (ix t)) (x := 0) (Or.inl rfl) rfl (by omega) (zlt sh279) sh279 rfl (by decide) d_R_remove_35 ?_
      refine x_iconst (pc := 36) K (v := 1) d_R_remove_36 (by decide) ?_
      have hyes : yRR M.1 b t := ⟨c5, c19⟩
      exact x_iret (pc := 37) K (by rw [if_pos hyes]) (by rw [if_pos hyes, xRR]) d_R_remove_37
    · skip
      refine x_iconst (pc := 22) K (v := (-1)) d_R_remove_22 (by decide) ?_
      have hno : ¬ yRR M.1 b t := fun q => q.2 c19
      exact x_iret (pc := 23) K (by rw [if_neg hno]) (by rw [if_neg hno]) d_R_remove_23
abbrev bdS (r t : Int32) : Prop := (r < 0 ∨ (13 : Int32) < r) ∨ (t < 0 ∨ (11 : Int32) < t)
def xRS (M : fl_M) (r t z : Int32) : fl_M := wI M 291 (12 * ix r + ix t) z
set_option maxHeartbeats 4000000 in
set_option maxRecDepth 100000 in
theorem c_R_suppress (l : Launch) (w : fl_W) (M : fl_M) (o : Nat) (hR : zRf o M.2) (r t z : Int32) (hz : isZ z) : CT l y_R_suppress w_R_suppress rm_R_suppress w zN [.ref (w.2.2 + 278), .int r, .int t, .int z] M (some (.int (if bdS r t then -1 else if M.1 291 (12 * ix r + ix t) = z then 0 else 1))) (if bdS r t then M else xRS M r t z) := by
  refine CT.of (cc := b_R_suppress) (own := "CompatibilityJudgeModel") (by decide) rfl rfl (Nat.le_of_ble_eq_true rfl) ?_
  intro p9 e9 s9 m9 ag9 bl9 mt9 c9 K
  show XW p9 l e9 (rm_R_suppress) s9 m9 ag9 bl9 mt9 c9 5 0 0 (MQ bl9 (CQ w zN (some (.int (if bdS r t then -1 else if M.1 291 (12 * ix r + ix t) = z then 0 else 1))) (if bdS r t then M else xRS M r t z)) ag9 s9 0 0 (fun q : Nat => w.2.2 ≤ q)) w zN M 0 [(0, .ref (w.2.2 + 278)), (1, .int r), (2, .int t), (3, .int z)] []
  refine x_iload_n (pc := 0) K 1 d_R_suppress_0 rfl ?_
  refine x_bipush (pc := 1) K (v := 13) d_R_suppress_1 (by decide) ?_
  refine x_callS (pc := 3) K (As := [.int r, .int 13]) (rest := []) (c_R_out l w M r 13) (zcwS K.ts lk_R_59 sm_R_out ii_R co_R_out pd_R_out ⟨rfl, rfl⟩ ⟨by decide, by decide⟩) rfl rfl (Nat.le_of_ble_eq_true rfl) ⟨Nat.zero_le _, Nat.zero_le _⟩ d_R_suppress_3 ?_
  refine x_ifneB (pc := 6) K (tgt := 18) d_R_suppress_6 (by decide) (fun c6 => ?_) (fun c6 => ?_)
  · skip
    refine x_iconst (pc := 18) K (v := (-1)) d_R_suppress_18 (by decide) ?_
    have hb : bdS r t := Or.inl c6
    exact x_iret (pc := 19) K (by rw [if_pos hb]) (by rw [if_pos hb]) d_R_suppress_19
  · skip
    have hrx0 := (out_in (h := 13) (n := 14) (by omega) (by decide) (by decide) (by omega)).mp c6
    have hbx := ix_of 14 (by omega) hrx0.1 hrx0.2
    refine x_iload_n (pc := 9) K 2 d_R_suppress_9 rfl ?_
    refine x_bipush (pc := 10) K (v := 11) d_R_suppress_10 (by decide) ?_
    refine x_callS (pc := 12) K (As := [.int t, .int 11]) (rest := []) (c_R_out l w M t 11) (zcwS K.ts lk_R_59 sm_R_out ii_R co_R_out pd_R_out ⟨rfl, rfl⟩ ⟨by decide, by decide⟩) rfl rfl (Nat.le_of_ble_eq_true rfl) ⟨Nat.zero_le _, Nat.zero_le _⟩ d_R_suppress_12 ?_
    refine x_ifeqB (pc := 15) K (tgt := 20) d_R_suppress_15 (by decide) (fun c15 => ?_) (fun c15 => ?_)
    · skip
      have htx0 := (out_in (h := 11) (n := 12) (by omega) (by decide) (by decide) (by omega)).mp c15
      have htx := ix_of 12 (by omega) htx0.1 htx0.2
      have hb2 := hbx.2
      have ht12 := htx.2
      refine x_aload_n (pc := 20) K 0 d_R_suppress_20 rfl ?_
      refine x_getr (pc := 21) K (n := 278) (n' := 291) (k := 12) (zlt shR) shR rfl hR.r291 rfl (by decide) (fun _ q => zmem (uw_R _ q)) (zmem lk_R_47) d_R_suppress_21 ?_
      refine x_bipush (pc := 24) K (v := nI 12) d_R_suppress_24 (by decide) ?_
      refine x_iload_n (pc := 26) K 1 d_R_suppress_26 rfl ?_
      refine x_eqi (y := nI (ix r)) (hbx.1) ?_
      refine x_imul (pc := 27) K d_R_suppress_27 ?_
      refine x_eqi (y := nI (12 * (ix r))) (pk_mul _ _) ?_
      refine x_iload_n (pc := 28) K 2 d_R_suppress_28 rfl ?_
      refine x_eqi (y := nI (ix t)) (htx.1) ?_
      refine x_iadd (pc := 29) K d_R_suppress_29 ?_
      refine x_eqi (y := nI ((12 * (ix r)) + (ix t))) (nI_add _ _) ?_
      refine x_zald (pc := 30) K (n := 291) (j := (12 * (ix r)) + (ix t)) rfl (by omega) (zlt sh291) sh291 rfl (by decide) d_R_suppress_30 ?_
      refine x_iload_n (pc := 31) K 3 d_R_suppress_31 rfl ?_
      refine x_icmp_ne (pc := 32) K (tgt := 39) d_R_suppress_32 (by decide) (fun c32 => ?_) (fun c32 => ?_)
      · skip
        refine x_iconst (pc := 39) K (v := 1) d_R_suppress_39 (by decide) ?_
        refine x_istore (pc := 40) K (lv' := [(4, .int 1), (0, .ref (w.2.2 + 278)), (1, .int r), (2, .int t), (3, .int z)]) d_R_suppress_40 (by decide) rfl ?_
        refine x_aload_n (pc := 42) K 1 d_R_suppress_42 rfl ?_
        refine x_getr (pc := 43) K (n := 278) (n' := 291) (k := 12) (zlt shR) shR rfl hR.r291 rfl (by decide) (fun _ q => zmem (uw_R _ q)) (zmem lk_R_47) d_R_suppress_43 ?_
        refine x_bipush (pc := 46) K (v := nI 12) d_R_suppress_46 (by decide) ?_
        refine x_iload_n (pc := 48) K 2 d_R_suppress_48 rfl ?_
        refine x_eqi (y := nI (ix r)) (hbx.1) ?_
        refine x_imul (pc := 49) K d_R_suppress_49 ?_
        refine x_eqi (y := nI (12 * (ix r))) (pk_mul _ _) ?_
        refine x_iload_n (pc := 50) K 3 d_R_suppress_50 rfl ?_
        refine x_eqi (y := nI (ix t)) (htx.1) ?_
        refine x_iadd (pc := 51) K d_R_suppress_51 ?_
        refine x_eqi (y := nI ((12 * (ix r)) + (ix t))) (nI_add _ _) ?_
        refine x_iload_n (pc := 52) K 4 d_R_suppress_52 rfl ?_
        refine x_zast (pc := 53) K (n := 291) (j := (12 * (ix r)) + (ix t)) (x := z) hz rfl (by omega) (zlt sh291) sh291 rfl (by decide) d_R_suppress_53 ?_
        refine x_iload (pc := 54) K 0 d_R_suppress_54 rfl ?_
        have hb : ¬ bdS r t := fun z => z.elim c6 c15
        exact x_iret (pc := 56) K (by rw [if_neg hb, if_neg c32]) (by rw [if_neg hb, xRS]) d_R_suppress_56
      · skip
        refine x_iconst (pc := 35) K (v := 0) d_R_suppress_35 (by decide) ?_
        refine x_goto (pc := 36) K (tgt := 40) d_R_suppress_36 (by decide) ?_
        refine x_istore (pc := 40) K (lv' := [(4, .int 0), (0, .ref (w.2.2 + 278)), (1, .int r), (2, .int t), (3, .int z)]) d_R_suppress_40 (by decide) rfl ?_
        refine x_aload_n (pc := 42) K 1 d_R_suppress_42 rfl ?_
        refine x_getr (pc := 43) K (n := 278) (n' := 291) (k := 12) (zlt shR) shR rfl hR.r291 rfl (by decide) (fun _ q => zmem (uw_R _ q)) (zmem lk_R_47) d_R_suppress_43 ?_
        refine x_bipush (pc := 46) K (v := nI 12) d_R_suppress_46 (by decide) ?_
        refine x_iload_n (pc := 48) K 2 d_R_suppress_48 rfl ?_
        refine x_eqi (y := nI (ix r)) (hbx.1) ?_
        refine x_imul (pc := 49) K d_R_suppress_49 ?_
        refine x_eqi (y := nI (12 * (ix r))) (pk_mul _ _) ?_
        refine x_iload_n (pc := 50) K 3 d_R_suppress_50 rfl ?_
        refine x_eqi (y := nI (ix t)) (htx.1) ?_
        refine x_iadd (pc := 51) K d_R_suppress_51 ?_
        refine x_eqi (y := nI ((12 * (ix r)) + (ix t))) (nI_add _ _) ?_
        refine x_iload_n (pc := 52) K 4 d_R_suppress_52 rfl ?_
        refine x_zast (pc := 53) K (n := 291) (j := (12 * (ix r)) + (ix t)) (x := z) hz rfl (by omega) (zlt sh291) sh291 rfl (by decide) d_R_suppress_53 ?_
        refine x_iload (pc := 54) K 0 d_R_suppress_54 rfl ?_
        have hb : ¬ bdS r t := fun z => z.elim c6 c15
        exact x_iret (pc := 56) K (by rw [if_neg hb, if_pos c32]) (by rw [if_neg hb, xRS]) d_R_suppress_56
    · skip
      refine x_iconst (pc := 18) K (v := (-1)) d_R_suppress_18 (by decide) ?_
      have hb : bdS r t := Or.inr c15
      exact x_iret (pc := 19) K (by rw [if_pos hb]) (by rw [if_pos hb]) d_R_suppress_19
