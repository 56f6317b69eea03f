set_option maxHeartbeats 4000000 in
set_option maxRecDepth 100000 in
theorem c_R_out (l : Launch) (w : fl_W) (M : fl_M) (v h : Int32) : CT l y_R_out w_R_out rm_R_out w zN [.int v, .int h] M (some (.int (bI (v < 0 ∨ h < v)))) M := by
  refine CT.of (cc := b_R_out) (own := "CompatibilityJudgeModel") (by decide) rfl rfl (Nat.le_of_ble_eq_true rfl) ?_
  intro p9 e9 s9 m9 ag9 bl9 mt9 c9 K
  show XW p9 l e9 (rm_R_out) s9 m9 ag9 bl9 mt9 c9 2 0 0 (MQ bl9 (CQ w zN (some (.int (bI (v < 0 ∨ h < v)))) M) ag9 s9 0 0 (fun q : Nat => w.2.2 ≤ q)) w zN M 0 [(0, .int v), (1, .int h)] []
  refine x_iload_n (pc := 0) K 0 d_R_out_0 rfl ?_
  refine x_if_lt (pc := 1) K (tgt := 9) d_R_out_1 (by decide) (fun c1 => ?_) (fun c1 => ?_)
  · skip
    refine x_iconst (pc := 9) K (v := 1) d_R_out_9 (by decide) ?_
    refine x_goto (pc := 10) K (tgt := 14) d_R_out_10 (by decide) ?_
    exact x_zret (pc := 14) K (rT (by first | (simp_all; done) | grind)) rfl rfl d_R_out_14
  · skip
    refine x_iload_n (pc := 4) K 0 d_R_out_4 rfl ?_
    refine x_iload_n (pc := 5) K 1 d_R_out_5 rfl ?_
    refine x_icmp_le (pc := 6) K (tgt := 13) d_R_out_6 (by decide) (fun c6 => ?_) (fun c6 => ?_)
    · skip
      refine x_iconst (pc := 13) K (v := 0) d_R_out_13 (by decide) ?_
      exact x_zret (pc := 14) K (rF (by first | (simp_all; done) | grind)) rfl rfl d_R_out_14
    · skip
      refine x_iconst (pc := 9) K (v := 1) d_R_out_9 (by decide) ?_
      refine x_goto (pc := 10) K (tgt := 14) d_R_out_10 (by decide) ?_
      exact x_zret (pc := 14) K (rT (by first | (simp_all; done) | grind)) rfl rfl d_R_out_14
theorem out_in {v h : Int32} {n : Nat} (hn : n < 2 ^ 31) (e : h + 1 = nI n) (h1 : h = nI (n - 1)) (h0 : 0 < n) : ¬ (v < 0 ∨ h < v) ↔ (¬ v < 0 ∧ ¬ nI n ≤ v) := by
  subst h1
  constructor
  · intro q
    refine ⟨fun z => q (Or.inl z), fun z => ?_⟩
    rcases pk_ix v (n := n) hn with c | c | ⟨j, hj, rfl⟩
    · exact q (Or.inl c)
    · refine q (Or.inr ?_)
      rw [Int32.lt_iff_toInt_lt, nI_toInt (by omega)]
      rw [Int32.le_iff_toInt_le, nI_toInt hn] at c
      omega
    · exact absurd z (nI_ge hj hn)
  · rintro ⟨q1, q2⟩ (z | z)
    · exact q1 z
    · refine q2 ?_
      rw [Int32.lt_iff_toInt_lt, nI_toInt (by omega)] at z
      rw [Int32.le_iff_toInt_le, nI_toInt hn]
      omega
abbrev badT (b t : Int32) : Prop := (b < 0 ∨ (1 : Int32) < b) ∨ (t < 0 ∨ (11 : Int32) < t)
set_option maxHeartbeats 4000000 in
set_option maxRecDepth 100000 in
theorem c_R_bad (l : Launch) (w : fl_W) (M : fl_M) (b t : Int32) : CT l y_R_bad w_R_bad rm_R_bad w zN [.int b, .int t] M (some (.int (bI (badT b t)))) M := by
  refine CT.of (cc := b_R_bad) (own := "CompatibilityJudgeModel") (by decide) rfl rfl (Nat.le_of_ble_eq_true rfl) ?_
  intro p9 e9 s9 m9 ag9 bl9 mt9 c9 K
  show XW p9 l e9 (rm_R_bad) s9 m9 ag9 bl9 mt9 c9 2 0 0 (MQ bl9 (CQ w zN (some (.int (bI (badT b t)))) M) ag9 s9 0 0 (fun q : Nat => w.2.2 ≤ q)) w zN M 0 [(0, .int b), (1, .int t)] []
  refine x_iload_n (pc := 0) K 0 d_R_bad_0 rfl ?_
  refine x_iconst (pc := 1) K (v := 1) d_R_bad_1 (by decide) ?_
  refine x_callS (pc := 2) K (As := [.int b, .int 1]) (rest := []) (c_R_out l w M b 1) (zcwS K.ts lk_R_59 sm_R_out ii_R co_R_out pd_R_out ⟨rfl, rfl⟩ ⟨by decide, by decide⟩) rfl rfl (Nat.le_of_ble_eq_true rfl) ⟨Nat.zero_le _, Nat.zero_le _⟩ d_R_bad_2 ?_
  refine x_ifneB (pc := 5) K (tgt := 17) d_R_bad_5 (by decide) (fun c5 => ?_) (fun c5 => ?_)
  · skip
    refine x_iconst (pc := 17) K (v := 1) d_R_bad_17 (by decide) ?_
    refine x_goto (pc := 18) K (tgt := 22) d_R_bad_18 (by decide) ?_
    exact x_zret (pc := 22) K (rT (by unfold badT; grind)) rfl rfl d_R_bad_22
  · skip
    refine x_iload_n (pc := 8) K 1 d_R_bad_8 rfl ?_
    refine x_bipush (pc := 9) K (v := 11) d_R_bad_9 (by decide) ?_
    refine x_callS (pc := 11) K (As := [.int t, .int 11]) (rest := []) (c_R_out l w M t 11) (zcwS K.ts lk_R_59 sm_R_out ii_R co_R_out pd_R_out ⟨rfl, rfl⟩ ⟨by decide, by decide⟩) rfl rfl (Nat.le_of_ble_eq_true rfl) ⟨Nat.zero_le _, Nat.zero_le _⟩ d_R_bad_11 ?_
    refine x_ifeqB (pc := 14) K (tgt := 21) d_R_bad_14 (by decide) (fun c14 => ?_) (fun c14 => ?_)
    · skip
      refine x_iconst (pc := 21) K (v := 0) d_R_bad_21 (by decide) ?_
      exact x_zret (pc := 22) K (rF (by unfold badT; grind)) rfl rfl d_R_bad_22
    · skip
      refine x_iconst (pc := 17) K (v := 1) d_R_bad_17 (by decide) ?_
      refine x_goto (pc := 18) K (tgt := 22) d_R_bad_18 (by decide) ?_
      exact x_zret (pc := 22) K (rT (by unfold badT; grind)) rfl rfl d_R_bad_22
theorem badT_iff {b t : Int32} : ¬ badT b t ↔ okT b t := by
  unfold badT okT
  rw [show ((2 : Int32)) = nI 2 from by decide, show ((12 : Int32)) = nI 12 from by decide, ← out_in (h := 1) (n := 2) (by omega) (by decide) (by decide) (by omega), ← out_in (h := 11) (n := 12) (by omega) (by decide) (by decide) (by omega)]
  exact ⟨fun q => ⟨fun z => q (Or.inl z), fun z => q (Or.inr z)⟩, fun q z => z.elim q.1 q.2⟩
theorem okT_ix {b t : Int32} (h : okT b t) : (b = nI (ix b) ∧ ix b < 2) ∧ (t = nI (ix t) ∧ ix t < 12) := ⟨ix_of 2 (by omega) h.1.1 h.1.2, ix_of 12 (by omega) h.2.1 h.2.2⟩
abbrev bdK (k q : Int32) : Prop := (k < 0 ∨ (2 : Int32) < k) ∨ (q < 0 ∨ (if k = 0 then (63 : Int32) else if k = 1 then 511 else 7) < q)
set_option maxHeartbeats 4000000 in
set_option maxRecDepth 100000 in
theorem c_R_badKey (l : Launch) (w : fl_W) (M : fl_M) (k q : Int32) : CT l y_R_badKey w_R_badKey rm_R_badKey w zN [.int k, .int q] M (some (.int (bI (bdK k q)))) M := by
  refine CT.of (cc := b_R_badKey) (own := "CompatibilityJudgeModel") (by decide) rfl rfl (Nat.le_of_ble_eq_true rfl) ?_
  intro p9 e9 s9 m9 ag9 bl9 mt9 c9 K
  show XW p9 l e9 (rm_R_badKey) s9 m9 ag9 bl9 mt9 c9 2 0 0 (MQ bl9 (CQ w zN (some (.int (bI (bdK k q)))) M) ag9 s9 0 0 (fun q : Nat => w.2.2 ≤ q)) w zN M 0 [(0, .int k), (1, .int q)] []
  refine x_iload_n (pc := 0) K 0 d_R_badKey_0 rfl ?_
  refine x_iconst (pc := 1) K (v := 2) d_R_badKey_1 (by decide) ?_
  refine x_callS (pc := 2) K (As := [.int k, .int 2]) (rest := []) (c_R_out l w M k 2) (zcwS K.ts lk_R_59 sm_R_out ii_R co_R_out pd_R_out ⟨rfl, rfl⟩ ⟨by decide, by decide⟩) rfl rfl (Nat.le_of_ble_eq_true rfl) ⟨Nat.zero_le _, Nat.zero_le _⟩ d_R_badKey_2 ?_
  refine x_ifneB (pc := 5) K (tgt := 37) d_R_badKey_5 (by decide) (fun c5 => ?_) (fun c5 => ?_)
  · skip
    refine x_iconst (pc := 37) K (v := 1) d_R_badKey_37 (by decide) ?_
    refine x_goto (pc := 38) K (tgt := 42) d_R_badKey_38 (by decide) ?_
    exact x_zret (pc := 42) K (rT (by unfold bdK; simp_all)) rfl rfl d_R_badKey_42
  · skip
    refine x_iload_n (pc := 8) K 1 d_R_badKey_8 rfl ?_
    refine x_iload_n (pc := 9) K 0 d_R_badKey_9 rfl ?_
    refine x_if_ne (pc := 10) K (tgt := 18) d_R_badKey_10 (by decide) (fun c10 => ?_) (fun c10 => ?_)
    · skip
      refine x_iload_n (pc := 18) K 0 d_R_badKey_18 rfl ?_
      refine x_iconst (pc := 19) K (v := 1) d_R_badKey_19 (by decide) ?_
      refine x_icmp_ne (pc := 20) K (tgt := 29) d_R_badKey_20 (by decide) (fun c20 => ?_) (fun c20 => ?_)
      · skip
        refine x_bipush (pc := 29) K (v := 7) d_R_badKey_29 (by decide) ?_
        refine x_callS (pc := 31) K (As := [.int q, .int 7]) (rest := []) (c_R_out l w M q 7) (zcwS K.ts lk_R_59 sm_R_out ii_R co_R_out pd_R_out ⟨rfl, rfl⟩ ⟨by decide, by decide⟩) rfl rfl (Nat.le_of_ble_eq_true rfl) ⟨Nat.zero_le _, Nat.zero_le _⟩ d_R_badKey_31 ?_
        refine x_ifeqB (pc := 34) K (tgt := 41) d_R_badKey_34 (by decide) (fun c34 => ?_) (fun c34 => ?_)
        · skip
          refine x_iconst (pc := 41) K (v := 0) d_R_badKey_41 (by decide) ?_
          exact x_zret (pc := 42) K (rF (by unfold bdK; simp_all)) rfl rfl d_R_badKey_42
        · skip
          refine x_iconst (pc := 37) K (v := 1) d_R_badKey_37 (by decide) ?_
          refine x_goto (pc := 38) K (tgt := 42) d_R_badKey_38 (by decide) ?_
          exact x_zret (pc := 42) K (rT (by unfold bdK; simp_all)) rfl rfl d_R_badKey_42
      · skip
        refine x_sipush (pc := 23) K (v := 511) d_R_badKey_23 (by decide) ?_
        refine x_goto (pc := 26) K (tgt := 31) d_R_badKey_26 (by decide) ?_
        refine x_callS (pc := 31) K (As := [.int q, .int 511]) (rest := []) (c_R_out l w M q 511) (zcwS K.ts lk_R_59 sm_R_out ii_R co_R_out pd_R_out ⟨rfl, rfl⟩ ⟨by decide, by decide⟩) rfl rfl (Nat.le_of_ble_eq_true rfl) ⟨Nat.zero_le _, Nat.zero_le _⟩ d_R_badKey_31 ?_
        refine x_ifeqB (pc := 34) K (tgt := 41) d_R_badKey_34 (by decide) (fun c34 => ?_) (fun c34 => ?_)
        · skip
          refine x_iconst (pc := 41) K (v := 0) d_R_badKey_41 (by decide) ?_
          exact x_zret (pc := 42) K (rF (by unfold bdK; simp_all)) rfl rfl d_R_badKey_42
        · skip
          refine x_iconst (pc := 37) K (v := 1) d_R_badKey_37 (by decide) ?_
          refine x_goto (pc := 38) K (tgt := 42) d_R_badKey_38 (by decide) ?_
          exact x_zret (pc := 42) K (rT (by unfold bdK; simp_all)) rfl rfl d_R_badKey_42
    · skip
      refine x_bipush (pc := 13) K (v := 63) d_R_badKey_13 (by decide) ?_
      refine x_goto (pc := 15) K (tgt := 31) d_R_badKey_15 (by decide) ?_
      refine x_callS (pc := 31) K (As := [.int q, .int 63]) (rest := []) (c_R_out l w M q 63) (zcwS K.ts lk_R_59 sm_R_out ii_R co_R_out pd_R_out ⟨rfl, rfl⟩ ⟨by decide, by decide⟩) rfl rfl (Nat.le_of_ble_eq_true rfl) ⟨Nat.zero_le _, Nat.zero_le _⟩ d_R_badKey_31 ?_
      refine x_ifeqB (pc := 34) K (tgt := 41) d_R_badKey_34 (by decide) (fun c34 => ?_) (fun c34 => ?_)
      · skip
        refine x_iconst (pc := 41) K (v := 0) d_R_badKey_41 (by decide) ?_
        exact x_zret (pc := 42) K (rF (by unfold bdK; simp_all)) rfl rfl d_R_badKey_42
      · skip
        refine x_iconst (pc := 37) K (v := 1) d_R_badKey_37 (by decide) ?_
        refine x_goto (pc := 38) K (tgt := 42) d_R_badKey_38 (by decide) ?_
        exact x_zret (pc := 42) K (rT (by unfold bdK; simp_all)) rfl rfl d_R_badKey_42
set_option maxHeartbeats 4000000 in
set_option maxRecDepth 100000 in
theorem c_R_has (l : Launch) (w : fl_W) (M : fl_M) (f b : Int32) : CT l y_R_has w_R_has rm_R_has w zN [.int f, .int b] M (some (.int (bI (¬ f &&& b = 0)))) M := by
  refine CT.of (cc := b_R_has) (own := "CompatibilityJudgeModel") (by decide) rfl rfl (Nat.le_of_ble_eq_true rfl) ?_
  intro p9 e9 s9 m9 ag9 bl9 mt9 c9 K
  show XW p9 l e9 (rm_R_has) s9 m9 ag9 bl9 mt9 c9 2 0 0 (MQ bl9 (CQ w zN (some (.int (bI (¬ f &&& b = 0)))) M) ag9 s9 0 0 (fun q : Nat => w.2.2 ≤ q)) w zN M 0 [(0, .int f), (1, .int b)] []
  refine x_iload_n (pc := 0) K 0 d_R_has_0 rfl ?_
  refine x_iload_n (pc := 1) K 1 d_R_has_1 rfl ?_
  refine x_iand (pc := 2) K d_R_has_2 ?_
  refine x_if_eq (pc := 3) K (tgt := 10) d_R_has_3 (by decide) (fun c3 => ?_) (fun c3 => ?_)
  · skip
    refine x_iconst (pc := 10) K (v := 0) d_R_has_10 (by decide) ?_
    exact x_zret (pc := 11) K (rF (by simp_all)) rfl rfl d_R_has_11
  · skip
    refine x_iconst (pc := 6) K (v := 1) d_R_has_6 (by decide) ?_
    refine x_goto (pc := 7) K (tgt := 11) d_R_has_7 (by decide) ?_
    exact x_zret (pc := 11) K (rT (by simp_all)) rfl rfl d_R_has_11
abbrev bdF (z k f : Int32) : Prop := (¬ k = 1 ∧ ¬ f &&& 16 = 0) ∨ (k = 2 ∧ ¬ f &&& 12 = 0) ∨ (¬ f &&& 16 = 0 ∧ (f &&& 3 = 0 ∨ ¬ f &&& 12 = 0)) ∨ (¬ z = 0 ∧ (k = 2 ∨ (k = 0 ∧ ¬ f = 15) ∨ (k = 1 ∧ (¬ f &&& 8 = 0 ∨ f &&& 3 = 1 ∨ f &&& 3 = 2))))
set_option maxHeartbeats 4000000 in
set_option maxRecDepth 100000 in
theorem c_R_badFlags (l : Launch) (w : fl_W) (M : fl_M) (z k f : Int32) : CT l y_R_badFlags w_R_badFlags rm_R_badFlags w zN [.int z, .int k, .int f] M (some (.int (bI (bdF z k f)))) M := by
  refine CT.of (cc := b_R_badFlags) (own := "CompatibilityJudgeModel") (by decide) rfl rfl (Nat.le_of_ble_eq_true rfl) ?_
  intro p9 e9 s9 m9 ag9 bl9 mt9 c9 K
  show XW p9 l e9 (rm_R_badFlags) s9 m9 ag9 bl9 mt9 c9 4 0 0 (MQ bl9 (CQ w zN (some (.int (bI (bdF z k f)))) M) ag9 s9 0 0 (fun q : Nat => w.2.2 ≤ q)) w zN M 0 [(0, .int z), (1, .int k), (2, .int f)] []
  refine x_iload_n (pc := 0) K 1 d_R_badFlags_0 rfl ?_
  refine x_iconst (pc := 1) K (v := 1) d_R_badFlags_1 (by decide) ?_
  refine x_icmp_eq (pc := 2) K (tgt := 14) d_R_badFlags_2 (by decide) (fun c2 => ?_) (fun c2 => ?_)
  · skip
    refine x_iload_n (pc := 14) K 1 d_R_badFlags_14 rfl ?_
    refine x_iconst (pc := 15) K (v := 2) d_R_badFlags_15 (by decide) ?_
    refine x_icmp_ne (pc := 16) K (tgt := 30) d_R_badFlags_16 (by decide) (fun c16 => ?_) (fun c16 => ?_)
    · skip
      refine x_iload_n (pc := 30) K 2 d_R_badFlags_30 rfl ?_
      refine x_bipush (pc := 31) K (v := 16) d_R_badFlags_31 (by decide) ?_
      refine x_callS (pc := 33) K (As := [.int f, .int 16]) (rest := []) (c_R_has l w M f 16) (zcwS K.ts lk_R_66 sm_R_has ii_R co_R_has pd_R_has ⟨rfl, rfl⟩ ⟨by decide, by decide⟩) rfl rfl (Nat.le_of_ble_eq_true rfl) ⟨Nat.zero_le _, Nat.zero_le _⟩ d_R_badFlags_33 ?_
      refine x_ifeqB (pc := 36) K (tgt := 56) d_R_badFlags_36 (by decide) (fun c36 => ?_) (fun c36 => ?_)
      · skip
        refine x_iload_n (pc := 56) K 0 d_R_badFlags_56 rfl ?_
        refine x_if_ne (pc := 57) K (tgt := 62) d_R_badFlags_57 (by decide) (fun c57 => ?_) (fun c57 => ?_)
        · skip
          refine x_iload_n (pc := 62) K 2 d_R_badFlags_62 rfl ?_
          refine x_iconst (pc := 63) K (v := 3) d_R_badFlags_63 (by decide) ?_
          refine x_iand (pc := 64) K d_R_badFlags_64 ?_
          refine x_istore_n (pc := 65) K (lv' := [(3, .int (f &&& 3)), (0, .int z), (1, .int k), (2, .int f)]) d_R_badFlags_65 (by decide) rfl ?_
          refine x_iload_n (pc := 66) K 2 d_R_badFlags_66 rfl ?_
          refine x_iconst (pc := 67) K (v := 2) d_R_badFlags_67 (by decide) ?_
          refine x_icmp_eq (pc := 68) K (tgt := 105) d_R_badFlags_68 (by decide) (fun c68 => ?_) (fun c68 => ?_)
          · skip
            refine x_iconst (pc := 105) K (v := 1) d_R_badFlags_105 (by decide) ?_
            refine x_goto (pc := 106) K (tgt := 110) d_R_badFlags_106 (by decide) ?_
            exact x_zret (pc := 110) K (rT (by unfold bdF; first | (simp_all; done) | grind)) rfl rfl d_R_badFlags_110
          · skip
            refine x_iload_n (pc := 71) K 2 d_R_badFlags_71 rfl ?_
            refine x_if_ne (pc := 72) K (tgt := 81) d_R_badFlags_72 (by decide) (fun c72 => ?_) (fun c72 => ?_)
            · skip
              refine x_iload_n (pc := 81) K 2 d_R_badFlags_81 rfl ?_
              refine x_iconst (pc := 82) K (v := 1) d_R_badFlags_82 (by decide) ?_
              refine x_icmp_ne (pc := 83) K (tgt := 109) d_R_badFlags_83 (by decide) (fun c83 => ?_) (fun c83 => ?_)
              · skip
                refine x_iconst (pc := 109) K (v := 0) d_R_badFlags_109 (by decide) ?_
                exact x_zret (pc := 110) K (rF (by unfold bdF; first | (simp_all; done) | grind)) rfl rfl d_R_badFlags_110
              · skip
                refine x_iload_n (pc := 86) K 3 d_R_badFlags_86 rfl ?_
                refine x_bipush (pc := 87) K (v := 8) d_R_badFlags_87 (by decide) ?_
                refine x_callS (pc := 89) K (As := [.int f, .int 8]) (rest := []) (c_R_has l w M f 8) (zcwS K.ts lk_R_66 sm_R_has ii_R co_R_has pd_R_has ⟨rfl, rfl⟩ ⟨by decide, by decide⟩) rfl rfl (Nat.le_of_ble_eq_true rfl) ⟨Nat.zero_le _, Nat.zero_le _⟩ d_R_badFlags_89 ?_
                refine x_ifneB (pc := 92) K (tgt := 105) d_R_badFlags_92 (by decide) (fun c92 => ?_) (fun c92 => ?_)
                · skip
                  refine x_iconst (pc := 105) K (v := 1) d_R_badFlags_105 (by decide) ?_
                  refine x_goto (pc := 106) K (tgt := 110) d_R_badFlags_106 (by decide) ?_
                  exact x_zret (pc := 110) K (rT (by unfold bdF; first | (simp_all; done) | grind)) rfl rfl d_R_badFlags_110
                · skip
                  refine x_iload_n (pc := 95) K 0 d_R_badFlags_95 rfl ?_
                  refine x_iconst (pc := 96) K (v := 1) d_R_badFlags_96 (by decide) ?_
                  refine x_icmp_eq (pc := 97) K (tgt := 105) d_R_badFlags_97 (by decide) (fun c97 => ?_) (fun c97 => ?_)
                  · skip
                    refine x_iconst (pc := 105) K (v := 1) d_R_badFlags_105 (by decide) ?_
                    refine x_goto (pc := 106) K (tgt := 110) d_R_badFlags_106 (by decide) ?_
                    exact x_zret (pc := 110) K (rT (by unfold bdF; first | (simp_all; done) | grind)) rfl rfl d_R_badFlags_110
                  · skip
                    refine x_iload_n (pc := 100) K 0 d_R_badFlags_100 rfl ?_
                    refine x_iconst (pc := 101) K (v := 2) d_R_badFlags_101 (by decide) ?_
                    refine x_icmp_ne (pc := 102) K (tgt := 109) d_R_badFlags_102 (by decide) (fun c102 => ?_) (fun c102 => ?_)
                    · skip
                      refine x_iconst (pc := 109) K (v := 0) d_R_badFlags_109 (by decide) ?_
                      exact x_zret (pc := 110) K (rF (by unfold bdF; first | (simp_all; done) | grind)) rfl rfl d_R_badFlags_110
                    · skip
                      refine x_iconst (pc := 105) K (v := 1) d_R_badFlags_105 (by decide) ?_
                      refine x_goto (pc := 106) K (tgt := 110) d_R_badFlags_106 (by decide) ?_
                      exact x_zret (pc := 110) K (rT (by unfold bdF; first | (simp_all; done) | grind)) rfl rfl d_R_badFlags_110
            · skip
              refine x_iload_n (pc := 75) K 3 d_R_badFlags_75 rfl ?_
              refine x_bipush (pc := 76) K (v := 15) d_R_badFlags_76 (by decide) ?_
              refine x_icmp_ne (pc := 78) K (tgt := 105) d_R_badFlags_78 (by decide) (fun c78 => ?_) (fun c78 => ?_)
              · skip
                refine x_iconst (pc := 105) K (v := 1) d_R_badFlags_105 (by decide) ?_
                refine x_goto (pc := 106) K (tgt := 110) d_R_badFlags_106 (by decide) ?_
                exact x_zret (pc := 110) K (rT (by unfold bdF; first | (simp_all; done) | grind)) rfl rfl d_R_badFlags_110
              · skip
                refine x_iload_n (pc := 81) K 2 d_R_badFlags_81 rfl ?_
                refine x_iconst (pc := 82) K (v := 1) d_R_badFlags_82 (by decide) ?_
                refine x_icmp_ne (pc := 83) K (tgt := 109) d_R_badFlags_83 (by decide) (fun c83 => ?_) (fun c83 => ?_)
                · skip
                  refine x_iconst (pc := 109) K (v := 0) d_R_badFlags_109 (by decide) ?_
                  exact x_zret (pc := 110) K (rF (by unfold bdF; first | (simp_all; done) | grind)) rfl rfl d_R_badFlags_110
                · skip
                  refine x_iload_n (pc := 86) K 3 d_R_badFlags_86 rfl ?_
                  refine x_bipush (pc := 87) K (v := 8) d_R_badFlags_87 (by decide) ?_
                  refine x_callS (pc := 89) K (As := [.int f, .int 8]) (rest := []) (c_R_has l w M f 8) (zcwS K.ts lk_R_66 sm_R_has ii_R co_R_has pd_R_has ⟨rfl, rfl⟩ ⟨by decide, by decide⟩) rfl rfl (Nat.le_of_ble_eq_true rfl) ⟨Nat.zero_le _, Nat.zero_le _⟩ d_R_badFlags_89 ?_
                  refine x_ifneB (pc := 92) K (tgt := 105) d_R_badFlags_92 (by decide) (fun c92 => ?_) (fun c92 => ?_)
                  · skip
                    refine x_iconst (pc := 105) K (v := 1) d_R_badFlags_105 (by decide) ?_
                    refine x_goto (pc := 106) K (tgt := 110) d_R_badFlags_106 (by decide) ?_
                    exact x_zret (pc := 110) K (rT (by unfold bdF; first | (simp_all; done) | grind)) rfl rfl d_R_badFlags_110
                  · skip
                    refine x_iload_n (pc := 95) K 0 d_R_badFlags_95 rfl ?_
                    refine x_iconst (pc := 96) K (v := 1) d_R_badFlags_96 (by decide) ?_
                    refine x_icmp_eq (pc := 97) K (tgt := 105) d_R_badFlags_97 (by decide) (fun c97 => ?_) (fun c97 => ?_)
                    · skip
                      refine x_iconst (pc := 105) K (v := 1) d_R_badFlags_105 (by decide) ?_
                      refine x_goto (pc := 106) K (tgt := 110) d_R_badFlags_106 (by decide) ?_
                      exact x_zret (pc := 110) K (rT (by unfold bdF; first | (simp_all; done) | grind)) rfl rfl d_R_badFlags_110
                    · skip
                      refine x_iload_n (pc := 100) K 0 d_R_badFlags_100 rfl ?_
                      refine x_iconst (pc := 101) K (v := 2) d_R_badFlags_101 (by decide) ?_
                      refine x_icmp_ne (pc := 102) K (tgt := 109) d_R_badFlags_102 (by decide) (fun c102 => ?_) (fun c102 => ?_)
                      · skip
                        refine x_iconst (pc := 109) K (v := 0) d_R_badFlags_109 (by decide) ?_
                        exact x_zret (pc := 110) K (rF (by unfold bdF; first | (simp_all; done) | grind)) rfl rfl d_R_badFlags_110
                      · skip
                        refine x_iconst (pc := 105) K (v := 1) d_R_badFlags_105 (by decide) ?_
                        refine x_goto (pc := 106) K (tgt := 110) d_R_badFlags_106 (by decide) ?_
                        exact x_zret (pc := 110) K (rT (by unfold bdF; first | (simp_all; done) | grind)) rfl rfl d_R_badFlags_110
        · skip
          refine x_iconst (pc := 60) K (v := 0) d_R_badFlags_60 (by decide) ?_
          exact x_zret (pc := 61) K (rF (by unfold bdF; first | (simp_all; done) | grind)) rfl rfl d_R_badFlags_61
      · skip
        refine x_iload_n (pc := 39) K 2 d_R_badFlags_39 rfl ?_
        refine x_iconst (pc := 40) K (v := 3) d_R_badFlags_40 (by decide) ?_
        refine x_iand (pc := 41) K d_R_badFlags_41 ?_
        refine x_if_eq (pc := 42) K (tgt := 54) d_R_badFlags_42 (by decide) (fun c42 => ?_) (fun c42 => ?_)
        · skip
          refine x_iconst (pc := 54) K (v := 1) d_R_badFlags_54 (by decide) ?_
          exact x_zret (pc := 55) K (rT (by unfold bdF; first | (simp_all; done) | grind)) rfl rfl d_R_badFlags_55
        · skip
          refine x_iload_n (pc := 45) K 2 d_R_badFlags_45 rfl ?_
          refine x_bipush (pc := 46) K (v := 12) d_R_badFlags_46 (by decide) ?_
          refine x_callS (pc := 48) K (As := [.int f, .int 12]) (rest := []) (c_R_has l w M f 12) (zcwS K.ts lk_R_66 sm_R_has ii_R co_R_has pd_R_has ⟨rfl, rfl⟩ ⟨by decide, by decide⟩) rfl rfl (Nat.le_of_ble_eq_true rfl) ⟨Nat.zero_le _, Nat.zero_le _⟩ d_R_badFlags_48 ?_
          refine x_ifeqB (pc := 51) K (tgt := 56) d_R_badFlags_51 (by decide) (fun c51 => ?_) (fun c51 => ?_)
          · skip
            refine x_iload_n (pc := 56) K 0 d_R_badFlags_56 rfl ?_
            refine x_if_ne (pc := 57) K (tgt := 62) d_R_badFlags_57 (by decide) (fun c57 => ?_) (fun c57 => ?_)
            · skip
              refine x_iload_n (pc := 62) K 2 d_R_badFlags_62 rfl ?_
              refine x_iconst (pc := 63) K (v := 3) d_R_badFlags_63 (by decide) ?_
              refine x_iand (pc := 64) K d_R_badFlags_64 ?_
              refine x_istore_n (pc := 65) K (lv' := [(3, .int (f &&& 3)), (0, .int z), (1, .int k), (2, .int f)]) d_R_badFlags_65 (by decide) rfl ?_
              refine x_iload_n (pc := 66) K 2 d_R_badFlags_66 rfl ?_
              refine x_iconst (pc := 67) K (v := 2) d_R_badFlags_67 (by decide) ?_
              refine x_icmp_eq (pc := 68) K (tgt := 105) d_R_badFlags_68 (by decide) (fun c68 => ?_) (fun c68 => ?_)
              · skip
                refine x_iconst (pc := 105) K (v := 1) d_R_badFlags_105 (by decide) ?_
                refine x_goto (pc := 106) K (tgt := 110) d_R_badFlags_106 (by decide) ?_
                exact x_zret (pc := 110) K (rT (by unfold bdF; first | (simp_all; done) | grind)) rfl rfl d_R_badFlags_110
              · skip
                refine x_iload_n (pc := 71) K 2 d_R_badFlags_71 rfl ?_
                refine x_if_ne (pc := 72) K (tgt := 81) d_R_badFlags_72 (by decide) (fun c72 => ?_) (fun c72 => ?_)
                · skip
                  refine x_iload_n (pc := 81) K 2 d_R_badFlags_81 rfl ?_
                  refine x_iconst (pc := 82) K (v := 1) d_R_badFlags_82 (by decide) ?_
                  refine x_icmp_ne (pc := 83) K (tgt := 109) d_R_badFlags_83 (by decide) (fun c83 => ?_) (fun c83 => ?_)
                  · skip
                    refine x_iconst (pc := 109) K (v := 0) d_R_badFlags_109 (by decide) ?_
                    exact x_zret (pc := 110) K (rF (by unfold bdF; first | (simp_all; done) | grind)) rfl rfl d_R_badFlags_110
                  · skip
                    refine x_iload_n (pc := 86) K 3 d_R_badFlags_86 rfl ?_
                    refine x_bipush (pc := 87) K (v := 8) d_R_badFlags_87 (by decide) ?_
                    refine x_callS (pc := 89) K (As := [.int f, .int 8]) (rest := []) (c_R_has l w M f 8) (zcwS K.ts lk_R_66 sm_R_has ii_R co_R_has pd_R_has ⟨rfl, rfl⟩ ⟨by decide, by decide⟩) rfl rfl (Nat.le_of_ble_eq_true rfl) ⟨Nat.zero_le _, Nat.zero_le _⟩ d_R_badFlags_89 ?_
                    refine x_ifneB (pc := 92) K (tgt := 105) d_R_badFlags_92 (by decide) (fun c92 => ?_) (fun c92 => ?_)
                    · skip
                      refine x_iconst (pc := 105) K (v := 1) d_R_badFlags_105 (by decide) ?_
                      refine x_goto (pc := 106) K (tgt := 110) d_R_badFlags_106 (by decide) ?_
                      exact x_zret (pc := 110) K (rT (by unfold bdF; first | (simp_all; done) | grind)) rfl rfl d_R_badFlags_110
                    · skip
                      refine x_iload_n (pc := 95) K 0 d_R_badFlags_95 rfl ?_
                      refine x_iconst (pc := 96) K (v := 1) d_R_badFlags_96 (by decide) ?_
                      refine x_icmp_eq (pc := 97) K (tgt := 105) d_R_badFlags_97 (by decide) (fun c97 => ?_) (fun c97 => ?_)
                      · skip
                        refine x_iconst (pc := 105) K (v := 1) d_R_badFlags_105 (by decide) ?_
                        refine x_goto (pc := 106) K (tgt := 110) d_R_badFlags_106 (by decide) ?_
                        exact x_zret (pc := 110) K (rT (by unfold bdF; first | (simp_all; done) | grind)) rfl rfl d_R_badFlags_110
                      · skip
                        refine x_iload_n (pc := 100) K 0 d_R_badFlags_100 rfl ?_
                        refine x_iconst (pc := 101) K (v := 2) d_R_badFlags_101 (by decide) ?_
                        refine x_icmp_ne (pc := 102) K (tgt := 109) d_R_badFlags_102 (by decide) (fun c102 => ?_) (fun c102 => ?_)
                        · skip
                          refine x_iconst (pc := 109) K (v := 0) d_R_badFlags_109 (by decide) ?_
                          exact x_zret (pc := 110) K (rF (by unfold bdF; first | (simp_all; done) | grind)) rfl rfl d_R_badFlags_110
                        · skip
                          refine x_iconst (pc := 105) K (v := 1) d_R_badFlags_105 (by decide) ?_
                          refine x_goto (pc := 106) K (tgt := 110) d_R_badFlags_106 (by decide) ?_
                          exact x_zret (pc := 110) K (rT (by unfold bdF; first | (simp_all; done) | grind)) rfl rfl d_R_badFlags_110
                · skip
                  refine x_iload_n (pc := 75) K 3 d_R_badFlags_75 rfl ?_
                  refine x_bipush (pc := 76) K (v := 15) d_R_badFlags_76 (by decide) ?_
                  refine x_icmp_ne (pc := 78) K (tgt := 105) d_R_badFlags_78 (by decide) (fun c78 => ?_) (fun c78 => ?_)
                  · skip
                    refine x_iconst (pc := 105) K (v := 1) d_R_badFlags_105 (by decide) ?_
                    refine x_goto (pc := 106) K (tgt := 110) d_R_badFlags_106 (by decide) ?_
                    exact x_zret (pc := 110) K (rT (by unfold bdF; first | (simp_all; done) | grind)) rfl rfl d_R_badFlags_110
                  · skip
                    refine x_iload_n (pc := 81) K 2 d_R_badFlags_81 rfl ?_
                    refine x_iconst (pc := 82) K (v := 1) d_R_badFlags_82 (by decide) ?_
                    refine x_icmp_ne (pc := 83) K (tgt := 109) d_R_badFlags_83 (by decide) (fun c83 => ?_) (fun c83 => ?_)
                    · skip
                      refine x_iconst (pc := 109) K (v := 0) d_R_badFlags_109 (by decide) ?_
                      exact x_zret (pc := 110) K (rF (by unfold bdF; first | (simp_all; done) | grind)) rfl rfl d_R_badFlags_110
                    · skip
                      refine x_iload_n (pc := 86) K 3 d_R_badFlags_86 rfl ?_
                      refine x_bipush (pc := 87) K (v := 8) d_R_badFlags_87 (by decide) ?_
                      refine x_callS (pc := 89) K (As := [.int f, .int 8]) (rest := []) (c_R_has l w M f 8) (zcwS K.ts lk_R_66 sm_R_has ii_R co_R_has pd_R_has ⟨rfl, rfl⟩ ⟨by decide, by decide⟩) rfl rfl (Nat.le_of_ble_eq_true rfl) ⟨Nat.zero_le _, Nat.zero_le _⟩ d_R_badFlags_89 ?_
                      refine x_ifneB (pc := 92) K (tgt := 105) d_R_badFlags_92 (by decide) (fun c92 => ?_) (fun c92 => ?_)
                      · skip
                        refine x_iconst (pc := 105) K (v := 1) d_R_badFlags_105 (by decide) ?_
                        refine x_goto (pc := 106) K (tgt := 110) d_R_badFlags_106 (by decide) ?_
                        exact x_zret (pc := 110) K (rT (by unfold bdF; first | (simp_all; done) | grind)) rfl rfl d_R_badFlags_110
                      · skip
                        refine x_iload_n (pc := 95) K 0 d_R_badFlags_95 rfl ?_
                        refine x_iconst (pc := 96) K (v := 1) d_R_badFlags_96 (by decide) ?_
                        refine x_icmp_eq (pc := 97) K (tgt := 105) d_R_badFlags_97 (by decide) (fun c97 => ?_) (fun c97 => ?_)
                        · skip
                          refine x_iconst (pc := 105) K (v := 1) d_R_badFlags_105 (by decide) ?_
                          refine x_goto (pc := 106) K (tgt := 110) d_R_badFlags_106 (by decide) ?_
                          exact x_zret (pc := 110) K (rT (by unfold bdF; first | (simp_all; done) | grind)) rfl rfl d_R_badFlags_110
                        · skip
                          refine x_iload_n (pc := 100) K 0 d_R_badFlags_100 rfl ?_
                          refine x_iconst (pc := 101) K (v := 2) d_R_badFlags_101 (by decide) ?_
                          refine x_icmp_ne (pc := 102) K (tgt := 109) d_R_badFlags_102 (by decide) (fun c102 => ?_) (fun c102 => ?_)
                          · skip
                            refine x_iconst (pc := 109) K (v := 0) d_R_badFlags_109 (by decide) ?_
                            exact x_zret (pc := 110) K (rF (by unfold bdF; first | (simp_all; done) | grind)) rfl rfl d_R_badFlags_110
                          · skip
                            refine x_iconst (pc := 105) K (v := 1) d_R_badFlags_105 (by decide) ?_
                            refine x_goto (pc := 106) K (tgt := 110) d_R_badFlags_106 (by decide) ?_
                            exact x_zret (pc := 110) K (rT (by unfold bdF; first | (simp_all; done) | grind)) rfl rfl d_R_badFlags_110
            · skip
              refine x_iconst (pc := 60) K (v := 0) d_R_badFlags_60 (by decide) ?_
              exact x_zret (pc := 61) K (rF (by unfold bdF; first | (simp_all; done) | grind)) rfl rfl d_R_badFlags_61
          · skip
            refine x_iconst (pc := 54) K (v := 1) d_R_badFlags_54 (by decide) ?_
            exact x_zret (pc := 55) K (rT (by unfold bdF; first | (simp_all; done) | grind)) rfl rfl d_R_badFlags_55
    · skip
      refine x_iload_n (pc := 19) K 2 d_R_badFlags_19 rfl ?_
      refine x_bipush (pc := 20) K (v := 12) d_R_badFlags_20 (by decide) ?_
      refine x_callS (pc := 22) K (As := [.int f, .int 12]) (rest := []) (c_R_has l w M f 12) (zcwS K.ts lk_R_66 sm_R_has ii_R co_R_has pd_R_has ⟨rfl, rfl⟩ ⟨by decide, by decide⟩) rfl rfl (Nat.le_of_ble_eq_true rfl) ⟨Nat.zero_le _, Nat.zero_le _⟩ d_R_badFlags_22 ?_
      refine x_ifeqB (pc := 25) K (tgt := 30) d_R_badFlags_25 (by decide) (fun c25 => ?_) (fun c25 => ?_)
      · skip
        refine x_iload_n (pc := 30) K 2 d_R_badFlags_30 rfl ?_
        refine x_bipush (pc := 31) K (v := 16) d_R_badFlags_31 (by decide) ?_
        refine x_callS (pc := 33) K (As := [.int f, .int 16]) (rest := []) (c_R_has l w M f 16) (zcwS K.ts lk_R_66 sm_R_has ii_R co_R_has pd_R_has ⟨rfl, rfl⟩ ⟨by decide, by decide⟩) rfl rfl (Nat.le_of_ble_eq_true rfl) ⟨Nat.zero_le _, Nat.zero_le _⟩ d_R_badFlags_33 ?_
        refine x_ifeqB (pc := 36) K (tgt := 56) d_R_badFlags_36 (by decide) (fun c36 => ?_) (fun c36 => ?_)
        · skip
          refine x_iload_n (pc := 56) K 0 d_R_badFlags_56 rfl ?_
          refine x_if_ne (pc := 57) K (tgt := 62) d_R_badFlags_57 (by decide) (fun c57 => ?_) (fun c57 => ?_)
          · skip
            refine x_iload_n (pc := 62) K 2 d_R_badFlags_62 rfl ?_
            refine x_iconst (pc := 63) K (v := 3) d_R_badFlags_63 (by decide) ?_
            refine x_iand (pc := 64) K d_R_badFlags_64 ?_
            refine x_istore_n (pc := 65) K (lv' := [(3, .int (f &&& 3)), (0, .int z), (1, .int k), (2, .int f)]) d_R_badFlags_65 (by decide) rfl ?_
            refine x_iload_n (pc := 66) K 2 d_R_badFlags_66 rfl ?_
            refine x_iconst (pc := 67) K (v := 2) d_R_badFlags_67 (by decide) ?_
            refine x_icmp_eq (pc := 68) K (tgt := 105) d_R_badFlags_68 (by decide) (fun c68 => ?_) (fun c68 => ?_)
            · skip
              refine x_iconst (pc := 105) K (v := 1) d_R_badFlags_105 (by decide) ?_
              refine x_goto (pc := 106) K (tgt := 110) d_R_badFlags_106 (by decide) ?_
              exact x_zret (pc := 110) K (rT (by unfold bdF; first | (simp_all; done) | grind)) rfl rfl d_R_badFlags_110
            · skip
              refine x_iload_n (pc := 71) K 2 d_R_badFlags_71 rfl ?_
              refine x_if_ne (pc := 72) K (tgt := 81) d_R_badFlags_72 (by decide) (fun c72 => ?_) (fun c72 => ?_)
              · skip
                refine x_iload_n (pc := 81) K 2 d_R_badFlags_81 rfl ?_
                refine x_iconst (pc := 82) K (v := 1) d_R_badFlags_82 (by decide) ?_
                refine x_icmp_ne (pc := 83) K (tgt := 109) d_R_badFlags_83 (by decide) (fun c83 => ?_) (fun c83 => ?_)
                · skip
                  refine x_iconst (pc := 109) K (v := 0) d_R_badFlags_109 (by decide) ?_
                  exact x_zret (pc := 110) K (rF (by unfold bdF; first | (simp_all; done) | grind)) rfl rfl d_R_badFlags_110
                · skip
                  refine x_iload_n (pc := 86) K 3 d_R_badFlags_86 rfl ?_
                  refine x_bipush (pc := 87) K (v := 8) d_R_badFlags_87 (by decide) ?_
                  refine x_callS (pc := 89) K (As := [.int f, .int 8]) (rest := []) (c_R_has l w M f 8) (zcwS K.ts lk_R_66 sm_R_has ii_R co_R_has pd_R_has ⟨rfl, rfl⟩ ⟨by decide, by decide⟩) rfl rfl (Nat.le_of_ble_eq_true rfl) ⟨Nat.zero_le _, Nat.zero_le _⟩ d_R_badFlags_89 ?_
                  refine x_ifneB (pc := 92) K (tgt := 105) d_R_badFlags_92 (by decide) (fun c92 => ?_) (fun c92 => ?_)
                  · skip
                    refine x_iconst (pc := 105) K (v := 1) d_R_badFlags_105 (by decide) ?_
                    refine x_goto (pc := 106) K (tgt := 110) d_R_badFlags_106 (by decide) ?_
                    exact x_zret (pc := 110) K (rT (by unfold bdF; first | (simp_all; done) | grind)) rfl rfl d_R_badFlags_110
                  · skip
                    refine x_iload_n (pc := 95) K 0 d_R_badFlags_95 rfl ?_
                    refine x_iconst (pc := 96) K (v := 1) d_R_badFlags_96 (by decide) ?_
                    refine x_icmp_eq (pc := 97) K (tgt := 105) d_R_badFlags_97 (by decide) (fun c97 => ?_) (fun c97 => ?_)
                    · skip
                      refine x_iconst (pc := 105) K (v := 1) d_R_badFlags_105 (by decide) ?_
                      refine x_goto (pc := 106) K (tgt := 110) d_R_badFlags_106 (by decide) ?_
                      exact x_zret (pc := 110) K (rT (by unfold bdF; first | (simp_all; done) | grind)) rfl rfl d_R_badFlags_110
                    · skip
                      refine x_iload_n (pc := 100) K 0 d_R_badFlags_100 rfl ?_
                      refine x_iconst (pc := 101) K (v := 2) d_R_badFlags_101 (by decide) ?_
                      refine x_icmp_ne (pc := 102) K (tgt := 109) d_R_badFlags_102 (by decide) (fun c102 => ?_) (fun c102 => ?_)
                      · skip
                        refine x_iconst (pc := 109) K (v := 0) d_R_badFlags_109 (by decide) ?_
                        exact x_zret (pc := 110) K (rF (by unfold bdF; first | (simp_all; done) | grind)) rfl rfl d_R_badFlags_110
                      · skip
                        refine x_iconst (pc := 105) K (v := 1) d_R_badFlags_105 (by decide) ?_
                        refine x_goto (pc := 106) K (tgt := 110) d_R_badFlags_106 (by decide) ?_
                        exact x_zret (pc := 110) K (rT (by unfold bdF; first | (simp_all; done) | grind)) rfl rfl d_R_badFlags_110
              · skip
                refine x_iload_n (pc := 75) K 3 d_R_badFlags_75 rfl ?_
                refine x_bipush (pc := 76) K (v := 15) d_R_badFlags_76 (by decide) ?_
                refine x_icmp_ne (pc := 78) K (tgt := 105) d_R_badFlags_78 (by decide) (fun c78 => ?_) (fun c78 => ?_)
                · skip
                  refine x_iconst (pc := 105) K (v := 1) d_R_badFlags_105 (by decide) ?_
                  refine x_goto (pc := 106) K (tgt := 110) d_R_badFlags_106 (by decide) ?_
                  exact x_zret (pc := 110) K (rT (by unfold bdF; first | (simp_all; done) | grind)) rfl rfl d_R_badFlags_110
                · skip
                  refine x_iload_n (pc := 81) K 2 d_R_badFlags_81 rfl ?_
                  refine x_iconst (pc := 82) K (v := 1) d_R_badFlags_82 (by decide) ?_
                  refine x_icmp_ne (pc := 83) K (tgt := 109) d_R_badFlags_83 (by decide) (fun c83 => ?_) (fun c83 => ?_)
                  · skip
                    refine x_iconst (pc := 109) K (v := 0) d_R_badFlags_109 (by decide) ?_
                    exact x_zret (pc := 110) K (rF (by unfold bdF; first | (simp_all; done) | grind)) rfl rfl d_R_badFlags_110
                  · skip
                    refine x_iload_n (pc := 86) K 3 d_R_badFlags_86 rfl ?_
                    refine x_bipush (pc := 87) K (v := 8) d_R_badFlags_87 (by decide) ?_
                    refine x_callS (pc := 89) K (As := [.int f, .int 8]) (rest := []) (c_R_has l w M f 8) (zcwS K.ts lk_R_66 sm_R_has ii_R co_R_has pd_R_has ⟨rfl, rfl⟩ ⟨by decide, by decide⟩) rfl rfl (Nat.le_of_ble_eq_true rfl) ⟨Nat.zero_le _, Nat.zero_le _⟩ d_R_badFlags_89 ?_
                    refine x_ifneB (pc := 92) K (tgt := 105) d_R_badFlags_92 (by decide) (fun c92 => ?_) (fun c92 => ?_)
                    · skip
                      refine x_iconst (pc := 105) K (v := 1) d_R_badFlags_105 (by decide) ?_
                      refine x_goto (pc := 106) K (tgt := 110) d_R_badFlags_106 (by decide) ?_
                      exact x_zret (pc := 110) K (rT (by unfold bdF; first | (simp_all; done) | grind)) rfl rfl d_R_badFlags_110
                    · skip
                      refine x_iload_n (pc := 95) K 0 d_R_badFlags_95 rfl ?_
                      refine x_iconst (pc := 96) K (v := 1) d_R_badFlags_96 (by decide) ?_
                      refine x_icmp_eq (pc := 97) K (tgt := 105) d_R_badFlags_97 (by decide) (fun c97 => ?_) (fun c97 => ?_)
                      · skip
                        refine x_iconst (pc := 105) K (v := 1) d_R_badFlags_105 (by decide) ?_
                        refine x_goto (pc := 106) K (tgt := 110) d_R_badFlags_106 (by decide) ?_
                        exact x_zret (pc := 110) K (rT (by unfold bdF; first | (simp_all; done) | grind)) rfl rfl d_R_badFlags_110
                      · skip
                        refine x_iload_n (pc := 100) K 0 d_R_badFlags_100 rfl ?_
                        refine x_iconst (pc := 101) K (v := 2) d_R_badFlags_101 (by decide) ?_
                        refine x_icmp_ne (pc := 102) K (tgt := 109) d_R_badFlags_102 (by decide) (fun c102 => ?_) (fun c102 => ?_)
                        · skip
                          refine x_iconst (pc := 109) K (v := 0) d_R_badFlags_109 (by decide) ?_
                          exact x_zret (pc := 110) K (rF (by unfold bdF; first | (simp_all; done) | grind)) rfl rfl d_R_badFlags_110
                        · skip
                          refine x_iconst (pc := 105) K (v := 1) d_R_badFlags_105 (by decide) ?_
                          refine x_goto (pc := 106) K (tgt := 110) d_R_badFlags_106 (by decide) ?_
                          exact x_zret (pc := 110) K (rT (by unfold bdF; first | (simp_all; done) | grind)) rfl rfl d_R_badFlags_110
          · skip
            refine x_iconst (pc := 60) K (v := 0) d_R_badFlags_60 (by decide) ?_
            exact x_zret (pc := 61) K (rF (by unfold bdF; first | (simp_all; done) | grind)) rfl rfl d_R_badFlags_61
        · skip
          refine x_iload_n (pc := 39) K 2 d_R_badFlags_39 rfl ?_
          refine x_iconst (pc := 40) K (v := 3) d_R_badFlags_40 (by decide) ?_
          refine x_iand (pc := 41) K d_R_badFlags_41 ?_
          refine x_if_eq (pc := 42) K (tgt := 54) d_R_badFlags_42 (by decide) (fun c42 => ?_) (fun c42 => ?_)
          · skip
            refine x_iconst (pc := 54) K (v := 1) d_R_badFlags_54 (by decide) ?_
            exact x_zret (pc := 55) K (rT (by unfold bdF; first | (simp_all; done) | grind)) rfl rfl d_R_badFlags_55
          · skip
            refine x_iload_n (pc := 45) K 2 d_R_badFlags_45 rfl ?_
            refine x_bipush (pc := 46) K (v := 12) d_R_badFlags_46 (by decide) ?_
            refine x_callS (pc := 48) K (As := [.int f, .int 12]) (rest := []) (c_R_has l w M f 12) (zcwS K.ts lk_R_66 sm_R_has ii_R co_R_has pd_R_has ⟨rfl, rfl⟩ ⟨by decide, by decide⟩) rfl rfl (Nat.le_of_ble_eq_true rfl) ⟨Nat.zero_le _, Nat.zero_le _⟩ d_R_badFlags_48 ?_
            refine x_ifeqB (pc := 51) K (tgt := 56) d_R_badFlags_51 (by decide) (fun c51 => ?_) (fun c51 => ?_)
            · skip
              refine x_iload_n (pc := 56) K 0 d_R_badFlags_56 rfl ?_
              refine x_if_ne (pc := 57) K (tgt := 62) d_R_badFlags_57 (by decide) (fun c57 => ?_) (fun c57 => ?_)
              · skip
                refine x_iload_n (pc := 62) K 2 d_R_badFlags_62 rfl ?_
                refine x_iconst (pc := 63) K (v := 3) d_R_badFlags_63 (by decide) ?_
                refine x_iand (pc := 64) K d_R_badFlags_64 ?_
                refine x_istore_n (pc := 65) K (lv' := [(3, .int (f &&& 3)), (0, .int z), (1, .int k), (2, .int f)]) d_R_badFlags_65 (by decide) rfl ?_
                refine x_iload_n (pc := 66) K 2 d_R_badFlags_66 rfl ?_
                refine x_iconst (pc := 67) K (v := 2) d_R_badFlags_67 (by decide) ?_
                refine x_icmp_eq (pc := 68) K (tgt := 105) d_R_badFlags_68 (by decide) (fun c68 => ?_) (fun c68 => ?_)
                · skip
                  refine x_iconst (pc := 105) K (v := 1) d_R_badFlags_105 (by decide) ?_
                  refine x_goto (pc := 106) K (tgt := 110) d_R_badFlags_106 (by decide) ?_
                  exact x_zret (pc := 110) K (rT (by unfold bdF; first | (simp_all; done) | grind)) rfl rfl d_R_badFlags_110
                · skip
                  refine x_iload_n (pc := 71) K 2 d_R_badFlags_71 rfl ?_
                  refine x_if_ne (pc := 72) K (tgt := 81) d_R_badFlags_72 (by decide) (fun c72 => ?_) (fun c72 => ?_)
                  · skip
                    refine x_iload_n (pc := 81) K 2 d_R_badFlags_81 rfl ?_
                    refine x_iconst (pc := 82) K (v := 1) d_R_badFlags_82 (by decide) ?_
                    refine x_icmp_ne (pc := 83) K (tgt := 109) d_R_badFlags_83 (by decide) (fun c83 => ?_) (fun c83 => ?_)
                    · skip
                      refine x_iconst (pc := 109) K (v := 0) d_R_badFlags_109 (by decide) ?_
                      exact x_zret (pc := 110) K (rF (by unfold bdF; first | (simp_all; done) | grind)) rfl rfl d_R_badFlags_110
                    · skip
                      refine x_iload_n (pc := 86) K 3 d_R_badFlags_86 rfl ?_
                      refine x_bipush (pc := 87) K (v := 8) d_R_badFlags_87 (by decide) ?_
                      refine x_callS (pc := 89) K (As := [.int f, .int 8]) (rest := []) (c_R_has l w M f 8) (zcwS K.ts lk_R_66 sm_R_has ii_R co_R_has pd_R_has ⟨rfl, rfl⟩ ⟨by decide, by decide⟩) rfl rfl (Nat.le_of_ble_eq_true rfl) ⟨Nat.zero_le _, Nat.zero_le _⟩ d_R_badFlags_89 ?_
                      refine x_ifneB (pc := 92) K (tgt := 105) d_R_badFlags_92 (by decide) (fun c92 => ?_) (fun c92 => ?_)
                      · skip
                        refine x_iconst (pc := 105) K (v := 1) d_R_badFlags_105 (by decide) ?_
                        refine x_goto (pc := 106) K (tgt := 110) d_R_badFlags_106 (by decide) ?_
                        exact x_zret (pc := 110) K (rT (by unfold bdF; first | (simp_all; done) | grind)) rfl rfl d_R_badFlags_110
                      · skip
                        refine x_iload_n (pc := 95) K 0 d_R_badFlags_95 rfl ?_
                        refine x_iconst (pc := 96) K (v := 1) d_R_badFlags_96 (by decide) ?_
                        refine x_icmp_eq (pc := 97) K (tgt := 105) d_R_badFlags_97 (by decide) (fun c97 => ?_) (fun c97 => ?_)
                        · skip
                          refine x_iconst (pc := 105) K (v := 1) d_R_badFlags_105 (by decide) ?_
                          refine x_goto (pc := 106) K (tgt := 110) d_R_badFlags_106 (by decide) ?_
                          exact x_zret (pc := 110) K (rT (by unfold bdF; first | (simp_all; done) | grind)) rfl rfl d_R_badFlags_110
                        · skip
                          refine x_iload_n (pc := 100) K 0 d_R_badFlags_100 rfl ?_
                          refine x_iconst (pc := 101) K (v := 2) d_R_badFlags_101 (by decide) ?_
                          refine x_icmp_ne (pc := 102) K (tgt := 109) d_R_badFlags_102 (by decide) (fun c102 => ?_) (fun c102 => ?_)
                          · skip
                            refine x_iconst (pc := 109) K (v := 0) d_R_badFlags_109 (by decide) ?_
                            exact x_zret (pc := 110) K (rF (by unfold bdF; first | (simp_all; done) | grind)) rfl rfl d_R_badFlags_110
                          · skip
                            refine x_iconst (pc := 105) K (v := 1) d_R_badFlags_105 (by decide) ?_
                            refine x_goto (pc := 106) K (tgt := 110) d_R_badFlags_106 (by decide) ?_
                            exact x_zret (pc := 110) K (rT (by unfold bdF; first | (simp_all; done) | grind)) rfl rfl d_R_badFlags_110
                  · skip
                    refine x_iload_n (pc := 75) K 3 d_R_badFlags_75 rfl ?_
                    refine x_bipush (pc := 76) K (v := 15) d_R_badFlags_76 (by decide) ?_
                    refine x_icmp_ne (pc := 78) K (tgt := 105) d_R_badFlags_78 (by decide) (fun c78 => ?_) (fun c78 => ?_)
                    · skip
                      refine x_iconst (pc := 105) K (v := 1) d_R_badFlags_105 (by decide) ?_
                      refine x_goto (pc := 106) K (tgt := 110) d_R_badFlags_106 (by decide) ?_
                      exact x_zret (pc := 110) K (rT (by unfold bdF; first | (simp_all; done) | grind)) rfl rfl d_R_badFlags_110
                    · skip
                      refine x_iload_n (pc := 81) K 2 d_R_badFlags_81 rfl ?_
                      refine x_iconst (pc := 82) K (v := 1) d_R_badFlags_82 (by decide) ?_
                      refine x_icmp_ne (pc := 83) K (tgt := 109) d_R_badFlags_83 (by decide) (fun c83 => ?_) (fun c83 => ?_)
                      · skip
                        refine x_iconst (pc := 109) K (v := 0) d_R_badFlags_109 (by decide) ?_
                        exact x_zret (pc := 110) K (rF (by unfold bdF; first | (simp_all; done) | grind)) rfl rfl d_R_badFlags_110
                      · skip
                        refine x_iload_n (pc := 86) K 3 d_R_badFlags_86 rfl ?_
                        refine x_bipush (pc := 87) K (v := 8) d_R_badFlags_87 (by decide) ?_
                        refine x_callS (pc := 89) K (As := [.int f, .int 8]) (rest := []) (c_R_has l w M f 8) (zcwS K.ts lk_R_66 sm_R_has ii_R co_R_has pd_R_has ⟨rfl, rfl⟩ ⟨by decide, by decide⟩) rfl rfl (Nat.le_of_ble_eq_true rfl) ⟨Nat.zero_le _, Nat.zero_le _⟩ d_R_badFlags_89 ?_
                        refine x_ifneB (pc := 92) K (tgt := 105) d_R_badFlags_92 (by decide) (fun c92 => ?_) (fun c92 => ?_)
                        · skip
                          refine x_iconst (pc := 105) K (v := 1) d_R_badFlags_105 (by decide) ?_
                          refine x_goto (pc := 106) K (tgt := 110) d_R_badFlags_106 (by decide) ?_
                          exact x_zret (pc := 110) K (rT (by unfold bdF; first | (simp_all; done) | grind)) rfl rfl d_R_badFlags_110
                        · skip
                          refine x_iload_n (pc := 95) K 0 d_R_badFlags_95 rfl ?_
                          refine x_iconst (pc := 96) K (v := 1) d_R_badFlags_96 (by decide) ?_
                          refine x_icmp_eq (pc := 97) K (tgt := 105) d_R_badFlags_97 (by decide) (fun c97 => ?_) (fun c97 => ?_)
                          · skip
                            refine x_iconst (pc := 105) K (v := 1) d_R_badFlags_105 (by decide) ?_
                            refine x_goto (pc := 106) K (tgt := 110) d_R_badFlags_106 (by decide) ?_
                            exact x_zret (pc := 110) K (rT (by unfold bdF; first | (simp_all; done) | grind)) rfl rfl d_R_badFlags_110
                          · skip
                            refine x_iload_n (pc := 100) K 0 d_R_badFlags_100 rfl ?_
                            refine x_iconst (pc := 101) K (v := 2) d_R_badFlags_101 (by decide) ?_
                            refine x_icmp_ne (pc := 102) K (tgt := 109) d_R_badFlags_102 (by decide) (fun c102 => ?_) (fun c102 => ?_)
                            · skip
                              refine x_iconst (pc := 109) K (v := 0) d_R_badFlags_109 (by decide) ?_
                              exact x_zret (pc := 110) K (rF (by unfold bdF; first | (simp_all; done) | grind)) rfl rfl d_R_badFlags_110
                            · skip
                              refine x_iconst (pc := 105) K (v := 1) d_R_badFlags_105 (by decide) ?_
                              refine x_goto (pc := 106) K (tgt := 110) d_R_badFlags_106 (by decide) ?_
                              exact x_zret (pc := 110) K (rT (by unfold bdF; first | (simp_all; done) | grind)) rfl rfl d_R_badFlags_110
              · skip
                refine x_iconst (pc := 60) K (v := 0) d_R_badFlags_60 (by decide) ?_
                exact x_zret (pc := 61) K (rF (by unfold bdF; first | (simp_all; done) | grind)) rfl rfl d_R_badFlags_61
            · skip
              refine x_iconst (pc := 54) K (v := 1) d_R_badFlags_54 (by decide) ?_
              exact x_zret (pc := 55) K (rT (by unfold bdF; first | (simp_all; done) | grind)) rfl rfl d_R_badFlags_55
      · skip
        refine x_iconst (pc := 28) K (v := 1) d_R_badFlags_28 (by decide) ?_
        exact x_zret (pc := 29) K (rT (by unfold bdF; first | (simp_all; done) | grind)) rfl rfl d_R_badFlags_29
  · skip
    refine x_iload_n (pc := 5) K 2 d_R_badFlags_5 rfl ?_
    refine x_bipush (pc := 6) K (v := 16) d_R_badFlags_6 (by decide) ?_
    refine x_callS (pc := 8) K (As := [.int f, .int 16]) (rest := []) (c_R_has l w M f 16) (zcwS K.ts lk_R_66 sm_R_has ii_R co_R_has pd_R_has ⟨rfl, rfl⟩ ⟨by decide, by decide⟩) rfl rfl (Nat.le_of_ble_eq_true rfl) ⟨Nat.zero_le _, Nat.zero_le _⟩ d_R_badFlags_8 ?_
    refine x_ifneB (pc := 11) K (tgt := 28) d_R_badFlags_11 (by decide) (fun c11 => ?_) (fun c11 => ?_)
    · skip
      refine x_iconst (pc := 28) K (v := 1) d_R_badFlags_28 (by decide) ?_
      exact x_zret (pc := 29) K (rT (by unfold bdF; first | (simp_all; done) | grind)) rfl rfl d_R_badFlags_29
    · skip
      refine x_iload_n (pc := 14) K 1 d_R_badFlags_14 rfl ?_
      refine x_iconst (pc := 15) K (v := 2) d_R_badFlags_15 (by decide) ?_
      refine x_icmp_ne (pc := 16) K (tgt := 30) d_R_badFlags_16 (by decide) (fun c16 => ?_) (fun c16 => ?_)
      · skip
        refine x_iload_n (pc := 30) K 2 d_R_badFlags_30 rfl ?_
        refine x_bipush (pc := 31) K (v := 16) d_R_badFlags_31 (by decide) ?_
        refine x_callS (pc := 33) K (As := [.int f, .int 16]) (rest := []) (c_R_has l w M f 16) (zcwS K.ts lk_R_66 sm_R_has ii_R co_R_has pd_R_has ⟨rfl, rfl⟩ ⟨by decide, by decide⟩) rfl rfl (Nat.le_of_ble_eq_true rfl) ⟨Nat.zero_le _, Nat.zero_le _⟩ d_R_badFlags_33 ?_
        refine x_ifeqB (pc := 36) K (tgt := 56) d_R_badFlags_36 (by decide) (fun c36 => ?_) (fun c36 => ?_)
        · skip
          refine x_iload_n (pc := 56) K 0 d_R_badFlags_56 rfl ?_
          refine x_if_ne (pc := 57) K (tgt := 62) d_R_badFlags_57 (by decide) (fun c57 => ?_) (fun c57 => ?_)
          · skip
            refine x_iload_n (pc := 62) K 2 d_R_badFlags_62 rfl ?_
            refine x_iconst (pc := 63) K (v := 3) d_R_badFlags_63 (by decide) ?_
            refine x_iand (pc := 64) K d_R_badFlags_64 ?_
            refine x_istore_n (pc := 65) K (lv' := [(3, .int (f &&& 3)), (0, .int z), (1, .int k), (2, .int f)]) d_R_badFlags_65 (by decide) rfl ?_
            refine x_iload_n (pc := 66) K 2 d_R_badFlags_66 rfl ?_
            refine x_iconst (pc := 67) K (v := 2) d_R_badFlags_67 (by decide) ?_
            refine x_icmp_eq (pc := 68) K (tgt := 105) d_R_badFlags_68 (by decide) (fun c68 => ?_) (fun c68 => ?_)
            · skip
              refine x_iconst (pc := 105) K (v := 1) d_R_badFlags_105 (by decide) ?_
              refine x_goto (pc := 106) K (tgt := 110) d_R_badFlags_106 (by decide) ?_
              exact x_zret (pc := 110) K (rT (by unfold bdF; first | (simp_all; done) | grind)) rfl rfl d_R_badFlags_110
            · skip
              refine x_iload_n (pc := 71) K 2 d_R_badFlags_71 rfl ?_
              refine x_if_ne (pc := 72) K (tgt := 81) d_R_badFlags_72 (by decide) (fun c72 => ?_) (fun c72 => ?_)
              · skip
                refine x_iload_n (pc := 81) K 2 d_R_badFlags_81 rfl ?_
                refine x_iconst (pc := 82) K (v := 1) d_R_badFlags_82 (by decide) ?_
                refine x_icmp_ne (pc := 83) K (tgt := 109) d_R_badFlags_83 (by decide) (fun c83 => ?_) (fun c83 => ?_)
                · skip
                  refine x_iconst (pc := 109) K (v := 0) d_R_badFlags_109 (by decide) ?_
                  exact x_zret (pc := 110) K (rF (by unfold bdF; first | (simp_all; done) | grind)) rfl rfl d_R_badFlags_110
                · skip
                  refine x_iload_n (pc := 86) K 3 d_R_badFlags_86 rfl ?_
                  refine x_bipush (pc := 87) K (v := 8) d_R_badFlags_87 (by decide) ?_
                  refine x_callS (pc := 89) K (As := [.int f, .int 8]) (rest := []) (c_R_has l w M f 8) (zcwS K.ts lk_R_66 sm_R_has ii_R co_R_has pd_R_has ⟨rfl, rfl⟩ ⟨by decide, by decide⟩) rfl rfl (Nat.le_of_ble_eq_true rfl) ⟨Nat.zero_le _, Nat.zero_le _⟩ d_R_badFlags_89 ?_
                  refine x_ifneB (pc := 92) K (tgt := 105) d_R_badFlags_92 (by decide) (fun c92 => ?_) (fun c92 => ?_)
                  · skip
                    refine x_iconst (pc := 105) K (v := 1) d_R_badFlags_105 (by decide) ?_
                    refine x_goto (pc := 106) K (tgt := 110) d_R_badFlags_106 (by decide) ?_
                    exact x_zret (pc := 110) K (rT (by unfold bdF; first | (simp_all; done) | grind)) rfl rfl d_R_badFlags_110
                  · skip
                    refine x_iload_n (pc := 95) K 0 d_R_badFlags_95 rfl ?_
                    refine x_iconst (pc := 96) K (v := 1) d_R_badFlags_96 (by decide) ?_
                    refine x_icmp_eq (pc := 97) K (tgt := 105) d_R_badFlags_97 (by decide) (fun c97 => ?_) (fun c97 => ?_)
                    · skip
                      refine x_iconst (pc := 105) K (v := 1) d_R_badFlags_105 (by decide) ?_
                      refine x_goto (pc := 106) K (tgt := 110) d_R_badFlags_106 (by decide) ?_
                      exact x_zret (pc := 110) K (rT (by unfold bdF; first | (simp_all; done) | grind)) rfl rfl d_R_badFlags_110
                    · skip
                      refine x_iload_n (pc := 100) K 0 d_R_badFlags_100 rfl ?_
                      refine x_iconst (pc := 101) K (v := 2) d_R_badFlags_101 (by decide) ?_
                      refine x_icmp_ne (pc := 102) K (tgt := 109) d_R_badFlags_102 (by decide) (fun c102 => ?_) (fun c102 => ?_)
                      · skip
                        refine x_iconst (pc := 109) K (v := 0) d_R_badFlags_109 (by decide) ?_
                        exact x_zret (pc := 110) K (rF (by unfold bdF; first | (simp_all; done) | grind)) rfl rfl d_R_badFlags_110
                      · skip
                        refine x_iconst (pc := 105) K (v := 1) d_R_badFlags_105 (by decide) ?_
                        refine x_goto (pc := 106) K (tgt := 110) d_R_badFlags_106 (by decide) ?_
                        exact x_zret (pc := 110) K (rT (by unfold bdF; first | (simp_all; done) | grind)) rfl rfl d_R_badFlags_110
              · skip
                refine x_iload_n (pc := 75) K 3 d_R_badFlags_75 rfl ?_
                refine x_bipush (pc := 76) K (v := 15) d_R_badFlags_76 (by decide) ?_
                refine x_icmp_ne (pc := 78) K (tgt := 105) d_R_badFlags_78 (by decide) (fun c78 => ?_) (fun c78 => ?_)
                · skip
                  refine x_iconst (pc := 105) K (v := 1) d_R_badFlags_105 (by decide) ?_
                  refine x_goto (pc := 106) K (tgt := 110) d_R_badFlags_106 (by decide) ?_
                  exact x_zret (pc := 110) K (rT (by unfold bdF; first | (simp_all; done) | grind)) rfl rfl d_R_badFlags_110
                · skip
                  refine x_iload_n (pc := 81) K 2 d_R_badFlags_81 rfl ?_
                  refine x_iconst (pc := 82) K (v := 1) d_R_badFlags_82 (by decide) ?_
                  refine x_icmp_ne (pc := 83) K (tgt := 109) d_R_badFlags_83 (by decide) (fun c83 => ?_) (fun c83 => ?_)
                  · skip
                    refine x_iconst (pc := 109) K (v := 0) d_R_badFlags_109 (by decide) ?_
                    exact x_zret (pc := 110) K (rF (by unfold bdF; first | (simp_all; done) | grind)) rfl rfl d_R_badFlags_110
                  · skip
                    refine x_iload_n (pc := 86) K 3 d_R_badFlags_86 rfl ?_
                    refine x_bipush (pc := 87) K (v := 8) d_R_badFlags_87 (by decide) ?_
                    refine x_callS (pc := 89) K (As := [.int f, .int 8]) (rest := []) (c_R_has l w M f 8) (zcwS K.ts lk_R_66 sm_R_has ii_R co_R_has pd_R_has ⟨rfl, rfl⟩ ⟨by decide, by decide⟩) rfl rfl (Nat.le_of_ble_eq_true rfl) ⟨Nat.zero_le _, Nat.zero_le _⟩ d_R_badFlags_89 ?_
                    refine x_ifneB (pc := 92) K (tgt := 105) d_R_badFlags_92 (by decide) (fun c92 => ?_) (fun c92 => ?_)
                    · skip
                      refine x_iconst (pc := 105) K (v := 1) d_R_badFlags_105 (by decide) ?_
                      refine x_goto (pc := 106) K (tgt := 110) d_R_badFlags_106 (by decide) ?_
                      exact x_zret (pc := 110) K (rT (by unfold bdF; first | (simp_all; done) | grind)) rfl rfl d_R_badFlags_110
                    · skip
                      refine x_iload_n (pc := 95) K 0 d_R_badFlags_95 rfl ?_
                      refine x_iconst (pc := 96) K (v := 1) d_R_badFlags_96 (by decide) ?_
                      refine x_icmp_eq (pc := 97) K (tgt := 105) d_R_badFlags_97 (by decide) (fun c97 => ?_) (fun c97 => ?_)
                      · skip
                        refine x_iconst (pc := 105) K (v := 1) d_R_badFlags_105 (by decide) ?_
                        refine x_goto (pc := 106) K (tgt := 110) d_R_badFlags_106 (by decide) ?_
                        exact x_zret (pc := 110) K (rT (by unfold bdF; first | (simp_all; done) | grind)) rfl rfl d_R_badFlags_110
                      · skip
                        refine x_iload_n (pc := 100) K 0 d_R_badFlags_100 rfl ?_
                        refine x_iconst (pc := 101) K (v := 2) d_R_badFlags_101 (by decide) ?_
                        refine x_icmp_ne (pc := 102) K (tgt := 109) d_R_badFlags_102 (by decide) (fun c102 => ?_) (fun c102 => ?_)
                        · skip
                          refine x_iconst (pc := 109) K (v := 0) d_R_badFlags_109 (by decide) ?_
                          exact x_zret (pc := 110) K (rF (by unfold bdF; first | (simp_all; done) | grind)) rfl rfl d_R_badFlags_110
                        · skip
                          refine x_iconst (pc := 105) K (v := 1) d_R_badFlags_105 (by decide) ?_
                          refine x_goto (pc := 106) K (tgt := 110) d_R_badFlags_106 (by decide) ?_
                          exact x_zret (pc := 110) K (rT (by unfold bdF; first | (simp_all; done) | grind)) rfl rfl d_R_badFlags_110
          · skip
            refine x_iconst (pc := 60) K (v := 0) d_R_badFlags_60 (by decide) ?_
            exact x_zret (pc := 61) K (rF (by unfold bdF; first | (simp_all; done) | grind)) rfl rfl d_R_badFlags_61
        · skip
          refine x_iload_n (pc := 39) K 2 d_R_badFlags_39 rfl ?_
          refine x_iconst (pc := 40) K (v := 3) d_R_badFlags_40 (by decide) ?_
          refine x_iand (pc := 41) K d_R_badFlags_41 ?_
          refine x_if_eq (pc := 42) K (tgt := 54) d_R_badFlags_42 (by decide) (fun c42 => ?_) (fun c42 => ?_)
          · skip
            refine x_iconst (pc := 54) K (v := 1) d_R_badFlags_54 (by decide) ?_
            exact x_zret (pc := 55) K (rT (by unfold bdF; first | (simp_all; done) | grind)) rfl rfl d_R_badFlags_55
          · skip
            refine x_iload_n (pc := 45) K 2 d_R_badFlags_45 rfl ?_
            refine x_bipush (pc := 46) K (v := 12) d_R_badFlags_46 (by decide) ?_
            refine x_callS (pc := 48) K (As := [.int f, .int 12]) (rest := []) (c_R_has l w M f 12) (zcwS K.ts lk_R_66 sm_R_has ii_R co_R_has pd_R_has ⟨rfl, rfl⟩ ⟨by decide, by decide⟩) rfl rfl (Nat.le_of_ble_eq_true rfl) ⟨Nat.zero_le _, Nat.zero_le _⟩ d_R_badFlags_48 ?_
            refine x_ifeqB (pc := 51) K (tgt := 56) d_R_badFlags_51 (by decide) (fun c51 => ?_) (fun c51 => ?_)
            · skip
              refine x_iload_n (pc := 56) K 0 d_R_badFlags_56 rfl ?_
              refine x_if_ne (pc := 57) K (tgt := 62) d_R_badFlags_57 (by decide) (fun c57 => ?_) (fun c57 => ?_)
              · skip
                refine x_iload_n (pc := 62) K 2 d_R_badFlags_62 rfl ?_
                refine x_iconst (pc := 63) K (v := 3) d_R_badFlags_63 (by decide) ?_
                refine x_iand (pc := 64) K d_R_badFlags_64 ?_
                refine x_istore_n (pc := 65) K (lv' := [(3, .int (f &&& 3)), (0, .int z), (1, .int k), (2, .int f)]) d_R_badFlags_65 (by decide) rfl ?_
                refine x_iload_n (pc := 66) K 2 d_R_badFlags_66 rfl ?_
                refine x_iconst (pc := 67) K (v := 2) d_R_badFlags_67 (by decide) ?_
                refine x_icmp_eq (pc := 68) K (tgt := 105) d_R_badFlags_68 (by decide) (fun c68 => ?_) (fun c68 => ?_)
                · skip
                  refine x_iconst (pc := 105) K (v := 1) d_R_badFlags_105 (by decide) ?_
                  refine x_goto (pc := 106) K (tgt := 110) d_R_badFlags_106 (by decide) ?_
                  exact x_zret (pc := 110) K (rT (by unfold bdF; first | (simp_all; done) | grind)) rfl rfl d_R_badFlags_110
                · skip
                  refine x_iload_n (pc := 71) K 2 d_R_badFlags_71 rfl ?_
                  refine x_if_ne (pc := 72) K (tgt := 81) d_R_badFlags_72 (by decide) (fun c72 => ?_) (fun c72 => ?_)
                  · skip
                    refine x_iload_n (pc := 81) K 2 d_R_badFlags_81 rfl ?_
                    refine x_iconst (pc := 82) K (v := 1) d_R_badFlags_82 (by decide) ?_
                    refine x_icmp_ne (pc := 83) K (tgt := 109) d_R_badFlags_83 (by decide) (fun c83 => ?_) (fun c83 => ?_)
                    · skip
                      refine x_iconst (pc := 109) K (v := 0) d_R_badFlags_109 (by decide) ?_
                      exact x_zret (pc := 110) K (rF (by unfold bdF; first | (simp_all; done) | grind)) rfl rfl d_R_badFlags_110
                    · skip
                      refine x_iload_n (pc := 86) K 3 d_R_badFlags_86 rfl ?_
                      refine x_bipush (pc := 87) K (v := 8) d_R_badFlags_87 (by decide) ?_
                      refine x_callS (pc := 89) K (As := [.int f, .int 8]) (rest := []) (c_R_has l w M f 8) (zcwS K.ts lk_R_66 sm_R_has ii_R co_R_has pd_R_has ⟨rfl, rfl⟩ ⟨by decide, by decide⟩) rfl rfl (Nat.le_of_ble_eq_true rfl) ⟨Nat.zero_le _, Nat.zero_le _⟩ d_R_badFlags_89 ?_
                      refine x_ifneB (pc := 92) K (tgt := 105) d_R_badFlags_92 (by decide) (fun c92 => ?_) (fun c92 => ?_)
                      · skip
                        refine x_iconst (pc := 105) K (v := 1) d_R_badFlags_105 (by decide) ?_
                        refine x_goto (pc := 106) K (tgt := 110) d_R_badFlags_106 (by decide) ?_
                        exact x_zret (pc := 110) K (rT (by unfold bdF; first | (simp_all; done) | grind)) rfl rfl d_R_badFlags_110
                      · skip
                        refine x_iload_n (pc := 95) K 0 d_R_badFlags_95 rfl ?_
                        refine x_iconst (pc := 96) K (v := 1) d_R_badFlags_96 (by decide) ?_
                        refine x_icmp_eq (pc := 97) K (tgt := 105) d_R_badFlags_97 (by decide) (fun c97 => ?_) (fun c97 => ?_)
                        · skip
                          refine x_iconst (pc := 105) K (v := 1) d_R_badFlags_105 (by decide) ?_
                          refine x_goto (pc := 106) K (tgt := 110) d_R_badFlags_106 (by decide) ?_
                          exact x_zret (pc := 110) K (rT (by unfold bdF; first | (simp_all; done) | grind)) rfl rfl d_R_badFlags_110
                        · skip
                          refine x_iload_n (pc := 100) K 0 d_R_badFlags_100 rfl ?_
                          refine x_iconst (pc := 101) K (v := 2) d_R_badFlags_101 (by decide) ?_
                          refine x_icmp_ne (pc := 102) K (tgt := 109) d_R_badFlags_102 (by decide) (fun c102 => ?_) (fun c102 => ?_)
                          · skip
                            refine x_iconst (pc := 109) K (v := 0) d_R_badFlags_109 (by decide) ?_
                            exact x_zret (pc := 110) K (rF (by unfold bdF; first | (simp_all; done) | grind)) rfl rfl d_R_badFlags_110
                          · skip
                            refine x_iconst (pc := 105) K (v := 1) d_R_badFlags_105 (by decide) ?_
                            refine x_goto (pc := 106) K (tgt := 110) d_R_badFlags_106 (by decide) ?_
                            exact x_zret (pc := 110) K (rT (by unfold bdF; first | (simp_all; done) | grind)) rfl rfl d_R_badFlags_110
                  · skip
                    refine x_iload_n (pc := 75) K 3 d_R_badFlags_75 rfl ?_
                    refine x_bipush (pc := 76) K (v := 15) d_R_badFlags_76 (by decide) ?_
                    refine x_icmp_ne (pc := 78) K (tgt := 105) d_R_badFlags_78 (by decide) (fun c78 => ?_) (fun c78 => ?_)
                    · skip
                      refine x_iconst (pc := 105) K (v := 1) d_R_badFlags_105 (by decide) ?_
                      refine x_goto (pc := 106) K (tgt := 110) d_R_badFlags_106 (by decide) ?_
                      exact x_zret (pc := 110) K (rT (by unfold bdF; first | (simp_all; done) | grind)) rfl rfl d_R_badFlags_110
                    · skip
                      refine x_iload_n (pc := 81) K 2 d_R_badFlags_81 rfl ?_
                      refine x_iconst (pc := 82) K (v := 1) d_R_badFlags_82 (by decide) ?_
                      refine x_icmp_ne (pc := 83) K (tgt := 109) d_R_badFlags_83 (by decide) (fun c83 => ?_) (fun c83 => ?_)
                      · skip
                        refine x_iconst (pc := 109) K (v := 0) d_R_badFlags_109 (by decide) ?_
                        exact x_zret (pc := 110) K (rF (by unfold bdF; first | (simp_all; done) | grind)) rfl rfl d_R_badFlags_110
                      · skip
                        refine x_iload_n (pc := 86) K 3 d_R_badFlags_86 rfl ?_
                        refine x_bipush (pc := 87) K (v := 8) d_R_badFlags_87 (by decide) ?_
                        refine x_callS (pc := 89) K (As := [.int f, .int 8]) (rest := []) (c_R_has l w M f 8) (zcwS K.ts lk_R_66 sm_R_has ii_R co_R_has pd_R_has ⟨rfl, rfl⟩ ⟨by decide, by decide⟩) rfl rfl (Nat.le_of_ble_eq_true rfl) ⟨Nat.zero_le _, Nat.zero_le _⟩ d_R_badFlags_89 ?_
                        refine x_ifneB (pc := 92) K (tgt := 105) d_R_badFlags_92 (by decide) (fun c92 => ?_) (fun c92 => ?_)
                        · skip
                          refine x_iconst (pc := 105) K (v := 1) d_R_badFlags_105 (by decide) ?_
                          refine x_goto (pc := 106) K (tgt := 110) d_R_badFlags_106 (by decide) ?_
                          exact x_zret (pc := 110) K (rT (by unfold bdF; first | (simp_all; done) | grind)) rfl rfl d_R_badFlags_110
                        · skip
                          refine x_iload_n (pc := 95) K 0 d_R_badFlags_95 rfl ?_
                          refine x_iconst (pc := 96) K (v := 1) d_R_badFlags_96 (by decide) ?_
                          refine x_icmp_eq (pc := 97) K (tgt := 105) d_R_badFlags_97 (by decide) (fun c97 => ?_) (fun c97 => ?_)
                          · skip
                            refine x_iconst (pc := 105) K (v := 1) d_R_badFlags_105 (by decide) ?_
                            refine x_goto (pc := 106) K (tgt := 110) d_R_badFlags_106 (by decide) ?_
                            exact x_zret (pc := 110) K (rT (by unfold bdF; first | (simp_all; done) | grind)) rfl rfl d_R_badFlags_110
                          · skip
                            refine x_iload_n (pc := 100) K 0 d_R_badFlags_100 rfl ?_
                            refine x_iconst (pc := 101) K (v := 2) d_R_badFlags_101 (by decide) ?_
                            refine x_icmp_ne (pc := 102) K (tgt := 109) d_R_badFlags_102 (by decide) (fun c102 => ?_) (fun c102 => ?_)
                            · skip
                              refine x_iconst (pc := 109) K (v := 0) d_R_badFlags_109 (by decide) ?_
                              exact x_zret (pc := 110) K (rF (by unfold bdF; first | (simp_all; done) | grind)) rfl rfl d_R_badFlags_110
                            · skip
                              refine x_iconst (pc := 105) K (v := 1) d_R_badFlags_105 (by decide) ?_
                              refine x_goto (pc := 106) K (tgt := 110) d_R_badFlags_106 (by decide) ?_
                              exact x_zret (pc := 110) K (rT (by unfold bdF; first | (simp_all; done) | grind)) rfl rfl d_R_badFlags_110
              · skip
                refine x_iconst (pc := 60) K (v := 0) d_R_badFlags_60 (by decide) ?_
                exact x_zret (pc := 61) K (rF (by unfold bdF; first | (simp_all; done) | grind)) rfl rfl d_R_badFlags_61
            · skip
              refine x_iconst (pc := 54) K (v := 1) d_R_badFlags_54 (by decide) ?_
              exact x_zret (pc := 55) K (rT (by unfold bdF; first | (simp_all; done) | grind)) rfl rfl d_R_badFlags_55
      · skip
        refine x_iload_n (pc := 19) K 2 d_R_badFlags_19 rfl ?_
        refine x_bipush (pc := 20) K (v := 12) d_R_badFlags_20 (by decide) ?_
        refine x_callS (pc := 22) K (As := [.int f, .int 12]) (rest := []) (c_R_has l w M f 12) (zcwS K.ts lk_R_66 sm_R_has ii_R co_R_has pd_R_has ⟨rfl, rfl⟩ ⟨by decide, by decide⟩) rfl rfl (Nat.le_of_ble_eq_true rfl) ⟨Nat.zero_le _, Nat.zero_le _⟩ d_R_badFlags_22 ?_
        refine x_ifeqB (pc := 25) K (tgt := 30) d_R_badFlags_25 (by decide) (fun c25 => ?_) (fun c25 => ?_)
        · skip
          refine x_iload_n (pc := 30) K 2 d_R_badFlags_30 rfl ?_
          refine x_bipush (pc := 31) K (v := 16) d_R_badFlags_31 (by decide) ?_
          refine x_callS (pc := 33) K (As := [.int f, .int 16]) (rest := []) (c_R_has l w M f 16) (zcwS K.ts lk_R_66 sm_R_has ii_R co_R_has pd_R_has ⟨rfl, rfl⟩ ⟨by decide, by decide⟩) rfl rfl (Nat.le_of_ble_eq_true rfl) ⟨Nat.zero_le _, Nat.zero_le _⟩ d_R_badFlags_33 ?_
          refine x_ifeqB (pc := 36) K (tgt := 56) d_R_badFlags_36 (by decide) (fun c36 => ?_) (fun c36 => ?_)
          · skip
            refine x_iload_n (pc := 56) K 0 d_R_badFlags_56 rfl ?_
            refine x_if_ne (pc := 57) K (tgt := 62) d_R_badFlags_57 (by decide) (fun c57 => ?_) (fun c57 => ?_)
            · skip
              refine x_iload_n (pc := 62) K 2 d_R_badFlags_62 rfl ?_
              refine x_iconst (pc := 63) K (v := 3) d_R_badFlags_63 (by decide) ?_
              refine x_iand (pc := 64) K d_R_badFlags_64 ?_
              refine x_istore_n (pc := 65) K (lv' := [(3, .int (f &&& 3)), (0, .int z), (1, .int k), (2, .int f)]) d_R_badFlags_65 (by decide) rfl ?_
              refine x_iload_n (pc := 66) K 2 d_R_badFlags_66 rfl ?_
              refine x_iconst (pc := 67) K (v := 2) d_R_badFlags_67 (by decide) ?_
              refine x_icmp_eq (pc := 68) K (tgt := 105) d_R_badFlags_68 (by decide) (fun c68 => ?_) (fun c68 => ?_)
              · skip
                refine x_iconst (pc := 105) K (v := 1) d_R_badFlags_105 (by decide) ?_
                refine x_goto (pc := 106) K (tgt := 110) d_R_badFlags_106 (by decide) ?_
                exact x_zret (pc := 110) K (rT (by unfold bdF; first | (simp_all; done) | grind)) rfl rfl d_R_badFlags_110
              · skip
                refine x_iload_n (pc := 71) K 2 d_R_badFlags_71 rfl ?_
                refine x_if_ne (pc := 72) K (tgt := 81) d_R_badFlags_72 (by decide) (fun c72 => ?_) (fun c72 => ?_)
                · skip
                  refine x_iload_n (pc := 81) K 2 d_R_badFlags_81 rfl ?_
                  refine x_iconst (pc := 82) K (v := 1) d_R_badFlags_82 (by decide) ?_
                  refine x_icmp_ne (pc := 83) K (tgt := 109) d_R_badFlags_83 (by decide) (fun c83 => ?_) (fun c83 => ?_)
                  · skip
                    refine x_iconst (pc := 109) K (v := 0) d_R_badFlags_109 (by decide) ?_
                    exact x_zret (pc := 110) K (rF (by unfold bdF; first | (simp_all; done) | grind)) rfl rfl d_R_badFlags_110
                  · skip
                    refine x_iload_n (pc := 86) K 3 d_R_badFlags_86 rfl ?_
                    refine x_bipush (pc := 87) K (v := 8) d_R_badFlags_87 (by decide) ?_
                    refine x_callS (pc := 89) K (As := [.int f, .int 8]) (rest := []) (c_R_has l w M f 8) (zcwS K.ts lk_R_66 sm_R_has ii_R co_R_has pd_R_has ⟨rfl, rfl⟩ ⟨by decide, by decide⟩) rfl rfl (Nat.le_of_ble_eq_true rfl) ⟨Nat.zero_le _, Nat.zero_le _⟩ d_R_badFlags_89 ?_
                    refine x_ifneB (pc := 92) K (tgt := 105) d_R_badFlags_92 (by decide) (fun c92 => ?_) (fun c92 => ?_)
                    · skip
                      refine x_iconst (pc := 105) K (v := 1) d_R_badFlags_105 (by decide) ?_
                      refine x_goto (pc := 106) K (tgt := 110) d_R_badFlags_106 (by decide) ?_
                      exact x_zret (pc := 110) K (rT (by unfold bdF; first | (simp_all; done) | grind)) rfl rfl d_R_badFlags_110
                    · skip
                      refine x_iload_n (pc := 95) K 0 d_R_badFlags_95 rfl ?_
                      refine x_iconst (pc := 96) K (v := 1) d_R_badFlags_96 (by decide) ?_
                      refine x_icmp_eq (pc := 97) K (tgt := 105) d_R_badFlags_97 (by decide) (fun c97 => ?_) (fun c97 => ?_)
                      · skip
                        refine x_iconst (pc := 105) K (v := 1) d_R_badFlags_105 (by decide) ?_
                        refine x_goto (pc := 106) K (tgt := 110) d_R_badFlags_106 (by decide) ?_
                        exact x_zret (pc := 110) K (rT (by unfold bdF; first | (simp_all; done) | grind)) rfl rfl d_R_badFlags_110
                      · skip
                        refine x_iload_n (pc := 100) K 0 d_R_badFlags_100 rfl ?_
                        refine x_iconst (pc := 101) K (v := 2) d_R_badFlags_101 (by decide) ?_
                        refine x_icmp_ne (pc := 102) K (tgt := 109) d_R_badFlags_102 (by decide) (fun c102 => ?_) (fun c102 => ?_)
                        · skip
                          refine x_iconst (pc := 109) K (v := 0) d_R_badFlags_109 (by decide) ?_
                          exact x_zret (pc := 110) K (rF (by unfold bdF; first | (simp_all; done) | grind)) rfl rfl d_R_badFlags_110
                        · skip
                          refine x_iconst (pc := 105) K (v := 1) d_R_badFlags_105 (by decide) ?_
                          refine x_goto (pc := 106) K (tgt := 110) d_R_badFlags_106 (by decide) ?_
                          exact x_zret (pc := 110) K (rT (by unfold bdF; first | (simp_all; done) | grind)) rfl rfl d_R_badFlags_110
                · skip
                  refine x_iload_n (pc := 75) K 3 d_R_badFlags_75 rfl ?_
                  refine x_bipush (pc := 76) K (v := 15) d_R_badFlags_76 (by decide) ?_
                  refine x_icmp_ne (pc := 78) K (tgt := 105) d_R_badFlags_78 (by decide) (fun c78 => ?_) (fun c78 => ?_)
                  · skip
                    refine x_iconst (pc := 105) K (v := 1) d_R_badFlags_105 (by decide) ?_
                    refine x_goto (pc := 106) K (tgt := 110) d_R_badFlags_106 (by decide) ?_
                    exact x_zret (pc := 110) K (rT (by unfold bdF; first | (simp_all; done) | grind)) rfl rfl d_R_badFlags_110
                  · skip
                    refine x_iload_n (pc := 81) K 2 d_R_badFlags_81 rfl ?_
                    refine x_iconst (pc := 82) K (v := 1) d_R_badFlags_82 (by decide) ?_
                    refine x_icmp_ne (pc := 83) K (tgt := 109) d_R_badFlags_83 (by decide) (fun c83 => ?_) (fun c83 => ?_)
                    · skip
                      refine x_iconst (pc := 109) K (v := 0) d_R_badFlags_109 (by decide) ?_
                      exact x_zret (pc := 110) K (rF (by unfold bdF; first | (simp_all; done) | grind)) rfl rfl d_R_badFlags_110
                    · skip
                      refine x_iload_n (pc := 86) K 3 d_R_badFlags_86 rfl ?_
                      refine x_bipush (pc := 87) K (v := 8) d_R_badFlags_87 (by decide) ?_
                      refine x_callS (pc := 89) K (As := [.int f, .int 8]) (rest := []) (c_R_has l w M f 8) (zcwS K.ts lk_R_66 sm_R_has ii_R co_R_has pd_R_has ⟨rfl, rfl⟩ ⟨by decide, by decide⟩) rfl rfl (Nat.le_of_ble_eq_true rfl) ⟨Nat.zero_le _, Nat.zero_le _⟩ d_R_badFlags_89 ?_
                      refine x_ifneB (pc := 92) K (tgt := 105) d_R_badFlags_92 (by decide) (fun c92 => ?_) (fun c92 => ?_)
                      · skip
                        refine x_iconst (pc := 105) K (v := 1) d_R_badFlags_105 (by decide) ?_
                        refine x_goto (pc := 106) K (tgt := 110) d_R_badFlags_106 (by decide) ?_
                        exact x_zret (pc := 110) K (rT (by unfold bdF; first | (simp_all; done) | grind)) rfl rfl d_R_badFlags_110
                      · skip
                        refine x_iload_n (pc := 95) K 0 d_R_badFlags_95 rfl ?_
                        refine x_iconst (pc := 96) K (v := 1) d_R_badFlags_96 (by decide) ?_
                        refine x_icmp_eq (pc := 97) K (tgt := 105) d_R_badFlags_97 (by decide) (fun c97 => ?_) (fun c97 => ?_)
                        · skip
                          refine x_iconst (pc := 105) K (v := 1) d_R_badFlags_105 (by decide) ?_
                          refine x_goto (pc := 106) K (tgt := 110) d_R_badFlags_106 (by decide) ?_
                          exact x_zret (pc := 110) K (rT (by unfold bdF; first | (simp_all; done) | grind)) rfl rfl d_R_badFlags_110
                        · skip
                          refine x_iload_n (pc := 100) K 0 d_R_badFlags_100 rfl ?_
                          refine x_iconst (pc := 101) K (v := 2) d_R_badFlags_101 (by decide) ?_
                          refine x_icmp_ne (pc := 102) K (tgt := 109) d_R_badFlags_102 (by decide) (fun c102 => ?_) (fun c102 => ?_)
                          · skip
                            refine x_iconst (pc := 109) K (v := 0) d_R_badFlags_109 (by decide) ?_
                            exact x_zret (pc := 110) K (rF (by unfold bdF; first | (simp_all; done) | grind)) rfl rfl d_R_badFlags_110
                          · skip
                            refine x_iconst (pc := 105) K (v := 1) d_R_badFlags_105 (by decide) ?_
                            refine x_goto (pc := 106) K (tgt := 110) d_R_badFlags_106 (by decide) ?_
                            exact x_zret (pc := 110) K (rT (by unfold bdF; first | (simp_all; done) | grind)) rfl rfl d_R_badFlags_110
            · skip
              refine x_iconst (pc := 60) K (v := 0) d_R_badFlags_60 (by decide) ?_
              exact x_zret (pc := 61) K (rF (by unfold bdF; first | (simp_all; done) | grind)) rfl rfl d_R_badFlags_61
          · skip
            refine x_iload_n (pc := 39) K 2 d_R_badFlags_39 rfl ?_
            refine x_iconst (pc := 40) K (v := 3) d_R_badFlags_40 (by decide) ?_
            refine x_iand (pc := 41) K d_R_badFlags_41 ?_
            refine x_if_eq (pc := 42) K (tgt := 54) d_R_badFlags_42 (by decide) (fun c42 => ?_) (fun c42 => ?_)
            · skip
              refine x_iconst (pc := 54) K (v := 1) d_R_badFlags_54 (by decide) ?_
              exact x_zret (pc := 55) K (rT (by unfold bdF; first | (simp_all; done) | grind)) rfl rfl d_R_badFlags_55
            · skip
              refine x_iload_n (pc := 45) K 2 d_R_badFlags_45 rfl ?_
              refine x_bipush (pc := 46) K (v := 12) d_R_badFlags_46 (by decide) ?_
              refine x_callS (pc := 48) K (As := [.int f, .int 12]) (rest := []) (c_R_has l w M f 12) (zcwS K.ts lk_R_66 sm_R_has ii_R co_R_has pd_R_has ⟨rfl, rfl⟩ ⟨by decide, by decide⟩) rfl rfl (Nat.le_of_ble_eq_true rfl) ⟨Nat.zero_le _, Nat.zero_le _⟩ d_R_badFlags_48 ?_
              refine x_ifeqB (pc := 51) K (tgt := 56) d_R_badFlags_51 (by decide) (fun c51 => ?_) (fun c51 => ?_)
              · skip
                refine x_iload_n (pc := 56) K 0 d_R_badFlags_56 rfl ?_
                refine x_if_ne (pc := 57) K (tgt := 62) d_R_badFlags_57 (by decide) (fun c57 => ?_) (fun c57 => ?_)
                · skip
                  refine x_iload_n (pc := 62) K 2 d_R_badFlags_62 rfl ?_
                  refine x_iconst (pc := 63) K (v := 3) d_R_badFlags_63 (by decide) ?_
                  refine x_iand (pc := 64) K d_R_badFlags_64 ?_
                  refine x_istore_n (pc := 65) K (lv' := [(3, .int (f &&& 3)), (0, .int z), (1, .int k), (2, .int f)]) d_R_badFlags_65 (by decide) rfl ?_
                  refine x_iload_n (pc := 66) K 2 d_R_badFlags_66 rfl ?_
                  refine x_iconst (pc := 67) K (v := 2) d_R_badFlags_67 (by decide) ?_
                  refine x_icmp_eq (pc := 68) K (tgt := 105) d_R_badFlags_68 (by decide) (fun c68 => ?_) (fun c68 => ?_)
                  · skip
                    refine x_iconst (pc := 105) K (v := 1) d_R_badFlags_105 (by decide) ?_
                    refine x_goto (pc := 106) K (tgt := 110) d_R_badFlags_106 (by decide) ?_
                    exact x_zret (pc := 110) K (rT (by unfold bdF; first | (simp_all; done) | grind)) rfl rfl d_R_badFlags_110
                  · skip
                    refine x_iload_n (pc := 71) K 2 d_R_badFlags_71 rfl ?_
                    refine x_if_ne (pc := 72) K (tgt := 81) d_R_badFlags_72 (by decide) (fun c72 => ?_) (fun c72 => ?_)
                    · skip
                      refine x_iload_n (pc := 81) K 2 d_R_badFlags_81 rfl ?_
                      refine x_iconst (pc := 82) K (v := 1) d_R_badFlags_82 (by decide) ?_
                      refine x_icmp_ne (pc := 83) K (tgt := 109) d_R_badFlags_83 (by decide) (fun c83 => ?_) (fun c83 => ?_)
                      · skip
                        refine x_iconst (pc := 109) K (v := 0) d_R_badFlags_109 (by decide) ?_
                        exact x_zret (pc := 110) K (rF (by unfold bdF; first | (simp_all; done) | grind)) rfl rfl d_R_badFlags_110
                      · skip
                        refine x_iload_n (pc := 86) K 3 d_R_badFlags_86 rfl ?_
                        refine x_bipush (pc := 87) K (v := 8) d_R_badFlags_87 (by decide) ?_
                        refine x_callS (pc := 89) K (As := [.int f, .int 8]) (rest := []) (c_R_has l w M f 8) (zcwS K.ts lk_R_66 sm_R_has ii_R co_R_has pd_R_has ⟨rfl, rfl⟩ ⟨by decide, by decide⟩) rfl rfl (Nat.le_of_ble_eq_true rfl) ⟨Nat.zero_le _, Nat.zero_le _⟩ d_R_badFlags_89 ?_
                        refine x_ifneB (pc := 92) K (tgt := 105) d_R_badFlags_92 (by decide) (fun c92 => ?_) (fun c92 => ?_)
                        · skip
                          refine x_iconst (pc := 105) K (v := 1) d_R_badFlags_105 (by decide) ?_
                          refine x_goto (pc := 106) K (tgt := 110) d_R_badFlags_106 (by decide) ?_
                          exact x_zret (pc := 110) K (rT (by unfold bdF; first | (simp_all; done) | grind)) rfl rfl d_R_badFlags_110
                        · skip
                          refine x_iload_n (pc := 95) K 0 d_R_badFlags_95 rfl ?_
                          refine x_iconst (pc := 96) K (v := 1) d_R_badFlags_96 (by decide) ?_
                          refine x_icmp_eq (pc := 97) K (tgt := 105) d_R_badFlags_97 (by decide) (fun c97 => ?_) (fun c97 => ?_)
                          · skip
                            refine x_iconst (pc := 105) K (v := 1) d_R_badFlags_105 (by decide) ?_
                            refine x_goto (pc := 106) K (tgt := 110) d_R_badFlags_106 (by decide) ?_
                            exact x_zret (pc := 110) K (rT (by unfold bdF; first | (simp_all; done) | grind)) rfl rfl d_R_badFlags_110
                          · skip
                            refine x_iload_n (pc := 100) K 0 d_R_badFlags_100 rfl ?_
                            refine x_iconst (pc := 101) K (v := 2) d_R_badFlags_101 (by decide) ?_
                            refine x_icmp_ne (pc := 102) K (tgt := 109) d_R_badFlags_102 (by decide) (fun c102 => ?_) (fun c102 => ?_)
                            · skip
                              refine x_iconst (pc := 109) K (v := 0) d_R_badFlags_109 (by decide) ?_
                              exact x_zret (pc := 110) K (rF (by unfold bdF; first | (simp_all; done) | grind)) rfl rfl d_R_badFlags_110
                            · skip
                              refine x_iconst (pc := 105) K (v := 1) d_R_badFlags_105 (by decide) ?_
                              refine x_goto (pc := 106) K (tgt := 110) d_R_badFlags_106 (by decide) ?_
                              exact x_zret (pc := 110) K (rT (by unfold bdF; first | (simp_all; done) | grind)) rfl rfl d_R_badFlags_110
                    · skip
                      refine x_iload_n (pc := 75) K 3 d_R_badFlags_75 rfl ?_
                      refine x_bipush (pc := 76) K (v := 15) d_R_badFlags_76 (by decide) ?_
                      refine x_icmp_ne (pc := 78) K (tgt := 105) d_R_badFlags_78 (by decide) (fun c78 => ?_) (fun c78 => ?_)
                      · skip
                        refine x_iconst (pc := 105) K (v := 1) d_R_badFlags_105 (by decide) ?_
                        refine x_goto (pc := 106) K (tgt := 110) d_R_badFlags_106 (by decide) ?_
                        exact x_zret (pc := 110) K (rT (by unfold bdF; first | (simp_all; done) | grind)) rfl rfl d_R_badFlags_110
                      · skip
                        refine x_iload_n (pc := 81) K 2 d_R_badFlags_81 rfl ?_
                        refine x_iconst (pc := 82) K (v := 1) d_R_badFlags_82 (by decide) ?_
                        refine x_icmp_ne (pc := 83) K (tgt := 109) d_R_badFlags_83 (by decide) (fun c83 => ?_) (fun c83 => ?_)
                        · skip
                          refine x_iconst (pc := 109) K (v := 0) d_R_badFlags_109 (by decide) ?_
                          exact x_zret (pc := 110) K (rF (by unfold bdF; first | (simp_all; done) | grind)) rfl rfl d_R_badFlags_110
                        · skip
                          refine x_iload_n (pc := 86) K 3 d_R_badFlags_86 rfl ?_
                          refine x_bipush (pc := 87) K (v := 8) d_R_badFlags_87 (by decide) ?_
                          refine x_callS (pc := 89) K (As := [.int f, .int 8]) (rest := []) (c_R_has l w M f 8) (zcwS K.ts lk_R_66 sm_R_has ii_R co_R_has pd_R_has ⟨rfl, rfl⟩ ⟨by decide, by decide⟩) rfl rfl (Nat.le_of_ble_eq_true rfl) ⟨Nat.zero_le _, Nat.zero_le _⟩ d_R_badFlags_89 ?_
                          refine x_ifneB (pc := 92) K (tgt := 105) d_R_badFlags_92 (by decide) (fun c92 => ?_) (fun c92 => ?_)
                          · skip
                            refine x_iconst (pc := 105) K (v := 1) d_R_badFlags_105 (by decide) ?_
                            refine x_goto (pc := 106) K (tgt := 110) d_R_badFlags_106 (by decide) ?_
                            exact x_zret (pc := 110) K (rT (by unfold bdF; first | (simp_all; done) | grind)) rfl rfl d_R_badFlags_110
                          · skip
                            refine x_iload_n (pc := 95) K 0 d_R_badFlags_95 rfl ?_
                            refine x_iconst (pc := 96) K (v := 1) d_R_badFlags_96 (by decide) ?_
                            refine x_icmp_eq (pc := 97) K (tgt := 105) d_R_badFlags_97 (by decide) (fun c97 => ?_) (fun c97 => ?_)
                            · skip
                              refine x_iconst (pc := 105) K (v := 1) d_R_badFlags_105 (by decide) ?_
                              refine x_goto (pc := 106) K (tgt := 110) d_R_badFlags_106 (by decide) ?_
                              exact x_zret (pc := 110) K (rT (by unfold bdF; first | (simp_all; done) | grind)) rfl rfl d_R_badFlags_110
                            · skip
                              refine x_iload_n (pc := 100) K 0 d_R_badFlags_100 rfl ?_
                              refine x_iconst (pc := 101) K (v := 2) d_R_badFlags_101 (by decide) ?_
                              refine x_icmp_ne (pc := 102) K (tgt := 109) d_R_badFlags_102 (by decide) (fun c102 => ?_) (fun c102 => ?_)
                              · skip
                                refine x_iconst (pc := 109) K (v := 0) d_R_badFlags_109 (by decide) ?_
                                exact x_zret (pc := 110) K (rF (by unfold bdF; first | (simp_all; done) | grind)) rfl rfl d_R_badFlags_110
                              · skip
                                refine x_iconst (pc := 105) K (v := 1) d_R_badFlags_105 (by decide) ?_
                                refine x_goto (pc := 106) K (tgt := 110) d_R_badFlags_106 (by decide) ?_
                                exact x_zret (pc := 110) K (rT (by unfold bdF; first | (simp_all; done) | grind)) rfl rfl d_R_badFlags_110
                · skip
                  refine x_iconst (pc := 60) K (v := 0) d_R_badFlags_60 (by decide) ?_
                  exact x_zret (pc := 61) K (rF (by unfold bdF; first | (simp_all; done) | grind)) rfl rfl d_R_badFlags_61
              · skip
                refine x_iconst (pc := 54) K (v := 1) d_R_badFlags_54 (by decide) ?_
                exact x_zret (pc := 55) K (rT (by unfold bdF; first | (simp_all; done) | grind)) rfl rfl d_R_badFlags_55
        · skip
          refine x_iconst (pc := 28) K (v := 1) d_R_badFlags_28 (by decide) ?_
          exact x_zret (pc := 29) K (rT (by unfold bdF; first | (simp_all; done) | grind)) rfl rfl d_R_badFlags_29
abbrev sev (r : Int32) : Int32 := if r = 9 ∨ r = 13 then 1 else if r = 2 ∨ r = 3 ∨ r = 8 ∨ r = 11 ∨ r = 12 then 2 else 3
set_option maxHeartbeats 4000000 in
set_option maxRecDepth 100000 in
theorem c_R_severity (l : Launch) (w : fl_W) (M : fl_M) (r : Int32) : CT l y_R_severity w_R_severity rm_R_severity w zN [.int r] M (some (.int (sev r))) M := by
  refine CT.of (cc := b_R_severity) (own := "CompatibilityJudgeModel") (by decide) rfl rfl (Nat.le_of_ble_eq_true rfl) ?_
  intro p9 e9 s9 m9 ag9 bl9 mt9 c9 K
  show XW p9 l e9 (rm_R_severity) s9 m9 ag9 bl9 mt9 c9 1 0 0 (MQ bl9 (CQ w zN (some (.int (sev r))) M) ag9 s9 0 0 (fun q : Nat => w.2.2 ≤ q)) w zN M 0 [(0, .int r)] []
  refine x_iload_n (pc := 0) K 0 d_R_severity_0 rfl ?_
  refine x_bipush (pc := 1) K (v := 9) d_R_severity_1 (by decide) ?_
  refine x_icmp_eq (pc := 3) K (tgt := 12) d_R_severity_3 (by decide) (fun c3 => ?_) (fun c3 => ?_)
  · skip
    refine x_iconst (pc := 12) K (v := 1) d_R_severity_12 (by decide) ?_
    refine x_goto (pc := 13) K (tgt := 49) d_R_severity_13 (by decide) ?_
    exact x_iret (pc := 49) K (by unfold sev; simp_all) (rfl) d_R_severity_49
  · skip
    refine x_iload_n (pc := 6) K 0 d_R_severity_6 rfl ?_
    refine x_bipush (pc := 7) K (v := 13) d_R_severity_7 (by decide) ?_
    refine x_icmp_ne (pc := 9) K (tgt := 16) d_R_severity_9 (by decide) (fun c9 => ?_) (fun c9 => ?_)
    · skip
      refine x_iload_n (pc := 16) K 0 d_R_severity_16 rfl ?_
      refine x_iconst (pc := 17) K (v := 2) d_R_severity_17 (by decide) ?_
      refine x_icmp_eq (pc := 18) K (tgt := 44) d_R_severity_18 (by decide) (fun c18 => ?_) (fun c18 => ?_)
      · skip
        refine x_iconst (pc := 44) K (v := 2) d_R_severity_44 (by decide) ?_
        refine x_goto (pc := 45) K (tgt := 49) d_R_severity_45 (by decide) ?_
        exact x_iret (pc := 49) K (by unfold sev; simp_all) (rfl) d_R_severity_49
      · skip
        refine x_iload_n (pc := 21) K 0 d_R_severity_21 rfl ?_
        refine x_iconst (pc := 22) K (v := 3) d_R_severity_22 (by decide) ?_
        refine x_icmp_eq (pc := 23) K (tgt := 44) d_R_severity_23 (by decide) (fun c23 => ?_) (fun c23 => ?_)
        · skip
          refine x_iconst (pc := 44) K (v := 2) d_R_severity_44 (by decide) ?_
          refine x_goto (pc := 45) K (tgt := 49) d_R_severity_45 (by decide) ?_
          exact x_iret (pc := 49) K (by unfold sev; simp_all) (rfl) d_R_severity_49
        · skip
          refine x_iload_n (pc := 26) K 0 d_R_severity_26 rfl ?_
          refine x_bipush (pc := 27) K (v := 8) d_R_severity_27 (by decide) ?_
          refine x_icmp_eq (pc := 29) K (tgt := 44) d_R_severity_29 (by decide) (fun c29 => ?_) (fun c29 => ?_)
          · skip
            refine x_iconst (pc := 44) K (v := 2) d_R_severity_44 (by decide) ?_
            refine x_goto (pc := 45) K (tgt := 49) d_R_severity_45 (by decide) ?_
            exact x_iret (pc := 49) K (by unfold sev; simp_all) (rfl) d_R_severity_49
          · skip
            refine x_iload_n (pc := 32) K 0 d_R_severity_32 rfl ?_
            refine x_bipush (pc := 33) K (v := 11) d_R_severity_33 (by decide) ?_
            refine x_icmp_eq (pc := 35) K (tgt := 44) d_R_severity_35 (by decide) (fun c35 => ?_) (fun c35 => ?_)
            · skip
              refine x_iconst (pc := 44) K (v := 2) d_R_severity_44 (by decide) ?_
              refine x_goto (pc := 45) K (tgt := 49) d_R_severity_45 (by decide) ?_
              exact x_iret (pc := 49) K (by unfold sev; simp_all) (rfl) d_R_severity_49
            · skip
              refine x_iload_n (pc := 38) K 0 d_R_severity_38 rfl ?_
              refine x_bipush (pc := 39) K (v := 12) d_R_severity_39 (by decide) ?_
              refine x_icmp_ne (pc := 41) K (tgt := 48) d_R_severity_41 (by decide) (fun c41 => ?_) (fun c41 => ?_)
              · skip
                refine x_iconst (pc := 48) K (v := 3) d_R_severity_48 (by decide) ?_
                exact x_iret (pc := 49) K (by unfold sev; simp_all) (rfl) d_R_severity_49
              · skip
                refine x_iconst (pc := 44) K (v := 2) d_R_severity_44 (by decide) ?_
                refine x_goto (pc := 45) K (tgt := 49) d_R_severity_45 (by decide) ?_
                exact x_iret (pc := 49) K (by unfold sev; simp_all) (rfl) d_R_severity_49
    · skip
      refine x_iconst (pc := 12) K (v := 1) d_R_severity_12 (by decide) ?_
      refine x_goto (pc := 13) K (tgt := 49) d_R_severity_13 (by decide) ?_
      exact x_iret (pc := 49) K (by unfold sev; simp_all) (rfl) d_R_severity_49
abbrev qM (μ : Nat → Nat → Int32) (r : Nat) : Nat := ix (μ 285 r)
abbrev qF (μ : Nat → Nat → Int32) (r : Nat) : Nat := ix (μ 283 r)
/-- a row of the reference: counts -/
def rC (μ : Nat → Nat → Int32) (r : Nat) : Prop := (μ 283 r = nI (qF μ r) ∧ qF μ r ≤ 3) ∧ (μ 285 r = nI (qM μ r) ∧ qM μ r ≤ 8)
/-- the cell of the own member, or -1 -/
def qOwnF (μ : Nat → Nat → Int32) (r : Nat) (a b : Int32) : Option Nat := fnd (fun i => μ 286 (8 * r + i) = a ∧ μ 287 (8 * r + i) = b) 0 (qM μ r)
def cell (r : Nat) (F : Option Nat) : Int32 := match F with
  | none => -1
  | some i => nI (8 * r + i)
def qOwn (μ : Nat → Nat → Int32) (r : Nat) (a b : Int32) : Int32 := if μ 279 r = 0 then -1 else cell r (qOwnF μ r a b)
set_option maxHeartbeats 4000000 in
set_option maxRecDepth 100000 in
theorem lp_R_own (l : Launch) (w : fl_W) (M : fl_M) (o : Nat) (hR : zRf o M.2) (r : Nat) (hr : r < 24) (hc : rC M.1 r) (a b : Int32) (F : Option Nat) {p9 : Program} {e9 : Env} {s9 : State} {m9 : MethodId} {ag9 : Array Value} {bl9 : List Frame} {mt9 : Method} {c9 : Code} (K : XC p9 s9 m9 ag9 mt9 c9 b_R_own 5 (some .int) w_R_own "CompatibilityJudgeModel" w) : ∀ (k : Nat) (i : Nat), i ≤ qM M.1 r → qM M.1 r + 1 ≤ i + k → fnd (fun i => M.1 286 (8 * r + i) = a ∧ M.1 287 (8 * r + i) = b) i (qM M.1 r - i) = F → XW p9 l e9 (rm_R_own) s9 m9 ag9 bl9 mt9 c9 5 0 0 (MQ bl9 (CQ w zN (some (.int (cell r F))) M) ag9 s9 0 0 (fun q : Nat => w.2.2 ≤ q)) w zN M 17 [(4, .int (nI (8 * r + i))), (0, .ref (w.2.2 + 278)), (1, .int (nI r)), (2, .int a), (3, .int b)] [] := by
  have h8 := hc.2.2
  intro k
  induction k with
  | zero =>
    intro i hi hk
    exact absurd hk (by omega)
  | succ k ih =>
    intro i hi hk hf
    refine x_iload (pc := 17) K 0 d_R_own_17 rfl ?_
    refine x_bipush (pc := 19) K (v := nI 8) d_R_own_19 (by decide) ?_
    refine x_iload_n (pc := 21) K 2 d_R_own_21 rfl ?_
    refine x_imul (pc := 22) K d_R_own_22 ?_
    refine x_eqi (y := nI (8 * r)) (pk_mul _ _) ?_
    refine x_aload_n (pc := 23) K 1 d_R_own_23 rfl ?_
    refine x_getr (pc := 24) K (n := 278) (n' := 285) (k := 6) (zlt shR) shR rfl hR.r285 rfl (by decide) (fun _ q => zmem (uw_R _ q)) (zmem lk_R_29) d_R_own_24 ?_
    refine x_iload_n (pc := 27) K 2 d_R_own_27 rfl ?_
    refine x_iald (pc := 28) K (n := 285) (j := r) rfl (by omega) (zlt sh285) sh285 rfl (by decide) d_R_own_28 ?_
    refine x_eqi (y := nI (qM M.1 r)) (hc.2.1) ?_
    refine x_iadd (pc := 29) K d_R_own_29 ?_
    refine x_eqi (y := nI ((8 * r) + (qM M.1 r))) (nI_add _ _) ?_
    refine x_icmp_ge (pc := 30) K (tgt := 64) d_R_own_30 (by decide) (fun c30 => ?_) (fun c30 => ?_)
    · skip
      have hic : i = qM M.1 r := by have := (nI_leI (by omega) (by omega)).mp c30; omega
      rw [hic, Nat.sub_self] at hf
      refine x_iconst (pc := 64) K (v := (-1)) d_R_own_64 (by decide) ?_
      exact x_iret (pc := 65) K (by subst hf; rfl) (rfl) d_R_own_65
    · skip
      have hic : i < qM M.1 r := by have := Nat.not_le.mp (fun q => c30 (nI_le q (by omega))); omega
      rw [show qM M.1 r - i = (qM M.1 r - (i + 1)) + 1 by omega, fnd] at hf
      refine x_aload_n (pc := 33) K 1 d_R_own_33 rfl ?_
      refine x_getr (pc := 34) K (n := 278) (n' := 286) (k := 7) (zlt shR) shR rfl hR.r286 rfl (by decide) (fun _ q => zmem (uw_R _ q)) (zmem lk_R_32) d_R_own_34 ?_
      refine x_iload (pc := 37) K 0 d_R_own_37 rfl ?_
      refine x_iald (pc := 39) K (n := 286) (j := 8 * r + i) rfl (by omega) (zlt sh286) sh286 rfl (by decide) d_R_own_39 ?_
      refine x_iload_n (pc := 40) K 3 d_R_own_40 rfl ?_
      refine x_icmp_ne (pc := 41) K (tgt := 58) d_R_own_41 (by decide) (fun c41 => ?_) (fun c41 => ?_)
      · skip
        rw [if_neg (fun q => c41 q.1)] at hf
        refine x_iinc (pc := 58) K (v := nI (8 * r + (i + 1))) (lv' := [(4, .int (nI (8 * r + (i + 1)))), (0, .ref (w.2.2 + 278)), (1, .int (nI r)), (2, .int a), (3, .int b)]) 0 d_R_own_58 rfl (nI_1 _) (by decide) rfl ?_
        refine x_goto (pc := 61) K (tgt := 17) d_R_own_61 (by decide) ?_
        exact ih (i + 1) (by omega) (by omega) hf
      · skip
        refine x_aload_n (pc := 44) K 1 d_R_own_44 rfl ?_
        refine x_getr (pc := 45) K (n := 278) (n' := 287) (k := 8) (zlt shR) shR rfl hR.r287 rfl (by decide) (fun _ q => zmem (uw_R _ q)) (zmem lk_R_35) d_R_own_45 ?_
        refine x_iload (pc := 48) K 0 d_R_own_48 rfl ?_
        refine x_iald (pc := 50) K (n := 287) (j := 8 * r + i) rfl (by omega) (zlt sh287) sh287 rfl (by decide) d_R_own_50 ?_
        refine x_iload_n (pc := 51) K 4 d_R_own_51 rfl ?_
        refine x_icmp_ne (pc := 52) K (tgt := 58) d_R_own_52 (by decide) (fun c52 => ?_) (fun c52 => ?_)
        · skip
          rw [if_neg (fun q => c52 q.2)] at hf
          refine x_iinc (pc := 58) K (v := nI (8 * r + (i + 1))) (lv' := [(4, .int (nI (8 * r + (i + 1)))), (0, .ref (w.2.2 + 278)), (1, .int (nI r)), (2, .int a), (3, .int b)]) 0 d_R_own_58 rfl (nI_1 _) (by decide) rfl ?_
          refine x_goto (pc := 61) K (tgt := 17) d_R_own_61 (by decide) ?_
          exact ih (i + 1) (by omega) (by omega) hf
        · skip
          rw [if_pos ⟨c41, c52⟩] at hf
          refine x_iload (pc := 55) K 0 d_R_own_55 rfl ?_
          exact x_iret (pc := 57) K (by subst hf; rfl) (rfl) d_R_own_57
set_option maxHeartbeats 4000000 in
set_option maxRecDepth 100000 in
theorem c_R_own (l : Launch) (w : fl_W) (M : fl_M) (o : Nat) (hR : zRf o M.2) (r : Nat) (hr : r < 24) (hc : rC M.1 r) (a b : Int32)  : CT l y_R_own w_R_own rm_R_own w zN [.ref (w.2.2 + 278), .int (nI r), .int a, .int b] M (some (.int (qOwn M.1 r a b))) M := by
  refine CT.of (cc := b_R_own) (own := "CompatibilityJudgeModel") (by decide) rfl rfl (Nat.le_of_ble_eq_true rfl) ?_
  intro p9 e9 s9 m9 ag9 bl9 mt9 c9 K
  show XW p9 l e9 (rm_R_own) s9 m9 ag9 bl9 mt9 c9 5 0 0 (MQ bl9 (CQ w zN (some (.int (qOwn M.1 r a b))) M) ag9 s9 0 0 (fun q : Nat => w.2.2 ≤ q)) w zN M 0 [(0, .ref (w.2.2 + 278)), (1, .int (nI r)), (2, .int a), (3, .int b)] []
  refine x_aload_n (pc := 0) K 0 d_R_own_0 rfl ?_
  refine x_getr (pc := 1) K (n := 278) (n' := 279) (k := 0) (zlt shR) shR rfl hR.r279 rfl (by decide) (fun _ q => zmem (uw_R _ q)) (zmem lk_R_7) d_R_own_1 ?_
  refine x_iload_n (pc := 4) K 1 d_R_own_4 rfl ?_
  refine x_zald (pc := 5) K (n := 279) (j := r) rfl (by omega) (zlt sh279) sh279 rfl (by decide) d_R_own_5 ?_
  refine x_if_ne (pc := 6) K (tgt := 11) d_R_own_6 (by decide) (fun c6 => ?_) (fun c6 => ?_)
  · skip
    refine x_bipush (pc := 11) K (v := nI 8) d_R_own_11 (by decide) ?_
    refine x_iload_n (pc := 13) K 1 d_R_own_13 rfl ?_
    refine x_imul (pc := 14) K d_R_own_14 ?_
    refine x_eqi (y := nI (8 * r)) (pk_mul _ _) ?_
    refine x_istore (pc := 15) K (lv' := [(4, .int (nI (8 * r))), (0, .ref (w.2.2 + 278)), (1, .int (nI r)), (2, .int a), (3, .int b)]) d_R_own_15 (by decide) rfl ?_
    rw [show qOwn M.1 r a b = cell r (qOwnF M.1 r a b) from if_neg c6]
    exact lp_R_own l w M o hR r hr hc a b _ K (qM M.1 r + 1) 0 (by omega) (by omega) (by rw [Nat.sub_zero]; rfl)
  · skip
    refine x_iconst (pc := 9) K (v := (-1)) d_R_own_9 (by decide) ?_
    exact x_iret (pc := 10) K (by unfold qOwn; rw [if_pos c6]) (rfl) d_R_own_10
