abbrev okK (k q : Int32) : Prop := (¬ k < 0 ∧ ¬ (3 : Int32) ≤ k) ∧ (¬ q < 0 ∧ ¬ zKL (ix k) ≤ q)
set_option maxHeartbeats 4000000 in
set_option maxRecDepth 100000 in
theorem c_J_isKey (l : Launch) (w : fl_W) (M : fl_M) (k q : Int32) : CT l y_J_isKey w_J_isKey rm_J_isKey w zN [.int k, .int q] M (some (.int (bI (okK k q)))) M := by
  refine CT.of (cc := b_J_isKey) (own := "CompatibilityJudge") (by decide) rfl rfl (Nat.le_of_ble_eq_true rfl) ?_
  intro p9 e9 s9 m9 ag9 bl9 mt9 c9 K
  show XW p9 l e9 (rm_J_isKey) s9 m9 ag9 bl9 mt9 c9 2 0 0 (MQ bl9 (CQ w zN (some (.int (bI (okK k q)))) M) ag9 s9 0 0 (fun q : Nat => w.2.2 ≤ q)) w zN M 0 [(0, .int k), (1, .int q)] []
  refine x_iload_n (pc := 0) K 0 d_J_isKey_0 rfl ?_
  refine x_iconst (pc := 1) K (v := 3) d_J_isKey_1 (by decide) ?_
  refine x_callS (pc := 2) K (As := [.int k, .int 3]) (rest := []) (c_J_isWithin l w M k 3) (zcwS K.ts lk_J_31 sm_J_isWithin ii_J co_J_isWithin pd_J_isWithin ⟨rfl, rfl⟩ ⟨by decide, by decide⟩) rfl rfl (Nat.le_of_ble_eq_true rfl) ⟨Nat.zero_le _, Nat.zero_le _⟩ d_J_isKey_2 ?_
  refine x_ifeqB (pc := 5) K (tgt := 24) d_J_isKey_5 (by decide) (fun c5 => ?_) (fun c5 => ?_)
  · skip
    refine x_iconst (pc := 24) K (v := 0) d_J_isKey_24 (by decide) ?_
    exact x_zret (pc := 25) K (rF (fun q => c5 q.1)) rfl rfl d_J_isKey_25
  · skip
    have hx := ix_of 3 (by omega) c5.1 c5.2
    refine x_iload_n (pc := 8) K 1 d_J_isKey_8 rfl ?_
    refine x_KL (pc := 9) K rfl (zmem lk_J_170) d_J_isKey_9 (fun t9 hT9 => ?_)
    refine x_iload_n (pc := 12) K 0 d_J_isKey_12 rfl ?_
    refine x_tald (pc := 13) K (j := ix k) hT9 hx.1 hx.2 (by decide) d_J_isKey_13 ?_
    refine x_callS (pc := 14) K (As := [.int q, .int (zKL (ix k))]) (rest := []) (c_J_isWithin l w M q (zKL (ix k))) (zcwS K.ts lk_J_31 sm_J_isWithin ii_J co_J_isWithin pd_J_isWithin ⟨rfl, rfl⟩ ⟨by decide, by decide⟩) rfl rfl (Nat.le_of_ble_eq_true rfl) ⟨Nat.zero_le _, Nat.zero_le _⟩ d_J_isKey_14 ?_
    refine x_ifeqB (pc := 17) K (tgt := 24) d_J_isKey_17 (by decide) (fun c17 => ?_) (fun c17 => ?_)
    · skip
      refine x_iconst (pc := 24) K (v := 0) d_J_isKey_24 (by decide) ?_
      exact x_zret (pc := 25) K (rF (fun q => c17 q.2)) rfl rfl d_J_isKey_25
    · skip
      refine x_iconst (pc := 20) K (v := 1) d_J_isKey_20 (by decide) ?_
      refine x_goto (pc := 21) K (tgt := 25) d_J_isKey_21 (by decide) ?_
      exact x_zret (pc := 25) K (rT (⟨c5, c17⟩)) rfl rfl d_J_isKey_25
abbrev okP (μ : Nat → Nat → Int32) (o : Nat) (b t p : Int32) : Prop := okT b t ∧ (¬ p < 0 ∧ ¬ μ (zb o (ix b) + 2 + 11 * ix t) 7 ≤ p)
set_option maxHeartbeats 4000000 in
set_option maxRecDepth 100000 in
theorem c_J_isMemberOf (l : Launch) (w : fl_W) (M : fl_M) (o : Nat) (hR : zRf o M.2) (b t p : Int32) : CT l y_J_isMemberOf w_J_isMemberOf rm_J_isMemberOf w zN [.ref (w.2.2 + 0), .int b, .int t, .int p] M (some (.int (bI (okP M.1 o b t p)))) M := by
  refine CT.of (cc := b_J_isMemberOf) (own := "CompatibilityJudge") (by decide) rfl rfl (Nat.le_of_ble_eq_true rfl) ?_
  intro p9 e9 s9 m9 ag9 bl9 mt9 c9 K
  show XW p9 l e9 (rm_J_isMemberOf) s9 m9 ag9 bl9 mt9 c9 4 0 0 (MQ bl9 (CQ w zN (some (.int (bI (okP M.1 o b t p)))) M) ag9 s9 0 0 (fun q : Nat => w.2.2 ≤ q)) w zN M 0 [(0, .ref (w.2.2 + 0)), (1, .int b), (2, .int t), (3, .int p)] []
  refine x_iload_n (pc := 0) K 1 d_J_isMemberOf_0 rfl ?_
  refine x_iload_n (pc := 1) K 2 d_J_isMemberOf_1 rfl ?_
  refine x_callS (pc := 2) K (As := [.int b, .int t]) (rest := []) (c_J_isTypeOf l w M b t) (zcwS K.ts lk_J_27 sm_J_isTypeOf ii_J co_J_isTypeOf pd_J_isTypeOf ⟨rfl, rfl⟩ ⟨by decide, by decide⟩) rfl rfl (Nat.le_of_ble_eq_true rfl) ⟨Nat.zero_le _, Nat.zero_le _⟩ d_J_isMemberOf_2 ?_
  refine x_ifeqB (pc := 5) K (tgt := 33) d_J_isMemberOf_5 (by decide) (fun c5 => ?_) (fun c5 => ?_)
  · skip
    refine x_iconst (pc := 33) K (v := 0) d_J_isMemberOf_33 (by decide) ?_
    exact x_zret (pc := 34) K (rF (fun q => c5 q.1)) rfl rfl d_J_isMemberOf_34
  · skip
    have hbx := ix_of 2 (by omega) c5.1.1 c5.1.2
    have htx := ix_of 12 (by omega) c5.2.1 c5.2.2
    refine x_iload_n (pc := 8) K 3 d_J_isMemberOf_8 rfl ?_
    refine x_aload_n (pc := 9) K 0 d_J_isMemberOf_9 rfl ?_
    refine x_getr (pc := 10) K (n := 0) (n' := 1) (k := 0) (zlt shJ) shJ rfl hR.Ja rfl (by decide) (fun _ q => zmem (uw_J _ q)) (zmem lk_J_12) d_J_isMemberOf_10 ?_
    refine x_iload_n (pc := 13) K 1 d_J_isMemberOf_13 rfl ?_
    refine x_aald (pc := 14) K (n := 1) (n' := zb o (ix b)) (j := ix b) hbx.1 hbx.2 (hR.Jb hbx.2) (zlt shA) shA rfl (by decide) d_J_isMemberOf_14 ?_
    refine x_getr (pc := 15) K (n := zb o (ix b)) (n' := (zb o (ix b)) + 1) (k := 0) (zlt (hR.shb hbx.2)) (hR.shb hbx.2) rfl (hR.Ba (hR.shb hbx.2)) rfl (by decide) (fun _ q => zmem (uw_B _ q)) (zmem lk_J_34) d_J_isMemberOf_15 ?_
    refine x_iload_n (pc := 18) K 2 d_J_isMemberOf_18 rfl ?_
    refine x_aald (pc := 19) K (n := (zb o (ix b)) + 1) (n' := (zb o (ix b)) + 2 + 11 * (ix t)) (j := ix t) htx.1 htx.2 (hR.Bt (hR.shb hbx.2) htx.2) (zlt (shBa (hR.shb hbx.2))) (shBa (hR.shb hbx.2)) rfl (by decide) d_J_isMemberOf_19 ?_
    refine x_geti (pc := 20) K (n := (zb o (ix b)) + 2 + 11 * (ix t)) (k := 7) (zlt (shBt (hR.shb hbx.2) htx.2)) (shBt (hR.shb hbx.2) htx.2) rfl rfl (by decide) (fun _ q => zmem (uw_T _ q)) (zmem lk_J_73) d_J_isMemberOf_20 ?_
    refine x_callS (pc := 23) K (As := [.int p, .int (M.1 ((zb o (ix b)) + 2 + 11 * (ix t)) 7)]) (rest := []) (c_J_isWithin l w M p (M.1 ((zb o (ix b)) + 2 + 11 * (ix t)) 7)) (zcwS K.ts lk_J_31 sm_J_isWithin ii_J co_J_isWithin pd_J_isWithin ⟨rfl, rfl⟩ ⟨by decide, by decide⟩) rfl rfl (Nat.le_of_ble_eq_true rfl) ⟨Nat.zero_le _, Nat.zero_le _⟩ d_J_isMemberOf_23 ?_
    refine x_ifeqB (pc := 26) K (tgt := 33) d_J_isMemberOf_26 (by decide) (fun c26 => ?_) (fun c26 => ?_)
    · skip
      refine x_iconst (pc := 33) K (v := 0) d_J_isMemberOf_33 (by decide) ?_
      exact x_zret (pc := 34) K (rF (fun q => c26 q.2)) rfl rfl d_J_isMemberOf_34
    · skip
      refine x_iconst (pc := 29) K (v := 1) d_J_isMemberOf_29 (by decide) ?_
      refine x_goto (pc := 30) K (tgt := 34) d_J_isMemberOf_30 (by decide) ?_
      exact x_zret (pc := 34) K (rT (⟨c5, c26⟩)) rfl rfl d_J_isMemberOf_34
abbrev sup (μ : Nat → Nat → Int32) (r t : Int32) : Prop := ¬ (μ 277 (ix r) >>> (t &&& 31)) &&& 1 = 0
set_option maxHeartbeats 4000000 in
set_option maxRecDepth 100000 in
theorem c_J_isSuppressed (l : Launch) (w : fl_W) (M : fl_M) (o : Nat) (hR : zRf o M.2) (r t : Int32) (hr : inL 14 r) : CT l y_J_isSuppressed w_J_isSuppressed rm_J_isSuppressed w zN [.ref (w.2.2 + 0), .int r, .int t] M (some (.int (bI (sup M.1 r t)))) M := by
  refine CT.of (cc := b_J_isSuppressed) (own := "CompatibilityJudge") (by decide) rfl rfl (Nat.le_of_ble_eq_true rfl) ?_
  intro p9 e9 s9 m9 ag9 bl9 mt9 c9 K
  show XW p9 l e9 (rm_J_isSuppressed) s9 m9 ag9 bl9 mt9 c9 3 0 0 (MQ bl9 (CQ w zN (some (.int (bI (sup M.1 r t)))) M) ag9 s9 0 0 (fun q : Nat => w.2.2 ≤ q)) w zN M 0 [(0, .ref (w.2.2 + 0)), (1, .int r), (2, .int t)] []
  refine x_aload_n (pc := 0) K 0 d_J_isSuppressed_0 rfl ?_
  refine x_getr (pc := 1) K (n := 0) (n' := 277) (k := 2) (zlt shJ) shJ rfl hR.Js rfl (by decide) (fun _ q => zmem (uw_J _ q)) (zmem lk_J_23) d_J_isSuppressed_1 ?_
  refine x_iload_n (pc := 4) K 1 d_J_isSuppressed_4 rfl ?_
  refine x_iald (pc := 5) K (n := 277) (j := ix r) hr.1 hr.2 (zlt shS) shS rfl (by decide) d_J_isSuppressed_5 ?_
  refine x_iload_n (pc := 6) K 2 d_J_isSuppressed_6 rfl ?_
  refine x_callS (pc := 7) K (As := [.int (M.1 277 (ix r)), .int t]) (rest := []) (c_J_contains l w M (M.1 277 (ix r)) t) (zcwS K.ts lk_J_161 sm_J_contains ii_J co_J_contains pd_J_contains ⟨rfl, rfl⟩ ⟨by decide, by decide⟩) rfl rfl (Nat.le_of_ble_eq_true rfl) ⟨Nat.zero_le _, Nat.zero_le _⟩ d_J_isSuppressed_7 ?_
  exact x_zret (pc := 10) K (rfl) rfl bI_n d_J_isSuppressed_10
theorem fl_off {b t u : Nat} (h : u ≠ t) : b + 2 + 11 * u ≠ b + 2 + 11 * t ∧ b + 2 + 11 * u + 1 ≠ b + 2 + 11 * t ∧ b + 2 + 11 * u ≠ b + 2 + 11 * t + 1 := ⟨by omega, by omega, by omega⟩
theorem bOk_def {M : fl_M} {b t : Nat} {k f p : Int32} (h : bOk M.1 b) (hp : p = -1 ∨ inL t p) : bOk (tDef M (b + 2 + 11 * t) k f p).1 b := by
  intro u hu
  have e1 : ∀ j, (tDef M (b + 2 + 11 * t) k f p).1 (b + 2 + 11 * u + 1) j = M.1 (b + 2 + 11 * u + 1) j := fun j => by
    rw [rdI_ne (Or.inl (by omega)), rdI_ne (Or.inl (by omega)), rdI_ne (Or.inl (by omega)), rdI_ne (Or.inl (by omega))]
  have e5 : ∀ j, 4 ≤ j → (tDef M (b + 2 + 11 * t) k f p).1 (b + 2 + 11 * u) j = M.1 (b + 2 + 11 * u) j := fun j hj => by
    rw [rdI_ne (Or.inr (by omega)), rdI_ne (Or.inr (by omega)), rdI_ne (Or.inr (by omega)), rdI_ne (Or.inr (by omega))]
  obtain ⟨⟨⟨a1, a2⟩, a3, a4⟩, a5, a6, a7⟩ := h u hu
  refine ⟨⟨⟨?_, ?_⟩, ?_, ?_⟩, ?_, ?_, ?_⟩
  · unfold cI; rw [e5 5 (by omega)]; exact a1
  · unfold cI; rw [e5 5 (by omega)]; exact a2
  · unfold cM; rw [e5 7 (by omega)]; exact a3
  · unfold cM; rw [e5 7 (by omega)]; exact a4
  · by_cases q : u = t
    · subst q
      rw [rdI_ne (Or.inr (by omega)), rdI_ne (Or.inr (by omega)), rdI_ne (Or.inr (by omega)), rdI_eq]
      exact Or.inr rfl
    · rw [rdI_ne (Or.inl (by omega)), rdI_ne (Or.inl (by omega)), rdI_ne (Or.inl (by omega)), rdI_ne (Or.inl (by omega))]
      exact a5
  · intro i hi
    unfold cI at hi
    rw [e5 5 (by omega)] at hi
    rw [e1]
    exact a6 i hi
  · by_cases q : u = t
    · subst q
      rw [rdI_eq]
      exact hp
    · rw [rdI_ne (Or.inl (by omega)), rdI_ne (Or.inl (by omega)), rdI_ne (Or.inl (by omega)), rdI_ne (Or.inl (by omega))]
      exact a7
theorem inL_lt {L : Nat} {x y : Int32} (hx : inL L x) (hy : inL L y) (hL : L < 2 ^ 31) (h : ¬ y ≤ x) : inL (ix y) x := by
  refine ⟨hx.1, Nat.not_le.mp fun q => h ?_⟩
  rw [hx.1, hy.1]
  exact nI_le q (by have := hx.2; omega)
abbrev yTy (M : fl_M) (o : Nat) (b t k f p : Int32) : Prop := okT b t ∧ (¬ k < 0 ∧ ¬ (2 : Int32) ≤ k) ∧ (¬ f < 0 ∧ ¬ (8 : Int32) ≤ f) ∧ (p = -1 ∨ (¬ p < 0 ∧ ¬ (12 : Int32) ≤ p)) ∧ M.1 (zb o (ix b) + 2 + 11 * ix t) 0 = 0 ∧ ¬ t ≤ p ∧ okTy k f p
def xTy (M : fl_M) (o : Nat) (b t k f p : Int32) : fl_M := wI (stl (tDef M (zb o (ix b) + 2 + 11 * ix t) k f p) (zb o (ix b)) 0 12) 272 4 1
set_option maxHeartbeats 4000000 in
set_option maxRecDepth 100000 in
theorem c_J_type (l : Launch) (w : fl_W) (M : fl_M) (o : Nat) (hR : zRf o M.2) (hA : ∀ x, x < 2 → bAll M.1 (zb o x)) (b t k f p : Int32) : CT l y_J_type w_J_type rm_J_type w zN [.ref (w.2.2 + 0), .int b, .int t, .int k, .int f, .int p] M (some (.int (if yTy M o b t k f p then 1 else -1))) (if yTy M o b t k f p then xTy M o b t k f p else M) := by
  refine CT.of (cc := b_J_type) (own := "CompatibilityJudge") (by decide) rfl rfl (Nat.le_of_ble_eq_true rfl) ?_
  intro p9 e9 s9 m9 ag9 bl9 mt9 c9 K
  show XW p9 l e9 (rm_J_type) s9 m9 ag9 bl9 mt9 c9 7 0 0 (MQ bl9 (CQ w zN (some (.int (if yTy M o b t k f p then 1 else -1))) (if yTy M o b t k f p then xTy M o b t k f p else M)) ag9 s9 0 0 (fun q : Nat => w.2.2 ≤ q)) w zN M 0 [(0, .ref (w.2.2 + 0)), (1, .int b), (2, .int t), (3, .int k), (4, .int f), (5, .int p)] []
  refine x_iload_n (pc := 0) K 1 d_J_type_0 rfl ?_
  refine x_iload_n (pc := 1) K 2 d_J_type_1 rfl ?_
  refine x_callS (pc := 2) K (As := [.int b, .int t]) (rest := []) (c_J_isTypeOf l w M b t) (zcwS K.ts lk_J_27 sm_J_isTypeOf ii_J co_J_isTypeOf pd_J_isTypeOf ⟨rfl, rfl⟩ ⟨by decide, by decide⟩) rfl rfl (Nat.le_of_ble_eq_true rfl) ⟨Nat.zero_le _, Nat.zero_le _⟩ d_J_type_2 ?_
  refine x_ifeqB (pc := 5) K (tgt := 42) d_J_type_5 (by decide) (fun c5 => ?_) (fun c5 => ?_)
  · skip
    refine x_iconst (pc := 42) K (v := (-1)) d_J_type_42 (by decide) ?_
    have hno : ¬ yTy M o b t k f p := fun q => c5 q.1
    exact x_iret (pc := 43) K (by rw [if_neg hno]) (by rw [if_neg hno]) d_J_type_43
  · skip
    have hbx := ix_of 2 (by omega) c5.1.1 c5.1.2
    have htx := ix_of 12 (by omega) c5.2.1 c5.2.2
    refine x_iload_n (pc := 8) K 3 d_J_type_8 rfl ?_
    refine x_iconst (pc := 9) K (v := 2) d_J_type_9 (by decide) ?_
    refine x_callS (pc := 10) K (As := [.int k, .int 2]) (rest := []) (c_J_isWithin l w M k 2) (zcwS K.ts lk_J_31 sm_J_isWithin ii_J co_J_isWithin pd_J_isWithin ⟨rfl, rfl⟩ ⟨by decide, by decide⟩) rfl rfl (Nat.le_of_ble_eq_true rfl) ⟨Nat.zero_le _, Nat.zero_le _⟩ d_J_type_10 ?_
    refine x_ifeqB (pc := 13) K (tgt := 42) d_J_type_13 (by decide) (fun c13 => ?_) (fun c13 => ?_)
    · skip
      refine x_iconst (pc := 42) K (v := (-1)) d_J_type_42 (by decide) ?_
      have hno : ¬ yTy M o b t k f p := fun q => c13 q.2.1
      exact x_iret (pc := 43) K (by rw [if_neg hno]) (by rw [if_neg hno]) d_J_type_43
    · skip
      refine x_iload (pc := 16) K 4 d_J_type_16 rfl ?_
      refine x_bipush (pc := 18) K (v := 8) d_J_type_18 (by decide) ?_
      refine x_callS (pc := 20) K (As := [.int f, .int 8]) (rest := []) (c_J_isWithin l w M f 8) (zcwS K.ts lk_J_31 sm_J_isWithin ii_J co_J_isWithin pd_J_isWithin ⟨rfl, rfl⟩ ⟨by decide, by decide⟩) rfl rfl (Nat.le_of_ble_eq_true rfl) ⟨Nat.zero_le _, Nat.zero_le _⟩ d_J_type_20 ?_
      refine x_ifeqB (pc := 23) K (tgt := 42) d_J_type_23 (by decide) (fun c23 => ?_) (fun c23 => ?_)
      · skip
        refine x_iconst (pc := 42) K (v := (-1)) d_J_type_42 (by decide) ?_
        have hno : ¬ yTy M o b t k f p := fun q => c23 q.2.2.1
        exact x_iret (pc := 43) K (by rw [if_neg hno]) (by rw [if_neg hno]) d_J_type_43
      · skip
        refine x_iload (pc := 26) K 5 d_J_type_26 rfl ?_
        refine x_iconst (pc := 28) K (v := (-1)) d_J_type_28 (by decide) ?_
        refine x_icmp_eq (pc := 29) K (tgt := 44) d_J_type_29 (by decide) (fun c29 => ?_) (fun c29 => ?_)
        · skip
          refine x_aload_n (pc := 44) K 0 d_J_type_44 rfl ?_
          refine x_getr (pc := 45) K (n := 0) (n' := 1) (k := 0) (zlt shJ) shJ rfl hR.Ja rfl (by decide) (fun _ q => zmem (uw_J _ q)) (zmem lk_J_12) d_J_type_45 ?_
          refine x_iload_n (pc := 48) K 1 d_J_type_48 rfl ?_
          refine x_aald (pc := 49) K (n := 1) (n' := zb o (ix b)) (j := ix b) hbx.1 hbx.2 (hR.Jb hbx.2) (zlt shA) shA rfl (by decide) d_J_type_49 ?_
          refine x_astore (pc := 50) K (lv' := [(6, .ref (w.2.2 + (zb o (ix b)))), (0, .ref (w.2.2 + 0)), (1, .int b), (2, .int t), (3, .int k), (4, .int f), (5, .int p)]) d_J_type_50 (by decide) rfl ?_
          refine x_aload (pc := 52) K 0 d_J_type_52 rfl ?_
          refine x_getr (pc := 54) K (n := zb o (ix b)) (n' := (zb o (ix b)) + 1) (k := 0) (zlt (hR.shb hbx.2)) (hR.shb hbx.2) rfl (hR.Ba (hR.shb hbx.2)) rfl (by decide) (fun _ q => zmem (uw_B _ q)) (zmem lk_J_34) d_J_type_54 ?_
          refine x_iload_n (pc := 57) K 3 d_J_type_57 rfl ?_
          refine x_aald (pc := 58) K (n := (zb o (ix b)) + 1) (n' := (zb o (ix b)) + 2 + 11 * (ix t)) (j := ix t) htx.1 htx.2 (hR.Bt (hR.shb hbx.2) htx.2) (zlt (shBa (hR.shb hbx.2))) (shBa (hR.shb hbx.2)) rfl (by decide) d_J_type_58 ?_
          refine x_geti (pc := 59) K (n := (zb o (ix b)) + 2 + 11 * (ix t)) (k := 0) (zlt (shBt (hR.shb hbx.2) htx.2)) (shBt (hR.shb hbx.2) htx.2) rfl rfl (by decide) (fun _ q => zmem (uw_T _ q)) (zmem lk_J_38) d_J_type_59 ?_
          refine x_if_ne (pc := 62) K (tgt := 82) d_J_type_62 (by decide) (fun c62 => ?_) (fun c62 => ?_)
          · skip
            refine x_iconst (pc := 82) K (v := (-1)) d_J_type_82 (by decide) ?_
            have hno : ¬ yTy M o b t k f p := fun q => c62 q.2.2.2.2.1
            exact x_iret (pc := 83) K (by rw [if_neg hno]) (by rw [if_neg hno]) d_J_type_83
          · skip
            refine x_iload (pc := 65) K 6 d_J_type_65 rfl ?_
            refine x_iload_n (pc := 67) K 3 d_J_type_67 rfl ?_
            refine x_icmp_ge (pc := 68) K (tgt := 82) d_J_type_68 (by decide) (fun c68 => ?_) (fun c68 => ?_)
            · skip
              refine x_iconst (pc := 82) K (v := (-1)) d_J_type_82 (by decide) ?_
              have hno : ¬ yTy M o b t k f p := fun q => q.2.2.2.2.2.1 c68
              exact x_iret (pc := 83) K (by rw [if_neg hno]) (by rw [if_neg hno]) d_J_type_83
            · skip
              refine x_iload_n (pc := 71) K 4 d_J_type_71 rfl ?_
              refine x_iload (pc := 72) K 5 d_J_type_72 rfl ?_
              refine x_iload (pc := 74) K 6 d_J_type_74 rfl ?_
              refine x_callS (pc := 76) K (As := [.int k, .int f, .int p]) (rest := []) (c_J_isTypeAllowed l w M k f p) (zcwS K.ts lk_J_44 sm_J_isTypeAllowed ii_J co_J_isTypeAllowed pd_J_isTypeAllowed ⟨rfl, rfl⟩ ⟨by decide, by decide⟩) rfl rfl (Nat.le_of_ble_eq_true rfl) ⟨Nat.zero_le _, Nat.zero_le _⟩ d_J_type_76 ?_
              refine x_ifneB (pc := 79) K (tgt := 84) d_J_type_79 (by decide) (fun c79 => ?_) (fun c79 => ?_)
              · skip
                have hp9 : p = -1 ∨ inL (ix t) p := Or.inl c29
                refine x_aload (pc := 84) K 0 d_J_type_84 rfl ?_
                refine x_getr (pc := 86) K (n := zb o (ix b)) (n' := (zb o (ix b)) + 1) (k := 0) (zlt (hR.shb hbx.2)) (hR.shb hbx.2) rfl (hR.Ba (hR.shb hbx.2)) rfl (by decide) (fun _ q => zmem (uw_B _ q)) (zmem lk_J_34) d_J_type_86 ?_
                refine x_iload_n (pc := 89) K 3 d_J_type_89 rfl ?_
                refine x_aald (pc := 90) K (n := (zb o (ix b)) + 1) (n' := (zb o (ix b)) + 2 + 11 * (ix t)) (j := ix t) htx.1 htx.2 (hR.Bt (hR.shb hbx.2) htx.2) (zlt (shBa (hR.shb hbx.2))) (shBa (hR.shb hbx.2)) rfl (by decide) d_J_type_90 ?_
                refine x_iload_n (pc := 91) K 4 d_J_type_91 rfl ?_
                refine x_iload (pc := 92) K 5 d_J_type_92 rfl ?_
                refine x_iload (pc := 94) K 6 d_J_type_94 rfl ?_
                refine x_callVv (pc := 96) K (As := [.int k, .int f, .int p]) (rest := []) (c_T_define l w M k f p ((zb o (ix b)) + 2 + 11 * (ix t)) (shBt (hR.shb hbx.2) htx.2)) (zcwV K.ts lk_J_48 im_T_define se_T_define ii_T co_T_define pd_T_define ⟨rfl, rfl⟩ ⟨by decide, by decide⟩) (zlt (shBt (hR.shb hbx.2) htx.2)) (shBt (hR.shb hbx.2) htx.2) rfl rfl rfl (Nat.le_of_ble_eq_true rfl) ⟨Nat.zero_le _, Nat.zero_le _⟩ d_J_type_96 ?_
                refine x_aload (pc := 99) K 0 d_J_type_99 rfl ?_
                refine x_callVv (pc := 101) K (As := []) (rest := []) (c_B_settle l w (tDef M ((zb o (ix b)) + 2 + 11 * (ix t)) k f p) (zb o (ix b)) (hR.shb hbx.2) o hR (bOk_def (hA _ hbx.2).1 hp9)) (zcwV K.ts lk_J_52 im_B_settle se_B_settle ii_B co_B_settle pd_B_settle ⟨rfl, rfl⟩ ⟨by decide, by decide⟩) (zlt (hR.shb hbx.2)) (hR.shb hbx.2) rfl rfl rfl (Nat.le_of_ble_eq_true rfl) ⟨Nat.zero_le _, Nat.zero_le _⟩ d_J_type_101 ?_
                refine x_aload_n (pc := 104) K 1 d_J_type_104 rfl ?_
                refine x_getr (pc := 105) K (n := 0) (n' := 272) (k := 1) (zlt shJ) shJ rfl (show zRf o (stl _ _ _ _).2 from by rw [stl_2]; exact hR).Jc rfl (by decide) (fun _ q => zmem (uw_J _ q)) (zmem lk_J_19) d_J_type_105 ?_
                refine x_iconst (pc := 108) K (v := 1) d_J_type_108 (by decide) ?_
                refine x_puti (pc := 109) K (n := 272) (k := 4) (x := 1) uY_C tk_C nm_C (zlt shC) shC rfl rfl (by decide) (fun _ q => zmem (uw_C _ q)) (zmem lk_J_55) rfl rfl rfl d_J_type_109 ?_
                refine x_iconst (pc := 112) K (v := 1) d_J_type_112 (by decide) ?_
                have hyes : yTy M o b t k f p := ⟨c5, c13, c23, Or.inl c29, c62, c68, c79⟩
                exact x_iret (pc := 113) K (by rw [if_pos hyes]) (by rw [if_pos hyes, xTy]) d_J_type_113
              · skip
                refine x_iconst (pc := 82) K (v := (-1)) d_J_type_82 (by decide) ?_
                have hno : ¬ yTy M o b t k f p := fun q => c79 q.2.2.2.2.2.2
                exact x_iret (pc := 83) K (by rw [if_neg hno]) (by rw [if_neg hno]) d_J_type_83
        · skip
          refine x_iload (pc := 32) K 5 d_J_type_32 rfl ?_
          refine x_bipush (pc := 34) K (v := 12) d_J_type_34 (by decide) ?_
          refine x_callS (pc := 36) K (As := [.int p, .int 12]) (rest := []) (c_J_isWithin l w M p 12) (zcwS K.ts lk_J_31 sm_J_isWithin ii_J co_J_isWithin pd_J_isWithin ⟨rfl, rfl⟩ ⟨by decide, by decide⟩) rfl rfl (Nat.le_of_ble_eq_true rfl) ⟨Nat.zero_le _, Nat.zero_le _⟩ d_J_type_36 ?_
          refine x_ifneB (pc := 39) K (tgt := 44) d_J_type_39 (by decide) (fun c39 => ?_) (fun c39 => ?_)
          · skip
            refine x_aload_n (pc := 44) K 0 d_J_type_44 rfl ?_
            refine x_getr (pc := 45) K (n := 0) (n' := 1) (k := 0) (zlt shJ) shJ rfl hR.Ja rfl (by decide) (fun _ q => zmem (uw_J _ q)) (zmem lk_J_12) d_J_type_45 ?_
            refine x_iload_n (pc := 48) K 1 d_J_type_48 rfl ?_
            refine x_aald (pc := 49) K (n := 1) (n' := zb o (ix b)) (j := ix b) hbx.1 hbx.2 (hR.Jb hbx.2) (zlt shA) shA rfl (by decide) d_J_type_49 ?_
            refine x_astore (pc := 50) K (lv' := [(6, .ref (w.2.2 + (zb o (ix b)))), (0, .ref (w.2.2 + 0)), (1, .int b), (2, .int t), (3, .int k), (4, .int f), (5, .int p)]) d_J_type_50 (by decide) rfl ?_
            refine x_aload (pc := 52) K 0 d_J_type_52 rfl ?_
            refine x_getr (pc := 54) K (n := zb o (ix b)) (n' := (zb o (ix b)) + 1) (k := 0) (zlt (hR.shb hbx.2)) (hR.shb hbx.2) rfl (hR.Ba (hR.shb hbx.2)) rfl (by decide) (fun _ q => zmem (uw_B _ q)) (zmem lk_J_34) d_J_type_54 ?_
            refine x_iload_n (pc := 57) K 3 d_J_type_57 rfl ?_
            refine x_aald (pc := 58) K (n := (zb o (ix b)) + 1) (n' := (zb o (ix b)) + 2 + 11 * (ix t)) (j := ix t) htx.1 htx.2 (hR.Bt (hR.shb hbx.2) htx.2) (zlt (shBa (hR.shb hbx.2))) (shBa (hR.shb hbx.2)) rfl (by decide) d_J_type_58 ?_
            refine x_geti (pc := 59) K (n := (zb o (ix b)) + 2 + 11 * (ix t)) (k := 0) (zlt (shBt (hR.shb hbx.2) htx.2)) (shBt (hR.shb hbx.2) htx.2) rfl rfl (by decide) (fun _ q => zmem (uw_T _ q)) (zmem lk_J_38) d_J_type_59 ?_
            refine x_if_ne (pc := 62) K (tgt := 82) d_J_type_62 (by decide) (fun c62 => ?_) (fun c62 => ?_)
            · skip
              refine x_iconst (pc := 82) K (v := (-1)) d_J_type_82 (by decide) ?_
              have hno : ¬ yTy M o b t k f p := fun q => c62 q.2.2.2.2.1
              exact x_iret (pc := 83) K (by rw [if_neg hno]) (by rw [if_neg hno]) d_J_type_83
            · skip
              refine x_iload (pc := 65) K 6 d_J_type_65 rfl ?_
              refine x_iload_n (pc := 67) K 3 d_J_type_67 rfl ?_
              refine x_icmp_ge (pc := 68) K (tgt := 82) d_J_type_68 (by decide) (fun c68 => ?_) (fun c68 => ?_)
              · skip
                refine x_iconst (pc := 82) K (v := (-1)) d_J_type_82 (by decide) ?_
                have hno : ¬ yTy M o b t k f p := fun q => q.2.2.2.2.2.1 c68
                exact x_iret (pc := 83) K (by rw [if_neg hno]) (by rw [if_neg hno]) d_J_type_83
              · skip
                refine x_iload_n (pc := 71) K 4 d_J_type_71 rfl ?_
                refine x_iload (pc := 72) K 5 d_J_type_72 rfl ?_
                refine x_iload (pc := 74) K 6 d_J_type_74 rfl ?_
                refine x_callS (pc := 76) K (As := [.int k, .int f, .int p]) (rest := []) (c_J_isTypeAllowed l w M k f p) (zcwS K.ts lk_J_44 sm_J_isTypeAllowed ii_J co_J_isTypeAllowed pd_J_isTypeAllowed ⟨rfl, rfl⟩ ⟨by decide, by decide⟩) rfl rfl (Nat.le_of_ble_eq_true rfl) ⟨Nat.zero_le _, Nat.zero_le _⟩ d_J_type_76 ?_
                refine x_ifneB (pc := 79) K (tgt := 84) d_J_type_79 (by decide) (fun c79 => ?_) (fun c79 => ?_)
                · skip
                  have hp9 : p = -1 ∨ inL (ix t) p := Or.inr (inL_lt (ix_of 12 (by omega) c39.1 c39.2) htx (by omega) c68)
                  refine x_aload (pc := 84) K 0 d_J_type_84 rfl ?_
                  refine x_getr (pc := 86) K (n := zb o (ix b)) (n' := (zb o (ix b)) + 1) (k := 0) (zlt (hR.shb hbx.2)) (hR.shb hbx.2) rfl (hR.Ba (hR.shb hbx.2)) rfl (by decide) (fun _ q => zmem (uw_B _ q)) (zmem lk_J_34) d_J_type_86 ?_
                  refine x_iload_n (pc := 89) K 3 d_J_type_89 rfl ?_
                  refine x_aald (pc := 90) K (n := (zb o (ix b)) + 1) (n' := (zb o (ix b)) + 2 + 11 * (ix t)) (j := ix t) htx.1 htx.2 (hR.Bt (hR.shb hbx.2) htx.2) (zlt (shBa (hR.shb hbx.2))) (shBa (hR.shb hbx.2)) rfl (by decide) d_J_type_90 ?_
                  refine x_iload_n (pc := 91) K 4 d_J_type_91 rfl ?_
                  refine x_iload (pc := 92) K 5 d_J_type_92 rfl ?_
                  refine x_iload (pc := 94) K 6 d_J_type_94 rfl ?_
                  refine x_callVv (pc := 96) K (As := [.int k, .int f, .int p]) (rest := []) (c_T_define l w M k f p ((zb o (ix b)) + 2 + 11 * (ix t)) (shBt (hR.shb hbx.2) htx.2)) (zcwV K.ts lk_J_48 im_T_define se_T_define ii_T co_T_define pd_T_define ⟨rfl, rfl⟩ ⟨by decide, by decide⟩) (zlt (shBt (hR.shb hbx.2) htx.2)) (shBt (hR.shb hbx.2) htx.2) rfl rfl rfl (Nat.le_of_ble_eq_true rfl) ⟨Nat.zero_le _, Nat.zero_le _⟩ d_J_type_96 ?_
                  refine x_aload (pc := 99) K 0 d_J_type_99 rfl ?_
                  refine x_callVv (pc := 101) K (As := []) (rest := []) (c_B_settle l w (tDef M ((zb o (ix b)) + 2 + 11 * (ix t)) k f p) (zb o (ix b)) (hR.shb hbx.2) o hR (bOk_def (hA _ hbx.2).1 hp9)) (zcwV K.ts lk_J_52 im_B_settle se_B_settle ii_B co_B_settle pd_B_settle ⟨rfl, rfl⟩ ⟨by decide, by decide⟩) (zlt (hR.shb hbx.2)) (hR.shb hbx.2) rfl rfl rfl (Nat.le_of_ble_eq_true rfl) ⟨Nat.zero_le _, Nat.zero_le _⟩ d_J_type_101 ?_
                  refine x_aload_n (pc := 104) K 1 d_J_type_104 rfl ?_
                  refine x_getr (pc := 105) K (n := 0) (n' := 272) (k := 1) (zlt shJ) shJ rfl (show zRf o (stl _ _ _ _).2 from by rw [stl_2]; exact hR).Jc rfl (by decide) (fun _ q => zmem (uw_J _ q)) (zmem lk_J_19) d_J_type_105 ?_
                  refine x_iconst (pc := 108) K (v := 1) d_J_type_108 (by decide) ?_
                  refine x_puti (pc := 109) K (n := 272) (k := 4) (x := 1) uY_C tk_C nm_C (zlt shC) shC rfl rfl (by decide) (fun _ q => zmem (uw_C _ q)) (zmem lk_J_55) rfl rfl rfl d_J_type_109 ?_
                  refine x_iconst (pc := 112) K (v := 1) d_J_type_112 (by decide) ?_
                  have hyes : yTy M o b t k f p := ⟨c5, c13, c23, Or.inr c39, c62, c68, c79⟩
                  exact x_iret (pc := 113) K (by rw [if_pos hyes]) (by rw [if_pos hyes, xTy]) d_J_type_113
                · skip
                  refine x_iconst (pc := 82) K (v := (-1)) d_J_type_82 (by decide) ?_
                  have hno : ¬ yTy M o b t k f p := fun q => c79 q.2.2.2.2.2.2
                  exact x_iret (pc := 83) K (by rw [if_neg hno]) (by rw [if_neg hno]) d_J_type_83
          · skip
            refine x_iconst (pc := 42) K (v := (-1)) d_J_type_42 (by decide) ?_
            have hno : ¬ yTy M o b t k f p := fun q => q.2.2.2.1.elim c29 c39
            exact x_iret (pc := 43) K (by rw [if_neg hno]) (by rw [if_neg hno]) d_J_type_43
