/-- an index out of an int -/
abbrev ix (x : Int32) : Nat := x.toNatClampNeg
theorem ix_nI {n : Nat} (h : n < 2 ^ 31) : ix (nI n) = n := nI_clamp h
/-- not below 0, below L: the int is an index -/
theorem ix_of {x : Int32} (L : Nat) (hL : L < 2 ^ 31) (h0 : ¬ x < 0) (h1 : ¬ nI L ≤ x) : x = nI (ix x) ∧ ix x < L := by
  rcases pk_ix x hL with h | h | ⟨j, hj, rfl⟩
  · exact absurd h h0
  · exact absurd h h1
  · rw [ix_nI (by omega)]; exact ⟨rfl, hj⟩
/-- an index stands in an int -/
def inL (L : Nat) (x : Int32) : Prop := x = nI (ix x) ∧ ix x < L
theorem inL_nI {L n : Nat} (hL : L < 2 ^ 31) (h : n < L) : inL L (nI n) := by
  unfold inL
  rw [ix_nI (by omega)]
  exact ⟨rfl, h⟩
set_option maxHeartbeats 4000000 in
set_option maxRecDepth 100000 in
theorem c_J_isWithin (l : Launch) (w : fl_W) (M : fl_M) (x lim : Int32) : CT l y_J_isWithin w_J_isWithin rm_J_isWithin w zN [.int x, .int lim] M (some (.int (bI (¬ x < 0 ∧ ¬ lim ≤ x)))) M := by
  refine CT.of (cc := b_J_isWithin) (own := "CompatibilityJudge") (by decide) rfl rfl (Nat.le_of_ble_eq_true rfl) ?_
  intro p9 e9 s9 m9 ag9 bl9 mt9 c9 K
  show XW p9 l e9 (rm_J_isWithin) s9 m9 ag9 bl9 mt9 c9 2 0 0 (MQ bl9 (CQ w zN (some (.int (bI (¬ x < 0 ∧ ¬ lim ≤ x)))) M) ag9 s9 0 0 (fun q : Nat => w.2.2 ≤ q)) w zN M 0 [(0, .int x), (1, .int lim)] []
  refine x_iload_n (pc := 0) K 0 d_J_isWithin_0 rfl ?_
  refine x_if_lt (pc := 1) K (tgt := 13) d_J_isWithin_1 (by decide) (fun c1 => ?_) (fun c1 => ?_)
  · skip
    refine x_iconst (pc := 13) K (v := 0) d_J_isWithin_13 (by decide) ?_
    exact x_zret (pc := 14) K (rF (by first | (simp_all; done) | grind)) rfl rfl d_J_isWithin_14
  · skip
    refine x_iload_n (pc := 4) K 0 d_J_isWithin_4 rfl ?_
    refine x_iload_n (pc := 5) K 1 d_J_isWithin_5 rfl ?_
    refine x_icmp_ge (pc := 6) K (tgt := 13) d_J_isWithin_6 (by decide) (fun c6 => ?_) (fun c6 => ?_)
    · skip
      refine x_iconst (pc := 13) K (v := 0) d_J_isWithin_13 (by decide) ?_
      exact x_zret (pc := 14) K (rF (by first | (simp_all; done) | grind)) rfl rfl d_J_isWithin_14
    · skip
      refine x_iconst (pc := 9) K (v := 1) d_J_isWithin_9 (by decide) ?_
      refine x_goto (pc := 10) K (tgt := 14) d_J_isWithin_10 (by decide) ?_
      exact x_zret (pc := 14) K (rT (by first | (simp_all; done) | grind)) rfl rfl d_J_isWithin_14
abbrev okT (b t : Int32) : Prop := (¬ b < 0 ∧ ¬ (2 : Int32) ≤ b) ∧ (¬ t < 0 ∧ ¬ (12 : Int32) ≤ t)
set_option maxHeartbeats 4000000 in
set_option maxRecDepth 100000 in
theorem c_J_isTypeOf (l : Launch) (w : fl_W) (M : fl_M) (b t : Int32) : CT l y_J_isTypeOf w_J_isTypeOf rm_J_isTypeOf w zN [.int b, .int t] M (some (.int (bI (okT b t)))) M := by
  refine CT.of (cc := b_J_isTypeOf) (own := "CompatibilityJudge") (by decide) rfl rfl (Nat.le_of_ble_eq_true rfl) ?_
  intro p9 e9 s9 m9 ag9 bl9 mt9 c9 K
  show XW p9 l e9 (rm_J_isTypeOf) s9 m9 ag9 bl9 mt9 c9 2 0 0 (MQ bl9 (CQ w zN (some (.int (bI (okT b t)))) M) ag9 s9 0 0 (fun q : Nat => w.2.2 ≤ q)) w zN M 0 [(0, .int b), (1, .int t)] []
  refine x_iload_n (pc := 0) K 0 d_J_isTypeOf_0 rfl ?_
  refine x_iconst (pc := 1) K (v := 2) d_J_isTypeOf_1 (by decide) ?_
  refine x_callS (pc := 2) K (As := [.int b, .int 2]) (rest := []) (c_J_isWithin l w M b 2) (zcwS K.ts lk_J_31 sm_J_isWithin ii_J co_J_isWithin pd_J_isWithin ⟨rfl, rfl⟩ ⟨by decide, by decide⟩) rfl rfl (Nat.le_of_ble_eq_true rfl) ⟨Nat.zero_le _, Nat.zero_le _⟩ d_J_isTypeOf_2 ?_
  refine x_ifeqB (pc := 5) K (tgt := 21) d_J_isTypeOf_5 (by decide) (fun c5 => ?_) (fun c5 => ?_)
  · skip
    refine x_iconst (pc := 21) K (v := 0) d_J_isTypeOf_21 (by decide) ?_
    exact x_zret (pc := 22) K (rF (by unfold okT; grind)) rfl rfl d_J_isTypeOf_22
  · skip
    refine x_iload_n (pc := 8) K 1 d_J_isTypeOf_8 rfl ?_
    refine x_bipush (pc := 9) K (v := 12) d_J_isTypeOf_9 (by decide) ?_
    refine x_callS (pc := 11) K (As := [.int t, .int 12]) (rest := []) (c_J_isWithin l w M t 12) (zcwS K.ts lk_J_31 sm_J_isWithin ii_J co_J_isWithin pd_J_isWithin ⟨rfl, rfl⟩ ⟨by decide, by decide⟩) rfl rfl (Nat.le_of_ble_eq_true rfl) ⟨Nat.zero_le _, Nat.zero_le _⟩ d_J_isTypeOf_11 ?_
    refine x_ifeqB (pc := 14) K (tgt := 21) d_J_isTypeOf_14 (by decide) (fun c14 => ?_) (fun c14 => ?_)
    · skip
      refine x_iconst (pc := 21) K (v := 0) d_J_isTypeOf_21 (by decide) ?_
      exact x_zret (pc := 22) K (rF (by unfold okT; grind)) rfl rfl d_J_isTypeOf_22
    · skip
      refine x_iconst (pc := 17) K (v := 1) d_J_isTypeOf_17 (by decide) ?_
      refine x_goto (pc := 18) K (tgt := 22) d_J_isTypeOf_18 (by decide) ?_
      exact x_zret (pc := 22) K (rT (by unfold okT; grind)) rfl rfl d_J_isTypeOf_22
set_option maxHeartbeats 4000000 in
set_option maxRecDepth 100000 in
theorem c_J_contains (l : Launch) (w : fl_W) (M : fl_M) (x t : Int32) : CT l y_J_contains w_J_contains rm_J_contains w zN [.int x, .int t] M (some (.int (bI (¬ (x >>> (t &&& 31)) &&& 1 = 0)))) M := by
  refine CT.of (cc := b_J_contains) (own := "CompatibilityJudge") (by decide) rfl rfl (Nat.le_of_ble_eq_true rfl) ?_
  intro p9 e9 s9 m9 ag9 bl9 mt9 c9 K
  show XW p9 l e9 (rm_J_contains) s9 m9 ag9 bl9 mt9 c9 2 0 0 (MQ bl9 (CQ w zN (some (.int (bI (¬ (x >>> (t &&& 31)) &&& 1 = 0)))) M) ag9 s9 0 0 (fun q : Nat => w.2.2 ≤ q)) w zN M 0 [(0, .int x), (1, .int t)] []
  refine x_iload_n (pc := 0) K 0 d_J_contains_0 rfl ?_
  refine x_iload_n (pc := 1) K 1 d_J_contains_1 rfl ?_
  refine x_ishr (pc := 2) K d_J_contains_2 ?_
  refine x_iconst (pc := 3) K (v := 1) d_J_contains_3 (by decide) ?_
  refine x_iand (pc := 4) K d_J_contains_4 ?_
  refine x_if_eq (pc := 5) K (tgt := 12) d_J_contains_5 (by decide) (fun c5 => ?_) (fun c5 => ?_)
  · skip
    refine x_iconst (pc := 12) K (v := 0) d_J_contains_12 (by decide) ?_
    exact x_zret (pc := 13) K (rF (by first | (simp_all; done) | grind)) rfl rfl d_J_contains_13
  · skip
    refine x_iconst (pc := 8) K (v := 1) d_J_contains_8 (by decide) ?_
    refine x_goto (pc := 9) K (tgt := 13) d_J_contains_9 (by decide) ?_
    exact x_zret (pc := 13) K (rT (by first | (simp_all; done) | grind)) rfl rfl d_J_contains_13
abbrev okTy (k f p : Int32) : Prop := if k = 1 then f &&& 2 = 0 ∧ f &&& 4 = 0 ∧ p = -1 else ¬ (¬ f &&& 2 = 0 ∧ ¬ f &&& 4 = 0)
set_option maxHeartbeats 4000000 in
set_option maxRecDepth 100000 in
theorem c_J_isTypeAllowed (l : Launch) (w : fl_W) (M : fl_M) (k f p : Int32) : CT l y_J_isTypeAllowed w_J_isTypeAllowed rm_J_isTypeAllowed w zN [.int k, .int f, .int p] M (some (.int (bI (okTy k f p)))) M := by
  refine CT.of (cc := b_J_isTypeAllowed) (own := "CompatibilityJudge") (by decide) rfl rfl (Nat.le_of_ble_eq_true rfl) ?_
  intro p9 e9 s9 m9 ag9 bl9 mt9 c9 K
  show XW p9 l e9 (rm_J_isTypeAllowed) s9 m9 ag9 bl9 mt9 c9 5 0 0 (MQ bl9 (CQ w zN (some (.int (bI (okTy k f p)))) M) ag9 s9 0 0 (fun q : Nat => w.2.2 ≤ q)) w zN M 0 [(0, .int k), (1, .int f), (2, .int p)] []
  refine x_iload_n (pc := 0) K 1 d_J_isTypeAllowed_0 rfl ?_
  refine x_iconst (pc := 1) K (v := 2) d_J_isTypeAllowed_1 (by decide) ?_
  refine x_iand (pc := 2) K d_J_isTypeAllowed_2 ?_
  refine x_if_eq (pc := 3) K (tgt := 10) d_J_isTypeAllowed_3 (by decide) (fun c3 => ?_) (fun c3 => ?_)
  · skip
    refine x_iconst (pc := 10) K (v := 0) d_J_isTypeAllowed_10 (by decide) ?_
    refine x_istore_n (pc := 11) K (lv' := [(3, .int 0), (0, .int k), (1, .int f), (2, .int p)]) d_J_isTypeAllowed_11 (by decide) rfl ?_
    refine x_iload_n (pc := 12) K 2 d_J_isTypeAllowed_12 rfl ?_
    refine x_iconst (pc := 13) K (v := 4) d_J_isTypeAllowed_13 (by decide) ?_
    refine x_iand (pc := 14) K d_J_isTypeAllowed_14 ?_
    refine x_if_eq (pc := 15) K (tgt := 22) d_J_isTypeAllowed_15 (by decide) (fun c15 => ?_) (fun c15 => ?_)
    · skip
      refine x_iconst (pc := 22) K (v := 0) d_J_isTypeAllowed_22 (by decide) ?_
      refine x_istore (pc := 23) K (lv' := [(4, .int 0), (3, .int 0), (0, .int k), (1, .int f), (2, .int p)]) d_J_isTypeAllowed_23 (by decide) rfl ?_
      refine x_iload_n (pc := 25) K 2 d_J_isTypeAllowed_25 rfl ?_
      refine x_iconst (pc := 26) K (v := 1) d_J_isTypeAllowed_26 (by decide) ?_
      refine x_icmp_ne (pc := 27) K (tgt := 50) d_J_isTypeAllowed_27 (by decide) (fun c27 => ?_) (fun c27 => ?_)
      · skip
        refine x_iload_n (pc := 50) K 1 d_J_isTypeAllowed_50 rfl ?_
        refine x_if_eq (pc := 51) K (tgt := 59) d_J_isTypeAllowed_51 (by decide) (fun _ => ?_) (fun q => absurd q (by decide))
        refine x_iconst (pc := 59) K (v := 1) d_J_isTypeAllowed_59 (by decide) ?_
        refine x_goto (pc := 60) K (tgt := 64) d_J_isTypeAllowed_60 (by decide) ?_
        exact x_zret (pc := 64) K (rT (by first | (simp_all [okTy]; done) | grind)) rfl rfl d_J_isTypeAllowed_64
      · skip
        refine x_iload_n (pc := 30) K 1 d_J_isTypeAllowed_30 rfl ?_
        refine x_if_ne (pc := 31) K (tgt := 48) d_J_isTypeAllowed_31 (by decide) (fun q => absurd q (by decide)) (fun _ => ?_)
        refine x_iload (pc := 34) K 0 d_J_isTypeAllowed_34 rfl ?_
        refine x_if_ne (pc := 36) K (tgt := 48) d_J_isTypeAllowed_36 (by decide) (fun q => absurd q (by decide)) (fun _ => ?_)
        refine x_iload_n (pc := 39) K 4 d_J_isTypeAllowed_39 rfl ?_
        refine x_iconst (pc := 40) K (v := (-1)) d_J_isTypeAllowed_40 (by decide) ?_
        refine x_icmp_ne (pc := 41) K (tgt := 48) d_J_isTypeAllowed_41 (by decide) (fun c41 => ?_) (fun c41 => ?_)
        · skip
          refine x_iconst (pc := 48) K (v := 0) d_J_isTypeAllowed_48 (by decide) ?_
          exact x_zret (pc := 49) K (rF (by first | (simp_all [okTy]; done) | grind)) rfl rfl d_J_isTypeAllowed_49
        · skip
          refine x_iconst (pc := 44) K (v := 1) d_J_isTypeAllowed_44 (by decide) ?_
          refine x_goto (pc := 45) K (tgt := 49) d_J_isTypeAllowed_45 (by decide) ?_
          exact x_zret (pc := 49) K (rT (by first | (simp_all [okTy]; done) | grind)) rfl rfl d_J_isTypeAllowed_49
    · skip
      refine x_iconst (pc := 18) K (v := 1) d_J_isTypeAllowed_18 (by decide) ?_
      refine x_goto (pc := 19) K (tgt := 23) d_J_isTypeAllowed_19 (by decide) ?_
      refine x_istore (pc := 23) K (lv' := [(4, .int 1), (3, .int 0), (0, .int k), (1, .int f), (2, .int p)]) d_J_isTypeAllowed_23 (by decide) rfl ?_
      refine x_iload_n (pc := 25) K 2 d_J_isTypeAllowed_25 rfl ?_
      refine x_iconst (pc := 26) K (v := 1) d_J_isTypeAllowed_26 (by decide) ?_
      refine x_icmp_ne (pc := 27) K (tgt := 50) d_J_isTypeAllowed_27 (by decide) (fun c27 => ?_) (fun c27 => ?_)
      · skip
        refine x_iload_n (pc := 50) K 1 d_J_isTypeAllowed_50 rfl ?_
        refine x_if_eq (pc := 51) K (tgt := 59) d_J_isTypeAllowed_51 (by decide) (fun _ => ?_) (fun q => absurd q (by decide))
        refine x_iconst (pc := 59) K (v := 1) d_J_isTypeAllowed_59 (by decide) ?_
        refine x_goto (pc := 60) K (tgt := 64) d_J_isTypeAllowed_60 (by decide) ?_
        exact x_zret (pc := 64) K (rT (by first | (simp_all [okTy]; done) | grind)) rfl rfl d_J_isTypeAllowed_64
      · skip
        refine x_iload_n (pc := 30) K 1 d_J_isTypeAllowed_30 rfl ?_
        refine x_if_ne (pc := 31) K (tgt := 48) d_J_isTypeAllowed_31 (by decide) (fun q => absurd q (by decide)) (fun _ => ?_)
        refine x_iload (pc := 34) K 0 d_J_isTypeAllowed_34 rfl ?_
        refine x_if_ne (pc := 36) K (tgt := 48) d_J_isTypeAllowed_36 (by decide) (fun _ => ?_) (fun q => absurd q (by decide))
        refine x_iconst (pc := 48) K (v := 0) d_J_isTypeAllowed_48 (by decide) ?_
        exact x_zret (pc := 49) K (rF (by first | (simp_all [okTy]; done) | grind)) rfl rfl d_J_isTypeAllowed_49
  · skip
    refine x_iconst (pc := 6) K (v := 1) d_J_isTypeAllowed_6 (by decide) ?_
    refine x_goto (pc := 7) K (tgt := 11) d_J_isTypeAllowed_7 (by decide) ?_
    refine x_istore_n (pc := 11) K (lv' := [(3, .int 1), (0, .int k), (1, .int f), (2, .int p)]) d_J_isTypeAllowed_11 (by decide) rfl ?_
    refine x_iload_n (pc := 12) K 2 d_J_isTypeAllowed_12 rfl ?_
    refine x_iconst (pc := 13) K (v := 4) d_J_isTypeAllowed_13 (by decide) ?_
    refine x_iand (pc := 14) K d_J_isTypeAllowed_14 ?_
    refine x_if_eq (pc := 15) K (tgt := 22) d_J_isTypeAllowed_15 (by decide) (fun c15 => ?_) (fun c15 => ?_)
    · skip
      refine x_iconst (pc := 22) K (v := 0) d_J_isTypeAllowed_22 (by decide) ?_
      refine x_istore (pc := 23) K (lv' := [(4, .int 0), (3, .int 1), (0, .int k), (1, .int f), (2, .int p)]) d_J_isTypeAllowed_23 (by decide) rfl ?_
      refine x_iload_n (pc := 25) K 2 d_J_isTypeAllowed_25 rfl ?_
      refine x_iconst (pc := 26) K (v := 1) d_J_isTypeAllowed_26 (by decide) ?_
      refine x_icmp_ne (pc := 27) K (tgt := 50) d_J_isTypeAllowed_27 (by decide) (fun c27 => ?_) (fun c27 => ?_)
      · skip
        refine x_iload_n (pc := 50) K 1 d_J_isTypeAllowed_50 rfl ?_
        refine x_if_eq (pc := 51) K (tgt := 59) d_J_isTypeAllowed_51 (by decide) (fun q => absurd q (by decide)) (fun _ => ?_)
        refine x_iload (pc := 54) K 0 d_J_isTypeAllowed_54 rfl ?_
        refine x_if_ne (pc := 56) K (tgt := 63) d_J_isTypeAllowed_56 (by decide) (fun q => absurd q (by decide)) (fun _ => ?_)
        refine x_iconst (pc := 59) K (v := 1) d_J_isTypeAllowed_59 (by decide) ?_
        refine x_goto (pc := 60) K (tgt := 64) d_J_isTypeAllowed_60 (by decide) ?_
        exact x_zret (pc := 64) K (rT (by first | (simp_all [okTy]; done) | grind)) rfl rfl d_J_isTypeAllowed_64
      · skip
        refine x_iload_n (pc := 30) K 1 d_J_isTypeAllowed_30 rfl ?_
        refine x_if_ne (pc := 31) K (tgt := 48) d_J_isTypeAllowed_31 (by decide) (fun _ => ?_) (fun q => absurd q (by decide))
        refine x_iconst (pc := 48) K (v := 0) d_J_isTypeAllowed_48 (by decide) ?_
        exact x_zret (pc := 49) K (rF (by first | (simp_all [okTy]; done) | grind)) rfl rfl d_J_isTypeAllowed_49
    · skip
      refine x_iconst (pc := 18) K (v := 1) d_J_isTypeAllowed_18 (by decide) ?_
      refine x_goto (pc := 19) K (tgt := 23) d_J_isTypeAllowed_19 (by decide) ?_
      refine x_istore (pc := 23) K (lv' := [(4, .int 1), (3, .int 1), (0, .int k), (1, .int f), (2, .int p)]) d_J_isTypeAllowed_23 (by decide) rfl ?_
      refine x_iload_n (pc := 25) K 2 d_J_isTypeAllowed_25 rfl ?_
      refine x_iconst (pc := 26) K (v := 1) d_J_isTypeAllowed_26 (by decide) ?_
      refine x_icmp_ne (pc := 27) K (tgt := 50) d_J_isTypeAllowed_27 (by decide) (fun c27 => ?_) (fun c27 => ?_)
      · skip
        refine x_iload_n (pc := 50) K 1 d_J_isTypeAllowed_50 rfl ?_
        refine x_if_eq (pc := 51) K (tgt := 59) d_J_isTypeAllowed_51 (by decide) (fun q => absurd q (by decide)) (fun _ => ?_)
        refine x_iload (pc := 54) K 0 d_J_isTypeAllowed_54 rfl ?_
        refine x_if_ne (pc := 56) K (tgt := 63) d_J_isTypeAllowed_56 (by decide) (fun _ => ?_) (fun q => absurd q (by decide))
        refine x_iconst (pc := 63) K (v := 0) d_J_isTypeAllowed_63 (by decide) ?_
        exact x_zret (pc := 64) K (rF (by first | (simp_all [okTy]; done) | grind)) rfl rfl d_J_isTypeAllowed_64
      · skip
        refine x_iload_n (pc := 30) K 1 d_J_isTypeAllowed_30 rfl ?_
        refine x_if_ne (pc := 31) K (tgt := 48) d_J_isTypeAllowed_31 (by decide) (fun _ => ?_) (fun q => absurd q (by decide))
        refine x_iconst (pc := 48) K (v := 0) d_J_isTypeAllowed_48 (by decide) ?_
        exact x_zret (pc := 49) K (rF (by first | (simp_all [okTy]; done) | grind)) rfl rfl d_J_isTypeAllowed_49
abbrev okMb (k f : Int32) : Prop := (¬ f &&& 16 = 0 → k = 1 ∧ f &&& 12 = 0 ∧ ¬ f &&& 3 = 0) ∧ (k = 2 → f &&& 12 = 0)
set_option maxHeartbeats 4000000 in
set_option maxRecDepth 100000 in
theorem c_J_isMemberAllowed (l : Launch) (w : fl_W) (M : fl_M) (k f : Int32) : CT l y_J_isMemberAllowed w_J_isMemberAllowed rm_J_isMemberAllowed w zN [.int k, .int f] M (some (.int (bI (okMb k f)))) M := by
  refine CT.of (cc := b_J_isMemberAllowed) (own := "CompatibilityJudge") (by decide) rfl rfl (Nat.le_of_ble_eq_true rfl) ?_
  intro p9 e9 s9 m9 ag9 bl9 mt9 c9 K
  show XW p9 l e9 (rm_J_isMemberAllowed) s9 m9 ag9 bl9 mt9 c9 3 0 0 (MQ bl9 (CQ w zN (some (.int (bI (okMb k f)))) M) ag9 s9 0 0 (fun q : Nat => w.2.2 ≤ q)) w zN M 0 [(0, .int k), (1, .int f)] []
  refine x_iload_n (pc := 0) K 1 d_J_isMemberAllowed_0 rfl ?_
  refine x_bipush (pc := 1) K (v := 16) d_J_isMemberAllowed_1 (by decide) ?_
  refine x_iand (pc := 3) K d_J_isMemberAllowed_3 ?_
  refine x_if_eq (pc := 4) K (tgt := 11) d_J_isMemberAllowed_4 (by decide) (fun c4 => ?_) (fun c4 => ?_)
  · skip
    refine x_iconst (pc := 11) K (v := 0) d_J_isMemberAllowed_11 (by decide) ?_
    refine x_istore_n (pc := 12) K (lv' := [(2, .int 0), (0, .int k), (1, .int f)]) d_J_isMemberAllowed_12 (by decide) rfl ?_
    refine x_iload_n (pc := 13) K 0 d_J_isMemberAllowed_13 rfl ?_
    refine x_if_eq (pc := 14) K (tgt := 37) d_J_isMemberAllowed_14 (by decide) (fun _ => ?_) (fun q => absurd q (by decide))
    refine x_iload_n (pc := 37) K 1 d_J_isMemberAllowed_37 rfl ?_
    refine x_iconst (pc := 38) K (v := 2) d_J_isMemberAllowed_38 (by decide) ?_
    refine x_icmp_ne (pc := 39) K (tgt := 49) d_J_isMemberAllowed_39 (by decide) (fun c39 => ?_) (fun c39 => ?_)
    · skip
      refine x_iconst (pc := 49) K (v := 1) d_J_isMemberAllowed_49 (by decide) ?_
      refine x_goto (pc := 50) K (tgt := 54) d_J_isMemberAllowed_50 (by decide) ?_
      exact x_zret (pc := 54) K (rT (by first | (simp_all [okMb]; done) | grind)) rfl rfl d_J_isMemberAllowed_54
    · skip
      refine x_iload_n (pc := 42) K 2 d_J_isMemberAllowed_42 rfl ?_
      refine x_bipush (pc := 43) K (v := 12) d_J_isMemberAllowed_43 (by decide) ?_
      refine x_iand (pc := 45) K d_J_isMemberAllowed_45 ?_
      refine x_if_ne (pc := 46) K (tgt := 53) d_J_isMemberAllowed_46 (by decide) (fun c46 => ?_) (fun c46 => ?_)
      · skip
        refine x_iconst (pc := 53) K (v := 0) d_J_isMemberAllowed_53 (by decide) ?_
        exact x_zret (pc := 54) K (rF (by first | (simp_all [okMb]; done) | grind)) rfl rfl d_J_isMemberAllowed_54
      · skip
        refine x_iconst (pc := 49) K (v := 1) d_J_isMemberAllowed_49 (by decide) ?_
        refine x_goto (pc := 50) K (tgt := 54) d_J_isMemberAllowed_50 (by decide) ?_
        exact x_zret (pc := 54) K (rT (by first | (simp_all [okMb]; done) | grind)) rfl rfl d_J_isMemberAllowed_54
  · skip
    refine x_iconst (pc := 7) K (v := 1) d_J_isMemberAllowed_7 (by decide) ?_
    refine x_goto (pc := 8) K (tgt := 12) d_J_isMemberAllowed_8 (by decide) ?_
    refine x_istore_n (pc := 12) K (lv' := [(2, .int 1), (0, .int k), (1, .int f)]) d_J_isMemberAllowed_12 (by decide) rfl ?_
    refine x_iload_n (pc := 13) K 0 d_J_isMemberAllowed_13 rfl ?_
    refine x_if_eq (pc := 14) K (tgt := 37) d_J_isMemberAllowed_14 (by decide) (fun q => absurd q (by decide)) (fun _ => ?_)
    refine x_iload_n (pc := 17) K 1 d_J_isMemberAllowed_17 rfl ?_
    refine x_iconst (pc := 18) K (v := 1) d_J_isMemberAllowed_18 (by decide) ?_
    refine x_icmp_ne (pc := 19) K (tgt := 35) d_J_isMemberAllowed_19 (by decide) (fun c19 => ?_) (fun c19 => ?_)
    · skip
      refine x_iconst (pc := 35) K (v := 0) d_J_isMemberAllowed_35 (by decide) ?_
      exact x_zret (pc := 36) K (rF (by first | (simp_all [okMb]; done) | grind)) rfl rfl d_J_isMemberAllowed_36
    · skip
      refine x_iload_n (pc := 22) K 2 d_J_isMemberAllowed_22 rfl ?_
      refine x_bipush (pc := 23) K (v := 12) d_J_isMemberAllowed_23 (by decide) ?_
      refine x_iand (pc := 25) K d_J_isMemberAllowed_25 ?_
      refine x_if_ne (pc := 26) K (tgt := 35) d_J_isMemberAllowed_26 (by decide) (fun c26 => ?_) (fun c26 => ?_)
      · skip
        refine x_iconst (pc := 35) K (v := 0) d_J_isMemberAllowed_35 (by decide) ?_
        exact x_zret (pc := 36) K (rF (by first | (simp_all [okMb]; done) | grind)) rfl rfl d_J_isMemberAllowed_36
      · skip
        refine x_iload_n (pc := 29) K 2 d_J_isMemberAllowed_29 rfl ?_
        refine x_iconst (pc := 30) K (v := 3) d_J_isMemberAllowed_30 (by decide) ?_
        refine x_iand (pc := 31) K d_J_isMemberAllowed_31 ?_
        refine x_if_ne (pc := 32) K (tgt := 37) d_J_isMemberAllowed_32 (by decide) (fun c32 => ?_) (fun c32 => ?_)
        · skip
          refine x_iload_n (pc := 37) K 1 d_J_isMemberAllowed_37 rfl ?_
          refine x_iconst (pc := 38) K (v := 2) d_J_isMemberAllowed_38 (by decide) ?_
          refine x_icmp_ne (pc := 39) K (tgt := 49) d_J_isMemberAllowed_39 (by decide) (fun c39 => ?_) (fun c39 => ?_)
          · skip
            refine x_iconst (pc := 49) K (v := 1) d_J_isMemberAllowed_49 (by decide) ?_
            refine x_goto (pc := 50) K (tgt := 54) d_J_isMemberAllowed_50 (by decide) ?_
            exact x_zret (pc := 54) K (rT (by first | (simp_all [okMb]; done) | grind)) rfl rfl d_J_isMemberAllowed_54
          · skip
            refine x_iload_n (pc := 42) K 2 d_J_isMemberAllowed_42 rfl ?_
            refine x_bipush (pc := 43) K (v := 12) d_J_isMemberAllowed_43 (by decide) ?_
            refine x_iand (pc := 45) K d_J_isMemberAllowed_45 ?_
            refine x_if_ne (pc := 46) K (tgt := 53) d_J_isMemberAllowed_46 (by decide) (fun c46 => ?_) (fun c46 => ?_)
            · skip
              refine x_iconst (pc := 53) K (v := 0) d_J_isMemberAllowed_53 (by decide) ?_
              exact x_zret (pc := 54) K (rF (by first | (simp_all [okMb]; done) | grind)) rfl rfl d_J_isMemberAllowed_54
            · skip
              refine x_iconst (pc := 49) K (v := 1) d_J_isMemberAllowed_49 (by decide) ?_
              refine x_goto (pc := 50) K (tgt := 54) d_J_isMemberAllowed_50 (by decide) ?_
              exact x_zret (pc := 54) K (rT (by first | (simp_all [okMb]; done) | grind)) rfl rfl d_J_isMemberAllowed_54
        · skip
          refine x_iconst (pc := 35) K (v := 0) d_J_isMemberAllowed_35 (by decide) ?_
          exact x_zret (pc := 36) K (rF (by first | (simp_all [okMb]; done) | grind)) rfl rfl d_J_isMemberAllowed_36
abbrev okIf (k f : Int32) : Prop := if k = 0 then f &&& 3 = 3 ∧ ¬ f &&& 4 = 0 ∧ ¬ f &&& 8 = 0 else k = 1 ∧ f &&& 8 = 0 ∧ (f &&& 3 = 3 ∨ f &&& 3 = 0)
set_option maxHeartbeats 4000000 in
set_option maxRecDepth 100000 in
theorem c_J_isAllowedInInterface (l : Launch) (w : fl_W) (M : fl_M) (k f : Int32) : CT l y_J_isAllowedInInterface w_J_isAllowedInInterface rm_J_isAllowedInInterface w zN [.int k, .int f] M (some (.int (bI (okIf k f)))) M := by
  refine CT.of (cc := b_J_isAllowedInInterface) (own := "CompatibilityJudge") (by decide) rfl rfl (Nat.le_of_ble_eq_true rfl) ?_
  intro p9 e9 s9 m9 ag9 bl9 mt9 c9 K
  show XW p9 l e9 (rm_J_isAllowedInInterface) s9 m9 ag9 bl9 mt9 c9 3 0 0 (MQ bl9 (CQ w zN (some (.int (bI (okIf k f)))) M) ag9 s9 0 0 (fun q : Nat => w.2.2 ≤ q)) w zN M 0 [(0, .int k), (1, .int f)] []
  refine x_iload_n (pc := 0) K 1 d_J_isAllowedInInterface_0 rfl ?_
  refine x_iconst (pc := 1) K (v := 3) d_J_isAllowedInInterface_1 (by decide) ?_
  refine x_iand (pc := 2) K d_J_isAllowedInInterface_2 ?_
  refine x_istore_n (pc := 3) K (lv' := [(2, .int (f &&& 3)), (0, .int k), (1, .int f)]) d_J_isAllowedInInterface_3 (by decide) rfl ?_
  refine x_iload_n (pc := 4) K 1 d_J_isAllowedInInterface_4 rfl ?_
  refine x_if_ne (pc := 5) K (tgt := 32) d_J_isAllowedInInterface_5 (by decide) (fun c5 => ?_) (fun c5 => ?_)
  · skip
    refine x_iload_n (pc := 32) K 1 d_J_isAllowedInInterface_32 rfl ?_
    refine x_iconst (pc := 33) K (v := 1) d_J_isAllowedInInterface_33 (by decide) ?_
    refine x_icmp_ne (pc := 34) K (tgt := 57) d_J_isAllowedInInterface_34 (by decide) (fun c34 => ?_) (fun c34 => ?_)
    · skip
      refine x_iconst (pc := 57) K (v := 0) d_J_isAllowedInInterface_57 (by decide) ?_
      exact x_zret (pc := 58) K (rF (by first | (simp_all [okIf]; done) | grind)) rfl rfl d_J_isAllowedInInterface_58
    · skip
      refine x_iload_n (pc := 37) K 2 d_J_isAllowedInInterface_37 rfl ?_
      refine x_bipush (pc := 38) K (v := 8) d_J_isAllowedInInterface_38 (by decide) ?_
      refine x_iand (pc := 40) K d_J_isAllowedInInterface_40 ?_
      refine x_if_ne (pc := 41) K (tgt := 57) d_J_isAllowedInInterface_41 (by decide) (fun c41 => ?_) (fun c41 => ?_)
      · skip
        refine x_iconst (pc := 57) K (v := 0) d_J_isAllowedInInterface_57 (by decide) ?_
        exact x_zret (pc := 58) K (rF (by first | (simp_all [okIf]; done) | grind)) rfl rfl d_J_isAllowedInInterface_58
      · skip
        refine x_iload_n (pc := 44) K 0 d_J_isAllowedInInterface_44 rfl ?_
        refine x_iconst (pc := 45) K (v := 3) d_J_isAllowedInInterface_45 (by decide) ?_
        refine x_icmp_eq (pc := 46) K (tgt := 53) d_J_isAllowedInInterface_46 (by decide) (fun c46 => ?_) (fun c46 => ?_)
        · skip
          refine x_iconst (pc := 53) K (v := 1) d_J_isAllowedInInterface_53 (by decide) ?_
          refine x_goto (pc := 54) K (tgt := 58) d_J_isAllowedInInterface_54 (by decide) ?_
          exact x_zret (pc := 58) K (rT (by first | (simp_all [okIf]; done) | grind)) rfl rfl d_J_isAllowedInInterface_58
        · skip
          refine x_iload_n (pc := 49) K 0 d_J_isAllowedInInterface_49 rfl ?_
          refine x_if_ne (pc := 50) K (tgt := 57) d_J_isAllowedInInterface_50 (by decide) (fun c50 => ?_) (fun c50 => ?_)
          · skip
            refine x_iconst (pc := 57) K (v := 0) d_J_isAllowedInInterface_57 (by decide) ?_
            exact x_zret (pc := 58) K (rF (by first | (simp_all [okIf]; done) | grind)) rfl rfl d_J_isAllowedInInterface_58
          · skip
            refine x_iconst (pc := 53) K (v := 1) d_J_isAllowedInInterface_53 (by decide) ?_
            refine x_goto (pc := 54) K (tgt := 58) d_J_isAllowedInInterface_54 (by decide) ?_
            exact x_zret (pc := 58) K (rT (by first | (simp_all [okIf]; done) | grind)) rfl rfl d_J_isAllowedInInterface_58
  · skip
    refine x_iload_n (pc := 8) K 0 d_J_isAllowedInInterface_8 rfl ?_
    refine x_iconst (pc := 9) K (v := 3) d_J_isAllowedInInterface_9 (by decide) ?_
    refine x_icmp_ne (pc := 10) K (tgt := 30) d_J_isAllowedInInterface_10 (by decide) (fun c10 => ?_) (fun c10 => ?_)
    · skip
      refine x_iconst (pc := 30) K (v := 0) d_J_isAllowedInInterface_30 (by decide) ?_
      exact x_zret (pc := 31) K (rF (by first | (simp_all [okIf]; done) | grind)) rfl rfl d_J_isAllowedInInterface_31
    · skip
      refine x_iload_n (pc := 13) K 2 d_J_isAllowedInInterface_13 rfl ?_
      refine x_iconst (pc := 14) K (v := 4) d_J_isAllowedInInterface_14 (by decide) ?_
      refine x_iand (pc := 15) K d_J_isAllowedInInterface_15 ?_
      refine x_if_eq (pc := 16) K (tgt := 30) d_J_isAllowedInInterface_16 (by decide) (fun c16 => ?_) (fun c16 => ?_)
      · skip
        refine x_iconst (pc := 30) K (v := 0) d_J_isAllowedInInterface_30 (by decide) ?_
        exact x_zret (pc := 31) K (rF (by first | (simp_all [okIf]; done) | grind)) rfl rfl d_J_isAllowedInInterface_31
      · skip
        refine x_iload_n (pc := 19) K 2 d_J_isAllowedInInterface_19 rfl ?_
        refine x_bipush (pc := 20) K (v := 8) d_J_isAllowedInInterface_20 (by decide) ?_
        refine x_iand (pc := 22) K d_J_isAllowedInInterface_22 ?_
        refine x_if_eq (pc := 23) K (tgt := 30) d_J_isAllowedInInterface_23 (by decide) (fun c23 => ?_) (fun c23 => ?_)
        · skip
          refine x_iconst (pc := 30) K (v := 0) d_J_isAllowedInInterface_30 (by decide) ?_
          exact x_zret (pc := 31) K (rF (by first | (simp_all [okIf]; done) | grind)) rfl rfl d_J_isAllowedInInterface_31
        · skip
          refine x_iconst (pc := 26) K (v := 1) d_J_isAllowedInInterface_26 (by decide) ?_
          refine x_goto (pc := 27) K (tgt := 31) d_J_isAllowedInInterface_27 (by decide) ?_
          exact x_zret (pc := 31) K (rT (by first | (simp_all [okIf]; done) | grind)) rfl rfl d_J_isAllowedInInterface_31
abbrev mDef (M : fl_M) (n : Nat) (a b c : Int32) : fl_M := wI (wI (wI (wI (wI M n 0 a) n 1 b) n 2 c) n 3 0) n 4 0
set_option maxHeartbeats 4000000 in
set_option maxRecDepth 100000 in
theorem c_M_define (l : Launch) (w : fl_W) (M : fl_M) (a b c : Int32) (n : Nat) (hM : zSh n = zsM)  : CT l y_M_define w_M_define rm_M_define w zN [.ref (w.2.2 + n), .int a, .int b, .int c] M none (mDef M n a b c) := by
  refine CT.of (cc := b_M_define) (own := "CompatibilityJudge$Member") (by decide) rfl rfl (Nat.le_of_ble_eq_true rfl) ?_
  intro p9 e9 s9 m9 ag9 bl9 mt9 c9 K
  show XW p9 l e9 (rm_M_define) s9 m9 ag9 bl9 mt9 c9 4 0 0 (MQ bl9 (CQ w zN none (mDef M n a b c)) ag9 s9 0 0 (fun q : Nat => w.2.2 ≤ q)) w zN M 0 [(0, .ref (w.2.2 + n)), (1, .int a), (2, .int b), (3, .int c)] []
  refine x_aload_n (pc := 0) K 0 d_M_define_0 rfl ?_
  refine x_iload_n (pc := 1) K 1 d_M_define_1 rfl ?_
  refine x_puti (pc := 2) K (n := n) (k := 0) (x := a) uY_M tk_M nm_M (zlt hM) hM rfl rfl (by decide) (fun _ q => zmem (uw_M _ q)) (zmem lk_M_9) rfl rfl rfl d_M_define_2 ?_
  refine x_aload_n (pc := 5) K 0 d_M_define_5 rfl ?_
  refine x_iload_n (pc := 6) K 2 d_M_define_6 rfl ?_
  refine x_puti (pc := 7) K (n := n) (k := 1) (x := b) uY_M tk_M nm_M (zlt hM) hM rfl rfl (by decide) (fun _ q => zmem (uw_M _ q)) (zmem lk_M_15) rfl rfl rfl d_M_define_7 ?_
  refine x_aload_n (pc := 10) K 0 d_M_define_10 rfl ?_
  refine x_iload_n (pc := 11) K 3 d_M_define_11 rfl ?_
  refine x_puti (pc := 12) K (n := n) (k := 2) (x := c) uY_M tk_M nm_M (zlt hM) hM rfl rfl (by decide) (fun _ q => zmem (uw_M _ q)) (zmem lk_M_18) rfl rfl rfl d_M_define_12 ?_
  refine x_aload_n (pc := 15) K 0 d_M_define_15 rfl ?_
  refine x_iconst (pc := 16) K (v := 0) d_M_define_16 (by decide) ?_
  refine x_puti (pc := 17) K (n := n) (k := 3) (x := 0) uY_M tk_M nm_M (zlt hM) hM rfl rfl (by decide) (fun _ q => zmem (uw_M _ q)) (zmem lk_M_21) rfl rfl rfl d_M_define_17 ?_
  refine x_aload_n (pc := 20) K 0 d_M_define_20 rfl ?_
  refine x_iconst (pc := 21) K (v := 0) d_M_define_21 (by decide) ?_
  refine x_puti (pc := 22) K (n := n) (k := 4) (x := 0) uY_M tk_M nm_M (zlt hM) hM rfl rfl (by decide) (fun _ q => zmem (uw_M _ q)) (zmem lk_M_25) rfl rfl rfl d_M_define_22 ?_
  exact x_vret (pc := 25) K rfl (rfl) d_M_define_25
def mCp1 (M : fl_M) (n n2 k : Nat) : fl_M := wI M n k (M.1 n2 k)
def mCp (M : fl_M) (n n2 : Nat) : fl_M := mCp1 (mCp1 (mCp1 (mCp1 (mCp1 M n n2 0) n n2 1) n n2 2) n n2 3) n n2 4
theorem mCp_z {M : fl_M} {n n2 : Nat} (h : isZ (M.1 n2 3)) : isZ ((mCp1 (mCp1 (mCp1 M n n2 0) n n2 1) n n2 2).1 n2 3) := by
  simpa [mCp1, wI, fl_u] using h
set_option maxHeartbeats 4000000 in
set_option maxRecDepth 100000 in
theorem c_M_become (l : Launch) (w : fl_W) (M : fl_M) (n2 : Nat) (hM2 : zSh n2 = zsM) (hz : isZ (M.1 n2 3)) (n : Nat) (hM : zSh n = zsM)  : CT l y_M_become w_M_become rm_M_become w zN [.ref (w.2.2 + n), .ref (w.2.2 + n2)] M none (mCp M n n2) := by
  refine CT.of (cc := b_M_become) (own := "CompatibilityJudge$Member") (by decide) rfl rfl (Nat.le_of_ble_eq_true rfl) ?_
  intro p9 e9 s9 m9 ag9 bl9 mt9 c9 K
  show XW p9 l e9 (rm_M_become) s9 m9 ag9 bl9 mt9 c9 2 0 0 (MQ bl9 (CQ w zN none (mCp M n n2)) ag9 s9 0 0 (fun q : Nat => w.2.2 ≤ q)) w zN M 0 [(0, .ref (w.2.2 + n)), (1, .ref (w.2.2 + n2))] []
  refine x_aload_n (pc := 0) K 0 d_M_become_0 rfl ?_
  refine x_aload_n (pc := 1) K 1 d_M_become_1 rfl ?_
  refine x_geti (pc := 2) K (n := n2) (k := 0) (zlt hM2) hM2 rfl rfl (by decide) (fun _ q => zmem (uw_M _ q)) (zmem lk_M_9) d_M_become_2 ?_
  refine x_puti (pc := 5) K (n := n) (k := 0) (x := M.1 n2 0) uY_M tk_M nm_M (zlt hM) hM rfl rfl (by decide) (fun _ q => zmem (uw_M _ q)) (zmem lk_M_9) rfl rfl rfl d_M_become_5 ?_
  refine x_aload_n (pc := 8) K 0 d_M_become_8 rfl ?_
  refine x_aload_n (pc := 9) K 1 d_M_become_9 rfl ?_
  refine x_geti (pc := 10) K (n := n2) (k := 1) (zlt hM2) hM2 rfl rfl (by decide) (fun _ q => zmem (uw_M _ q)) (zmem lk_M_15) d_M_become_10 ?_
  refine x_puti (pc := 13) K (n := n) (k := 1) (x := (wI M n 0 (M.1 n2 0)).1 n2 1) uY_M tk_M nm_M (zlt hM) hM rfl rfl (by decide) (fun _ q => zmem (uw_M _ q)) (zmem lk_M_15) rfl rfl rfl d_M_become_13 ?_
  refine x_aload_n (pc := 16) K 0 d_M_become_16 rfl ?_
  refine x_aload_n (pc := 17) K 1 d_M_become_17 rfl ?_
  refine x_geti (pc := 18) K (n := n2) (k := 2) (zlt hM2) hM2 rfl rfl (by decide) (fun _ q => zmem (uw_M _ q)) (zmem lk_M_18) d_M_become_18 ?_
  refine x_puti (pc := 21) K (n := n) (k := 2) (x := (wI (wI M n 0 (M.1 n2 0)) n 1 ((wI M n 0 (M.1 n2 0)).1 n2 1)).1 n2 2) uY_M tk_M nm_M (zlt hM) hM rfl rfl (by decide) (fun _ q => zmem (uw_M _ q)) (zmem lk_M_18) rfl rfl rfl d_M_become_21 ?_
  refine x_aload_n (pc := 24) K 0 d_M_become_24 rfl ?_
  refine x_aload_n (pc := 25) K 1 d_M_become_25 rfl ?_
  refine x_geti (pc := 26) K (n := n2) (k := 3) (zlt hM2) hM2 rfl rfl (by decide) (fun _ q => zmem (uw_M _ q)) (zmem lk_M_21) d_M_become_26 ?_
  refine x_puti (pc := 29) K (n := n) (k := 3) (x := (wI (wI (wI M n 0 (M.1 n2 0)) n 1 ((wI M n 0 (M.1 n2 0)).1 n2 1)) n 2 ((wI (wI M n 0 (M.1 n2 0)) n 1 ((wI M n 0 (M.1 n2 0)).1 n2 1)).1 n2 2)).1 n2 3) uY_M tk_M nm_M (zlt hM) hM rfl rfl (by decide) (fun _ q => zmem (uw_M _ q)) (zmem lk_M_21) rfl (isZ_n (mCp_z (n := n) hz)) (isZ_ft (mCp_z (n := n) hz)) d_M_become_29 ?_
  refine x_aload_n (pc := 32) K 0 d_M_become_32 rfl ?_
  refine x_aload_n (pc := 33) K 1 d_M_become_33 rfl ?_
  refine x_geti (pc := 34) K (n := n2) (k := 4) (zlt hM2) hM2 rfl rfl (by decide) (fun _ q => zmem (uw_M _ q)) (zmem lk_M_25) d_M_become_34 ?_
  refine x_puti (pc := 37) K (n := n) (k := 4) (x := (wI (wI (wI (wI M n 0 (M.1 n2 0)) n 1 ((wI M n 0 (M.1 n2 0)).1 n2 1)) n 2 ((wI (wI M n 0 (M.1 n2 0)) n 1 ((wI M n 0 (M.1 n2 0)).1 n2 1)).1 n2 2)) n 3 ((wI (wI (wI M n 0 (M.1 n2 0)) n 1 ((wI M n 0 (M.1 n2 0)).1 n2 1)) n 2 ((wI (wI M n 0 (M.1 n2 0)) n 1 ((wI M n 0 (M.1 n2 0)).1 n2 1)).1 n2 2)).1 n2 3)).1 n2 4) uY_M tk_M nm_M (zlt hM) hM rfl rfl (by decide) (fun _ q => zmem (uw_M _ q)) (zmem lk_M_25) rfl rfl rfl d_M_become_37 ?_
  exact x_vret (pc := 40) K rfl (rfl) d_M_become_40
set_option maxHeartbeats 4000000 in
set_option maxRecDepth 100000 in
theorem c_M_hasAny (l : Launch) (w : fl_W) (M : fl_M) (f : Int32) (n : Nat) (hM : zSh n = zsM)  : CT l y_M_hasAny w_M_hasAny rm_M_hasAny w zN [.ref (w.2.2 + n), .int f] M (some (.int (bI (¬ M.1 n 2 &&& f = 0)))) M := by
  refine CT.of (cc := b_M_hasAny) (own := "CompatibilityJudge$Member") (by decide) rfl rfl (Nat.le_of_ble_eq_true rfl) ?_
  intro p9 e9 s9 m9 ag9 bl9 mt9 c9 K
  show XW p9 l e9 (rm_M_hasAny) s9 m9 ag9 bl9 mt9 c9 2 0 0 (MQ bl9 (CQ w zN (some (.int (bI (¬ M.1 n 2 &&& f = 0)))) M) ag9 s9 0 0 (fun q : Nat => w.2.2 ≤ q)) w zN M 0 [(0, .ref (w.2.2 + n)), (1, .int f)] []
  refine x_aload_n (pc := 0) K 0 d_M_hasAny_0 rfl ?_
  refine x_geti (pc := 1) K (n := n) (k := 2) (zlt hM) hM rfl rfl (by decide) (fun _ q => zmem (uw_M _ q)) (zmem lk_M_18) d_M_hasAny_1 ?_
  refine x_iload_n (pc := 4) K 1 d_M_hasAny_4 rfl ?_
  refine x_iand (pc := 5) K d_M_hasAny_5 ?_
  refine x_if_eq (pc := 6) K (tgt := 13) d_M_hasAny_6 (by decide) (fun c6 => ?_) (fun c6 => ?_)
  · skip
    refine x_iconst (pc := 13) K (v := 0) d_M_hasAny_13 (by decide) ?_
    exact x_zret (pc := 14) K (rF (by first | (simp_all; done) | grind)) rfl rfl d_M_hasAny_14
  · skip
    refine x_iconst (pc := 9) K (v := 1) d_M_hasAny_9 (by decide) ?_
    refine x_goto (pc := 10) K (tgt := 14) d_M_hasAny_10 (by decide) ?_
    exact x_zret (pc := 14) K (rT (by first | (simp_all; done) | grind)) rfl rfl d_M_hasAny_14
set_option maxHeartbeats 4000000 in
set_option maxRecDepth 100000 in
theorem c_M_access (l : Launch) (w : fl_W) (M : fl_M) (n : Nat) (hM : zSh n = zsM)  : CT l y_M_access w_M_access rm_M_access w zN [.ref (w.2.2 + n)] M (some (.int (M.1 n 2 &&& 3))) M := by
  refine CT.of (cc := b_M_access) (own := "CompatibilityJudge$Member") (by decide) rfl rfl (Nat.le_of_ble_eq_true rfl) ?_
  intro p9 e9 s9 m9 ag9 bl9 mt9 c9 K
  show XW p9 l e9 (rm_M_access) s9 m9 ag9 bl9 mt9 c9 1 0 0 (MQ bl9 (CQ w zN (some (.int (M.1 n 2 &&& 3))) M) ag9 s9 0 0 (fun q : Nat => w.2.2 ≤ q)) w zN M 0 [(0, .ref (w.2.2 + n))] []
  refine x_aload_n (pc := 0) K 0 d_M_access_0 rfl ?_
  refine x_geti (pc := 1) K (n := n) (k := 2) (zlt hM) hM rfl rfl (by decide) (fun _ q => zmem (uw_M _ q)) (zmem lk_M_18) d_M_access_1 ?_
  refine x_iconst (pc := 4) K (v := 3) d_M_access_4 (by decide) ?_
  refine x_iand (pc := 5) K d_M_access_5 ?_
  exact x_iret (pc := 6) K (rfl) (rfl) d_M_access_6
set_option maxHeartbeats 4000000 in
set_option maxRecDepth 100000 in
theorem c_M_isOpen (l : Launch) (w : fl_W) (M : fl_M) (n : Nat) (hM : zSh n = zsM)  : CT l y_M_isOpen w_M_isOpen rm_M_isOpen w zN [.ref (w.2.2 + n)] M (some (.int (bI (¬ (M.1 n 2 &&& 3) < 2)))) M := by
  refine CT.of (cc := b_M_isOpen) (own := "CompatibilityJudge$Member") (by decide) rfl rfl (Nat.le_of_ble_eq_true rfl) ?_
  intro p9 e9 s9 m9 ag9 bl9 mt9 c9 K
  show XW p9 l e9 (rm_M_isOpen) s9 m9 ag9 bl9 mt9 c9 1 0 0 (MQ bl9 (CQ w zN (some (.int (bI (¬ (M.1 n 2 &&& 3) < 2)))) M) ag9 s9 0 0 (fun q : Nat => w.2.2 ≤ q)) w zN M 0 [(0, .ref (w.2.2 + n))] []
  refine x_aload_n (pc := 0) K 0 d_M_isOpen_0 rfl ?_
  refine x_callV (pc := 1) K (As := []) (rest := []) (c_M_access l w M n hM) (zcwV K.ts lk_M_28 im_M_access se_M_access ii_M co_M_access pd_M_access ⟨rfl, rfl⟩ ⟨by decide, by decide⟩) (zlt hM) hM rfl rfl rfl (Nat.le_of_ble_eq_true rfl) ⟨Nat.zero_le _, Nat.zero_le _⟩ d_M_isOpen_1 ?_
  refine x_iconst (pc := 4) K (v := 2) d_M_isOpen_4 (by decide) ?_
  refine x_icmp_lt (pc := 5) K (tgt := 12) d_M_isOpen_5 (by decide) (fun c5 => ?_) (fun c5 => ?_)
  · skip
    refine x_iconst (pc := 12) K (v := 0) d_M_isOpen_12 (by decide) ?_
    exact x_zret (pc := 13) K (rF (by first | (simp_all; done) | grind)) rfl rfl d_M_isOpen_13
  · skip
    refine x_iconst (pc := 8) K (v := 1) d_M_isOpen_8 (by decide) ?_
    refine x_goto (pc := 9) K (tgt := 13) d_M_isOpen_9 (by decide) ?_
    exact x_zret (pc := 13) K (rT (by first | (simp_all; done) | grind)) rfl rfl d_M_isOpen_13
set_option maxHeartbeats 4000000 in
set_option maxRecDepth 100000 in
theorem c_M_hasConstantOf (l : Launch) (w : fl_W) (M : fl_M) (n2 : Nat) (hM2 : zSh n2 = zsM) (n : Nat) (hM : zSh n = zsM)  : CT l y_M_hasConstantOf w_M_hasConstantOf rm_M_hasConstantOf w zN [.ref (w.2.2 + n), .ref (w.2.2 + n2)] M (some (.int (bI (¬ M.1 n 3 = 0 ∧ ¬ M.1 n2 3 = 0 ∧ M.1 n 4 = M.1 n2 4)))) M := by
  refine CT.of (cc := b_M_hasConstantOf) (own := "CompatibilityJudge$Member") (by decide) rfl rfl (Nat.le_of_ble_eq_true rfl) ?_
  intro p9 e9 s9 m9 ag9 bl9 mt9 c9 K
  show XW p9 l e9 (rm_M_hasConstantOf) s9 m9 ag9 bl9 mt9 c9 2 0 0 (MQ bl9 (CQ w zN (some (.int (bI (¬ M.1 n 3 = 0 ∧ ¬ M.1 n2 3 = 0 ∧ M.1 n 4 = M.1 n2 4)))) M) ag9 s9 0 0 (fun q : Nat => w.2.2 ≤ q)) w zN M 0 [(0, .ref (w.2.2 + n)), (1, .ref (w.2.2 + n2))] []
  refine x_aload_n (pc := 0) K 0 d_M_hasConstantOf_0 rfl ?_
  refine x_geti (pc := 1) K (n := n) (k := 3) (zlt hM) hM rfl rfl (by decide) (fun _ q => zmem (uw_M _ q)) (zmem lk_M_21) d_M_hasConstantOf_1 ?_
  refine x_if_eq (pc := 4) K (tgt := 29) d_M_hasConstantOf_4 (by decide) (fun c4 => ?_) (fun c4 => ?_)
  · skip
    refine x_iconst (pc := 29) K (v := 0) d_M_hasConstantOf_29 (by decide) ?_
    exact x_zret (pc := 30) K (rF (by first | (simp_all; done) | grind)) rfl rfl d_M_hasConstantOf_30
  · skip
    refine x_aload_n (pc := 7) K 1 d_M_hasConstantOf_7 rfl ?_
    refine x_geti (pc := 8) K (n := n2) (k := 3) (zlt hM2) hM2 rfl rfl (by decide) (fun _ q => zmem (uw_M _ q)) (zmem lk_M_21) d_M_hasConstantOf_8 ?_
    refine x_if_eq (pc := 11) K (tgt := 29) d_M_hasConstantOf_11 (by decide) (fun c11 => ?_) (fun c11 => ?_)
    · skip
      refine x_iconst (pc := 29) K (v := 0) d_M_hasConstantOf_29 (by decide) ?_
      exact x_zret (pc := 30) K (rF (by first | (simp_all; done) | grind)) rfl rfl d_M_hasConstantOf_30
    · skip
      refine x_aload_n (pc := 14) K 0 d_M_hasConstantOf_14 rfl ?_
      refine x_geti (pc := 15) K (n := n) (k := 4) (zlt hM) hM rfl rfl (by decide) (fun _ q => zmem (uw_M _ q)) (zmem lk_M_25) d_M_hasConstantOf_15 ?_
      refine x_aload_n (pc := 18) K 1 d_M_hasConstantOf_18 rfl ?_
      refine x_geti (pc := 19) K (n := n2) (k := 4) (zlt hM2) hM2 rfl rfl (by decide) (fun _ q => zmem (uw_M _ q)) (zmem lk_M_25) d_M_hasConstantOf_19 ?_
      refine x_icmp_ne (pc := 22) K (tgt := 29) d_M_hasConstantOf_22 (by decide) (fun c22 => ?_) (fun c22 => ?_)
      · skip
        refine x_iconst (pc := 29) K (v := 0) d_M_hasConstantOf_29 (by decide) ?_
        exact x_zret (pc := 30) K (rF (by first | (simp_all; done) | grind)) rfl rfl d_M_hasConstantOf_30
      · skip
        refine x_iconst (pc := 25) K (v := 1) d_M_hasConstantOf_25 (by decide) ?_
        refine x_goto (pc := 26) K (tgt := 30) d_M_hasConstantOf_26 (by decide) ?_
        exact x_zret (pc := 30) K (rT (by first | (simp_all; done) | grind)) rfl rfl d_M_hasConstantOf_30
abbrev tDef (M : fl_M) (n : Nat) (a b c : Int32) : fl_M := wI (wI (wI (wI M n 0 1) n 1 a) n 2 b) n 3 c
set_option maxHeartbeats 4000000 in
set_option maxRecDepth 100000 in
theorem c_T_define (l : Launch) (w : fl_W) (M : fl_M) (a b c : Int32) (n : Nat) (hT : zSh n = zsT)  : CT l y_T_define w_T_define rm_T_define w zN [.ref (w.2.2 + n), .int a, .int b, .int c] M none (tDef M n a b c) := by
  refine CT.of (cc := b_T_define) (own := "CompatibilityJudge$Type") (by decide) rfl rfl (Nat.le_of_ble_eq_true rfl) ?_
  intro p9 e9 s9 m9 ag9 bl9 mt9 c9 K
  show XW p9 l e9 (rm_T_define) s9 m9 ag9 bl9 mt9 c9 4 0 0 (MQ bl9 (CQ w zN none (tDef M n a b c)) ag9 s9 0 0 (fun q : Nat => w.2.2 ≤ q)) w zN M 0 [(0, .ref (w.2.2 + n)), (1, .int a), (2, .int b), (3, .int c)] []
  refine x_aload_n (pc := 0) K 0 d_T_define_0 rfl ?_
  refine x_iconst (pc := 1) K (v := 1) d_T_define_1 (by decide) ?_
  refine x_puti (pc := 2) K (n := n) (k := 0) (x := 1) uY_T tk_T nm_T (zlt hT) hT rfl rfl (by decide) (fun _ q => zmem (uw_T _ q)) (zmem lk_T_29) rfl rfl rfl d_T_define_2 ?_
  refine x_aload_n (pc := 5) K 0 d_T_define_5 rfl ?_
  refine x_iload_n (pc := 6) K 1 d_T_define_6 rfl ?_
  refine x_puti (pc := 7) K (n := n) (k := 1) (x := a) uY_T tk_T nm_T (zlt hT) hT rfl rfl (by decide) (fun _ q => zmem (uw_T _ q)) (zmem lk_T_33) rfl rfl rfl d_T_define_7 ?_
  refine x_aload_n (pc := 10) K 0 d_T_define_10 rfl ?_
  refine x_iload_n (pc := 11) K 2 d_T_define_11 rfl ?_
  refine x_puti (pc := 12) K (n := n) (k := 2) (x := b) uY_T tk_T nm_T (zlt hT) hT rfl rfl (by decide) (fun _ q => zmem (uw_T _ q)) (zmem lk_T_36) rfl rfl rfl d_T_define_12 ?_
  refine x_aload_n (pc := 15) K 0 d_T_define_15 rfl ?_
  refine x_iload_n (pc := 16) K 3 d_T_define_16 rfl ?_
  refine x_puti (pc := 17) K (n := n) (k := 3) (x := c) uY_T tk_T nm_T (zlt hT) hT rfl rfl (by decide) (fun _ q => zmem (uw_T _ q)) (zmem lk_T_22) rfl rfl rfl d_T_define_17 ?_
  exact x_vret (pc := 20) K rfl (rfl) d_T_define_20
abbrev tClr (M : fl_M) (n : Nat) : fl_M := wI (wI (wI (wI (wI (wI M n 0 0) n 1 0) n 2 0) n 3 (-1)) n 5 0) n 7 0
set_option maxHeartbeats 4000000 in
set_option maxRecDepth 100000 in
theorem c_T_clear (l : Launch) (w : fl_W) (M : fl_M) (n : Nat) (hT : zSh n = zsT)  : CT l y_T_clear w_T_clear rm_T_clear w zN [.ref (w.2.2 + n)] M none (tClr M n) := by
  refine CT.of (cc := b_T_clear) (own := "CompatibilityJudge$Type") (by decide) rfl rfl (Nat.le_of_ble_eq_true rfl) ?_
  intro p9 e9 s9 m9 ag9 bl9 mt9 c9 K
  show XW p9 l e9 (rm_T_clear) s9 m9 ag9 bl9 mt9 c9 1 0 0 (MQ bl9 (CQ w zN none (tClr M n)) ag9 s9 0 0 (fun q : Nat => w.2.2 ≤ q)) w zN M 0 [(0, .ref (w.2.2 + n))] []
  refine x_aload_n (pc := 0) K 0 d_T_clear_0 rfl ?_
  refine x_iconst (pc := 1) K (v := 0) d_T_clear_1 (by decide) ?_
  refine x_puti (pc := 2) K (n := n) (k := 0) (x := 0) uY_T tk_T nm_T (zlt hT) hT rfl rfl (by decide) (fun _ q => zmem (uw_T _ q)) (zmem lk_T_29) rfl rfl rfl d_T_clear_2 ?_
  refine x_aload_n (pc := 5) K 0 d_T_clear_5 rfl ?_
  refine x_iconst (pc := 6) K (v := 0) d_T_clear_6 (by decide) ?_
  refine x_puti (pc := 7) K (n := n) (k := 1) (x := 0) uY_T tk_T nm_T (zlt hT) hT rfl rfl (by decide) (fun _ q => zmem (uw_T _ q)) (zmem lk_T_33) rfl rfl rfl d_T_clear_7 ?_
  refine x_aload_n (pc := 10) K 0 d_T_clear_10 rfl ?_
  refine x_iconst (pc := 11) K (v := 0) d_T_clear_11 (by decide) ?_
  refine x_puti (pc := 12) K (n := n) (k := 2) (x := 0) uY_T tk_T nm_T (zlt hT) hT rfl rfl (by decide) (fun _ q => zmem (uw_T _ q)) (zmem lk_T_36) rfl rfl rfl d_T_clear_12 ?_
  refine x_aload_n (pc := 15) K 0 d_T_clear_15 rfl ?_
  refine x_iconst (pc := 16) K (v := (-1)) d_T_clear_16 (by decide) ?_
  refine x_puti (pc := 17) K (n := n) (k := 3) (x := (-1)) uY_T tk_T nm_T (zlt hT) hT rfl rfl (by decide) (fun _ q => zmem (uw_T _ q)) (zmem lk_T_22) rfl rfl rfl d_T_clear_17 ?_
  refine x_aload_n (pc := 20) K 0 d_T_clear_20 rfl ?_
  refine x_iconst (pc := 21) K (v := 0) d_T_clear_21 (by decide) ?_
  refine x_puti (pc := 22) K (n := n) (k := 5) (x := 0) uY_T tk_T nm_T (zlt hT) hT rfl rfl (by decide) (fun _ q => zmem (uw_T _ q)) (zmem lk_T_39) rfl rfl rfl d_T_clear_22 ?_
  refine x_aload_n (pc := 25) K 0 d_T_clear_25 rfl ?_
  refine x_iconst (pc := 26) K (v := 0) d_T_clear_26 (by decide) ?_
  refine x_puti (pc := 27) K (n := n) (k := 7) (x := 0) uY_T tk_T nm_T (zlt hT) hT rfl rfl (by decide) (fun _ q => zmem (uw_T _ q)) (zmem lk_T_42) rfl rfl rfl d_T_clear_27 ?_
  exact x_vret (pc := 30) K rfl (rfl) d_T_clear_30
set_option maxHeartbeats 4000000 in
set_option maxRecDepth 100000 in
theorem c_T_hasAny (l : Launch) (w : fl_W) (M : fl_M) (f : Int32) (n : Nat) (hT : zSh n = zsT)  : CT l y_T_hasAny w_T_hasAny rm_T_hasAny w zN [.ref (w.2.2 + n), .int f] M (some (.int (bI (¬ M.1 n 2 &&& f = 0)))) M := by
  refine CT.of (cc := b_T_hasAny) (own := "CompatibilityJudge$Type") (by decide) rfl rfl (Nat.le_of_ble_eq_true rfl) ?_
  intro p9 e9 s9 m9 ag9 bl9 mt9 c9 K
  show XW p9 l e9 (rm_T_hasAny) s9 m9 ag9 bl9 mt9 c9 2 0 0 (MQ bl9 (CQ w zN (some (.int (bI (¬ M.1 n 2 &&& f = 0)))) M) ag9 s9 0 0 (fun q : Nat => w.2.2 ≤ q)) w zN M 0 [(0, .ref (w.2.2 + n)), (1, .int f)] []
  refine x_aload_n (pc := 0) K 0 d_T_hasAny_0 rfl ?_
  refine x_geti (pc := 1) K (n := n) (k := 2) (zlt hT) hT rfl rfl (by decide) (fun _ q => zmem (uw_T _ q)) (zmem lk_T_36) d_T_hasAny_1 ?_
  refine x_iload_n (pc := 4) K 1 d_T_hasAny_4 rfl ?_
  refine x_iand (pc := 5) K d_T_hasAny_5 ?_
  refine x_if_eq (pc := 6) K (tgt := 13) d_T_hasAny_6 (by decide) (fun c6 => ?_) (fun c6 => ?_)
  · skip
    refine x_iconst (pc := 13) K (v := 0) d_T_hasAny_13 (by decide) ?_
    exact x_zret (pc := 14) K (rF (by first | (simp_all; done) | grind)) rfl rfl d_T_hasAny_14
  · skip
    refine x_iconst (pc := 9) K (v := 1) d_T_hasAny_9 (by decide) ?_
    refine x_goto (pc := 10) K (tgt := 14) d_T_hasAny_10 (by decide) ?_
    exact x_zret (pc := 14) K (rT (by first | (simp_all; done) | grind)) rfl rfl d_T_hasAny_14
set_option maxHeartbeats 4000000 in
set_option maxRecDepth 100000 in
theorem c_T_isPublic (l : Launch) (w : fl_W) (M : fl_M) (n : Nat) (hT : zSh n = zsT)  : CT l y_T_isPublic w_T_isPublic rm_T_isPublic w zN [.ref (w.2.2 + n)] M (some (.int (bI (¬ M.1 n 0 = 0 ∧ ¬ M.1 n 2 &&& 1 = 0)))) M := by
  refine CT.of (cc := b_T_isPublic) (own := "CompatibilityJudge$Type") (by decide) rfl rfl (Nat.le_of_ble_eq_true rfl) ?_
  intro p9 e9 s9 m9 ag9 bl9 mt9 c9 K
  show XW p9 l e9 (rm_T_isPublic) s9 m9 ag9 bl9 mt9 c9 1 0 0 (MQ bl9 (CQ w zN (some (.int (bI (¬ M.1 n 0 = 0 ∧ ¬ M.1 n 2 &&& 1 = 0)))) M) ag9 s9 0 0 (fun q : Nat => w.2.2 ≤ q)) w zN M 0 [(0, .ref (w.2.2 + n))] []
  refine x_aload_n (pc := 0) K 0 d_T_isPublic_0 rfl ?_
  refine x_geti (pc := 1) K (n := n) (k := 0) (zlt hT) hT rfl rfl (by decide) (fun _ q => zmem (uw_T _ q)) (zmem lk_T_29) d_T_isPublic_1 ?_
  refine x_if_eq (pc := 4) K (tgt := 19) d_T_isPublic_4 (by decide) (fun c4 => ?_) (fun c4 => ?_)
  · skip
    refine x_iconst (pc := 19) K (v := 0) d_T_isPublic_19 (by decide) ?_
    exact x_zret (pc := 20) K (rF (by first | (simp_all; done) | grind)) rfl rfl d_T_isPublic_20
  · skip
    refine x_aload_n (pc := 7) K 0 d_T_isPublic_7 rfl ?_
    refine x_iconst (pc := 8) K (v := 1) d_T_isPublic_8 (by decide) ?_
    refine x_callV (pc := 9) K (As := [.int 1]) (rest := []) (c_T_hasAny l w M 1 n hT) (zcwV K.ts lk_T_58 im_T_hasAny se_T_hasAny ii_T co_T_hasAny pd_T_hasAny ⟨rfl, rfl⟩ ⟨by decide, by decide⟩) (zlt hT) hT rfl rfl rfl (Nat.le_of_ble_eq_true rfl) ⟨Nat.zero_le _, Nat.zero_le _⟩ d_T_isPublic_9 ?_
    refine x_ifeqB (pc := 12) K (tgt := 19) d_T_isPublic_12 (by decide) (fun c12 => ?_) (fun c12 => ?_)
    · skip
      refine x_iconst (pc := 19) K (v := 0) d_T_isPublic_19 (by decide) ?_
      exact x_zret (pc := 20) K (rF (by first | (simp_all; done) | grind)) rfl rfl d_T_isPublic_20
    · skip
      refine x_iconst (pc := 15) K (v := 1) d_T_isPublic_15 (by decide) ?_
      refine x_goto (pc := 16) K (tgt := 20) d_T_isPublic_16 (by decide) ?_
      exact x_zret (pc := 20) K (rT (by first | (simp_all; done) | grind)) rfl rfl d_T_isPublic_20
