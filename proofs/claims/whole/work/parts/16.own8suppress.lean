abbrev okS (r t : Int32) : Prop := (¬ r < 0 ∧ ¬ (14 : Int32) ≤ r) ∧ (¬ t < 0 ∧ ¬ (12 : Int32) ≤ t)
abbrev ySu (M : fl_M) (r t z : Int32) : Prop := okS r t ∧ ¬ bI (sup M.1 r t) = z
def xSu (M : fl_M) (r t : Int32) : fl_M := wI M 277 (ix r) (M.1 277 (ix r) ^^^ 1 <<< (t &&& 31))
set_option maxHeartbeats 4000000 in
set_option maxRecDepth 100000 in
theorem c_J_suppress (l : Launch) (w : fl_W) (M : fl_M) (o : Nat) (hR : zRf o M.2) (r t z : Int32) : CT l y_J_suppress w_J_suppress rm_J_suppress w zN [.ref (w.2.2 + 0), .int r, .int t, .int z] M (some (.int (if okS r t then (if ySu M r t z then 1 else 0) else -1))) (if ySu M r t z then xSu M r t else M) := by
  refine CT.of (cc := b_J_suppress) (own := "CompatibilityJudge") (by decide) rfl rfl (Nat.le_of_ble_eq_true rfl) ?_
  intro p9 e9 s9 m9 ag9 bl9 mt9 c9 K
  show XW p9 l e9 (rm_J_suppress) s9 m9 ag9 bl9 mt9 c9 4 0 0 (MQ bl9 (CQ w zN (some (.int (if okS r t then (if ySu M r t z then 1 else 0) else -1))) (if ySu M r t z then xSu M r t else M)) ag9 s9 0 0 (fun q : Nat => w.2.2 ≤ q)) w zN M 0 [(0, .ref (w.2.2 + 0)), (1, .int r), (2, .int t), (3, .int z)] []
  refine x_iload_n (pc := 0) K 1 d_J_suppress_0 rfl ?_
  refine x_bipush (pc := 1) K (v := 14) d_J_suppress_1 (by decide) ?_
  refine x_callS (pc := 3) K (As := [.int r, .int 14]) (rest := []) (c_J_isWithin l w M r 14) (zcwS K.ts lk_J_31 sm_J_isWithin ii_J co_J_isWithin pd_J_isWithin ⟨rfl, rfl⟩ ⟨by decide, by decide⟩) rfl rfl (Nat.le_of_ble_eq_true rfl) ⟨Nat.zero_le _, Nat.zero_le _⟩ d_J_suppress_3 ?_
  refine x_ifeqB (pc := 6) K (tgt := 18) d_J_suppress_6 (by decide) (fun c6 => ?_) (fun c6 => ?_)
  · skip
    refine x_iconst (pc := 18) K (v := (-1)) d_J_suppress_18 (by decide) ?_
    have hno : ¬ okS r t := fun q => c6 q.1
    have hno2 : ¬ ySu M r t z := fun q => hno q.1
    exact x_iret (pc := 19) K (by rw [if_neg hno]) (by rw [if_neg hno2]) d_J_suppress_19
  · skip
    have hrx := ix_of 14 (by omega) c6.1 c6.2
    refine x_iload_n (pc := 9) K 2 d_J_suppress_9 rfl ?_
    refine x_bipush (pc := 10) K (v := 12) d_J_suppress_10 (by decide) ?_
    refine x_callS (pc := 12) K (As := [.int t, .int 12]) (rest := []) (c_J_isWithin l w M t 12) (zcwS K.ts lk_J_31 sm_J_isWithin ii_J co_J_isWithin pd_J_isWithin ⟨rfl, rfl⟩ ⟨by decide, by decide⟩) rfl rfl (Nat.le_of_ble_eq_true rfl) ⟨Nat.zero_le _, Nat.zero_le _⟩ d_J_suppress_12 ?_
    refine x_ifneB (pc := 15) K (tgt := 20) d_J_suppress_15 (by decide) (fun c15 => ?_) (fun c15 => ?_)
    · skip
      refine x_aload_n (pc := 20) K 0 d_J_suppress_20 rfl ?_
      refine x_iload_n (pc := 21) K 1 d_J_suppress_21 rfl ?_
      refine x_iload_n (pc := 22) K 2 d_J_suppress_22 rfl ?_
      refine x_callV (pc := 23) K (As := [.int r, .int t]) (rest := []) (c_J_isSuppressed l w M o hR r t hrx) (zcwV K.ts lk_J_122 im_J_isSuppressed se_J_isSuppressed ii_J co_J_isSuppressed pd_J_isSuppressed ⟨rfl, rfl⟩ ⟨by decide, by decide⟩) (zlt shJ) shJ rfl rfl rfl (Nat.le_of_ble_eq_true rfl) ⟨Nat.zero_le _, Nat.zero_le _⟩ d_J_suppress_23 ?_
      refine x_iload_n (pc := 26) K 3 d_J_suppress_26 rfl ?_
      refine x_icmp_ne (pc := 27) K (tgt := 32) d_J_suppress_27 (by decide) (fun c27 => ?_) (fun c27 => ?_)
      · skip
        refine x_aload_n (pc := 32) K 0 d_J_suppress_32 rfl ?_
        refine x_getr (pc := 33) K (n := 0) (n' := 277) (k := 2) (zlt shJ) shJ rfl hR.Js rfl (by decide) (fun _ q => zmem (uw_J _ q)) (zmem lk_J_23) d_J_suppress_33 ?_
        refine x_iload_n (pc := 36) K 1 d_J_suppress_36 rfl ?_
        refine x_aload_n (pc := 37) K 0 d_J_suppress_37 rfl ?_
        refine x_getr (pc := 38) K (n := 0) (n' := 277) (k := 2) (zlt shJ) shJ rfl hR.Js rfl (by decide) (fun _ q => zmem (uw_J _ q)) (zmem lk_J_23) d_J_suppress_38 ?_
        refine x_iload_n (pc := 41) K 1 d_J_suppress_41 rfl ?_
        refine x_iald (pc := 42) K (n := 277) (j := ix r) hrx.1 hrx.2 (zlt shS) shS rfl (by decide) d_J_suppress_42 ?_
        refine x_iconst (pc := 43) K (v := 1) d_J_suppress_43 (by decide) ?_
        refine x_iload_n (pc := 44) K 2 d_J_suppress_44 rfl ?_
        refine x_ishl (pc := 45) K d_J_suppress_45 ?_
        refine x_ixor (pc := 46) K d_J_suppress_46 ?_
        refine x_iast (pc := 47) K (n := 277) (j := ix r) (x := (M.1 277 (ix r)) ^^^ (1 <<< (t &&& 31))) hrx.1 hrx.2 (zlt shS) shS rfl (by decide) d_J_suppress_47 ?_
        refine x_iconst (pc := 48) K (v := 1) d_J_suppress_48 (by decide) ?_
        have hy : okS r t := ⟨c6, c15⟩
        have hy2 : ySu M r t z := ⟨hy, c27⟩
        exact x_iret (pc := 49) K (by rw [if_pos hy, if_pos hy2]) (by rw [if_pos hy2]; rfl) d_J_suppress_49
      · skip
        refine x_iconst (pc := 30) K (v := 0) d_J_suppress_30 (by decide) ?_
        have hy : okS r t := ⟨c6, c15⟩
        have hno2 : ¬ ySu M r t z := fun q => q.2 c27
        exact x_iret (pc := 31) K (by rw [if_pos hy, if_neg hno2]) (by rw [if_neg hno2]) d_J_suppress_31
    · skip
      refine x_iconst (pc := 18) K (v := (-1)) d_J_suppress_18 (by decide) ?_
      have hno : ¬ okS r t := fun q => c15 q.2
      have hno2 : ¬ ySu M r t z := fun q => hno q.1
      exact x_iret (pc := 19) K (by rw [if_neg hno]) (by rw [if_neg hno2]) d_J_suppress_19
