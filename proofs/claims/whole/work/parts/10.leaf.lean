set_option maxHeartbeats 4000000 in
set_option maxRecDepth 100000 in
theorem c_J_isWithin (l : Launch) (w : fl_W) (M : fl_M) (x lim : Int32) : CT l y_J_isWithin w_J_isWithin rm_J_isWithin w zN [.int x, .int lim] M (some (.int (bI (¬ x < 0 ∧ ¬ lim ≤ x)))) M := by
  refine CT.of (cc := b_J_isWithin) (own := "CompatibilityJudge") (by decide) rfl rfl (Nat.le_of_ble_eq_true rfl) ?_
  intro p e s m args below meth c K
  show XW p l e (rm_J_isWithin) s m args below meth c 2 0 0 (MQ below (CQ w zN (some (.int (bI (¬ x < 0 ∧ ¬ lim ≤ x)))) M) args s 0 0 (fun q : Nat => w.2.2 ≤ q)) w zN M 0 [(0, .int x), (1, .int lim)] []
  refine x_iload_n (pc := 0) K 0 d_J_isWithin_0 rfl ?_
  refine x_if_lt (pc := 1) K (tgt := 13) d_J_isWithin_1 (by decide) (fun c1 => ?_) (fun c1 => ?_)
  · skip
    refine x_iconst (pc := 13) K (v := 0) d_J_isWithin_13 (by decide) ?_
    exact x_zret (pc := 14) K (rF (by simp_all)) rfl rfl d_J_isWithin_14
  · skip
    refine x_iload_n (pc := 4) K 0 d_J_isWithin_4 rfl ?_
    refine x_iload_n (pc := 5) K 1 d_J_isWithin_5 rfl ?_
    refine x_icmp_ge (pc := 6) K (tgt := 13) d_J_isWithin_6 (by decide) (fun c6 => ?_) (fun c6 => ?_)
    · skip
      refine x_iconst (pc := 13) K (v := 0) d_J_isWithin_13 (by decide) ?_
      exact x_zret (pc := 14) K (rF (by simp_all)) rfl rfl d_J_isWithin_14
    · skip
      refine x_iconst (pc := 9) K (v := 1) d_J_isWithin_9 (by decide) ?_
      refine x_goto (pc := 10) K (tgt := 14) d_J_isWithin_10 (by decide) ?_
      exact x_zret (pc := 14) K (rT (by simp_all)) rfl rfl d_J_isWithin_14
/-- a baseline and a type that are there -/
def okT (b t : Int32) : Prop := (¬ b < 0 ∧ ¬ (2 : Int32) ≤ b) ∧ (¬ t < 0 ∧ ¬ (12 : Int32) ≤ t)
