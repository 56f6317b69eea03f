theorem zb_ne {o : Nat} {r : Nat → Nat → Option Nat} (h : zRf o r) : zb o 1 ≠ zb o 0 := by
  rcases h.1 with rfl | rfl <;> decide
def xCp (M : fl_M) (o : Nat) : fl_M := wI (bec M (zb o 1) (zb o 0) 0 12) 272 4 1
set_option maxHeartbeats 4000000 in
set_option maxRecDepth 100000 in
theorem c_J_copyY (l : Launch) (w : fl_W) (M : fl_M) (o : Nat) (hR : zRf o M.2) (hA : ∀ x, x < 2 → bAll M.1 (zb o x)) (hz : zM3 M.1) (Y : fl_M) (hY : bec M (zb o 1) (zb o 0) 0 12 = Y) : CT l y_J_copy w_J_copy rm_J_copy w zN [.ref (w.2.2 + 0)] M (some (.int (tct (wI Y 272 4 1).1 (zb o 1) 0 12 0))) (wI Y 272 4 1) := by
  refine CT.of (cc := b_J_copy) (own := "CompatibilityJudge") (by decide) rfl rfl (Nat.le_of_ble_eq_true rfl) ?_
  intro p9 e9 s9 m9 ag9 bl9 mt9 c9 K
  have hRY : zRf o Y.2 := by rw [← hY, bec_2]; exact hR
  show XW p9 l e9 (rm_J_copy) s9 m9 ag9 bl9 mt9 c9 1 0 0 (MQ bl9 (CQ w zN (some (.int (tct (wI Y 272 4 1).1 (zb o 1) 0 12 0))) (wI Y 272 4 1)) ag9 s9 0 0 (fun q : Nat => w.2.2 ≤ q)) w zN M 0 [(0, .ref (w.2.2 + 0))] []
  refine x_aload_n (pc := 0) K 0 d_J_copy_0 rfl ?_
  refine x_getr (pc := 1) K (n := 0) (n' := 1) (k := 0) (zlt shJ) shJ rfl hR.Ja rfl (by decide) (fun _ q => zmem (uw_J _ q)) (zmem lk_J_12) d_J_copy_1 ?_
  refine x_iconst (pc := 4) K (v := 1) d_J_copy_4 (by decide) ?_
  refine x_aald (pc := 5) K (n := 1) (n' := zb o 1) (j := 1) (by decide) (by decide) (hR.Jb (by decide)) (zlt shA) shA rfl (by decide) d_J_copy_5 ?_
  refine x_aload_n (pc := 6) K 0 d_J_copy_6 rfl ?_
  refine x_getr (pc := 7) K (n := 0) (n' := 1) (k := 0) (zlt shJ) shJ rfl hR.Ja rfl (by decide) (fun _ q => zmem (uw_J _ q)) (zmem lk_J_12) d_J_copy_7 ?_
  refine x_iconst (pc := 10) K (v := 0) d_J_copy_10 (by decide) ?_
  refine x_aald (pc := 11) K (n := 1) (n' := zb o 0) (j := 0) (by decide) (by decide) (hR.Jb (by decide)) (zlt shA) shA rfl (by decide) d_J_copy_11 ?_
  refine x_callVv (pc := 12) K (As := [.ref (w.2.2 + (zb o 0))]) (rest := []) (hY ▸ c_B_become l w M (zb o 1) (zb o 0) (hR.shb (by decide)) (hR.shb (by decide)) (zb_ne hR) o hR (hA 0 (by decide)).1 hz) (zcwV K.ts lk_J_114 im_B_become se_B_become ii_B co_B_become pd_B_become ⟨rfl, rfl⟩ ⟨by decide, by decide⟩) (zlt (hR.shb (by decide))) (hR.shb (by decide)) rfl rfl rfl (Nat.le_of_ble_eq_true rfl) ⟨Nat.zero_le _, Nat.zero_le _⟩ d_J_copy_12 ?_
  refine x_aload_n (pc := 15) K 0 d_J_copy_15 rfl ?_
  refine x_getr (pc := 16) K (n := 0) (n' := 272) (k := 1) (zlt shJ) shJ rfl hRY.Jc rfl (by decide) (fun _ q => zmem (uw_J _ q)) (zmem lk_J_19) d_J_copy_16 ?_
  refine x_iconst (pc := 19) K (v := 1) d_J_copy_19 (by decide) ?_
  refine x_puti (pc := 20) K (n := 272) (k := 4) (x := 1) uY_C tk_C nm_C (zlt shC) shC rfl rfl (by decide) (fun _ q => zmem (uw_C _ q)) (zmem lk_J_55) rfl rfl rfl d_J_copy_20 ?_
  refine x_aload_n (pc := 23) K 0 d_J_copy_23 rfl ?_
  refine x_getr (pc := 24) K (n := 0) (n' := 1) (k := 0) (zlt shJ) shJ rfl hRY.Ja rfl (by decide) (fun _ q => zmem (uw_J _ q)) (zmem lk_J_12) d_J_copy_24 ?_
  refine x_iconst (pc := 27) K (v := 1) d_J_copy_27 (by decide) ?_
  refine x_aald (pc := 28) K (n := 1) (n' := zb o 1) (j := 1) (by decide) (by decide) (hRY.Jb (by decide)) (zlt shA) shA rfl (by decide) d_J_copy_28 ?_
  refine x_callV (pc := 29) K (As := []) (rest := []) (c_B_typeCount l w (wI Y 272 4 1) (zb o 1) (hRY.shb (by decide)) o hRY) (zcwV K.ts lk_J_118 im_B_typeCount se_B_typeCount ii_B co_B_typeCount pd_B_typeCount ⟨rfl, rfl⟩ ⟨by decide, by decide⟩) (zlt (hRY.shb (by decide))) (hRY.shb (by decide)) rfl rfl rfl (Nat.le_of_ble_eq_true rfl) ⟨Nat.zero_le _, Nat.zero_le _⟩ d_J_copy_29 ?_
  exact x_iret (pc := 32) K (rfl) (rfl) d_J_copy_32
theorem c_J_copy (l : Launch) (w : fl_W) (M : fl_M) (o : Nat) (hR : zRf o M.2) (hA : ∀ x, x < 2 → bAll M.1 (zb o x)) (hz : zM3 M.1) : CT l y_J_copy w_J_copy rm_J_copy w zN [.ref (w.2.2 + 0)] M (some (.int (tct (xCp M o).1 (zb o 1) 0 12 0))) (xCp M o) := by
  unfold xCp
  exact c_J_copyY l w M o hR hA hz _ rfl
