theorem rdR_ne {M : fl_M} {n k a j : Nat} {v u : Option Nat} (h : a ≠ n) (q : M.2 a j = u) : (wR M n k v).2 a j = u := (congrFun (fl_u_row h) j).trans q
def xSw (M : fl_M) (o : Nat) : fl_M := wI (wR (wR M 1 0 (some (zb o 1))) 1 1 (some (zb o 0))) 272 4 1
set_option maxHeartbeats 4000000 in
set_option maxRecDepth 100000 in
theorem c_J_swap (l : Launch) (w : fl_W) (M : fl_M) (o : Nat) (hR : zRf o M.2)  : CT l y_J_swap w_J_swap rm_J_swap w zN [.ref (w.2.2 + 0)] M none (xSw M o) := by
  refine CT.of (cc := b_J_swap) (own := "CompatibilityJudge") (by decide) rfl rfl (Nat.le_of_ble_eq_true rfl) ?_
  intro p9 e9 s9 m9 ag9 bl9 mt9 c9 K
  show XW p9 l e9 (rm_J_swap) s9 m9 ag9 bl9 mt9 c9 2 0 0 (MQ bl9 (CQ w zN none (xSw M o)) ag9 s9 0 0 (fun q : Nat => w.2.2 ≤ q)) w zN M 0 [(0, .ref (w.2.2 + 0))] []
  refine x_aload_n (pc := 0) K 0 d_J_swap_0 rfl ?_
  refine x_getr (pc := 1) K (n := 0) (n' := 1) (k := 0) (zlt shJ) shJ rfl hR.Ja rfl (by decide) (fun _ q => zmem (uw_J _ q)) (zmem lk_J_12) d_J_swap_1 ?_
  refine x_iconst (pc := 4) K (v := 0) d_J_swap_4 (by decide) ?_
  refine x_aald (pc := 5) K (n := 1) (n' := zb o 0) (j := 0) (by decide) (by decide) (hR.Jb (by decide)) (zlt shA) shA rfl (by decide) d_J_swap_5 ?_
  refine x_astore_n (pc := 6) K (lv' := [(1, .ref (w.2.2 + (zb o 0))), (0, .ref (w.2.2 + 0))]) d_J_swap_6 (by decide) rfl ?_
  refine x_aload_n (pc := 7) K 1 d_J_swap_7 rfl ?_
  refine x_getr (pc := 8) K (n := 0) (n' := 1) (k := 0) (zlt shJ) shJ rfl hR.Ja rfl (by decide) (fun _ q => zmem (uw_J _ q)) (zmem lk_J_12) d_J_swap_8 ?_
  refine x_iconst (pc := 11) K (v := 0) d_J_swap_11 (by decide) ?_
  refine x_aload_n (pc := 12) K 1 d_J_swap_12 rfl ?_
  refine x_getr (pc := 13) K (n := 0) (n' := 1) (k := 0) (zlt shJ) shJ rfl hR.Ja rfl (by decide) (fun _ q => zmem (uw_J _ q)) (zmem lk_J_12) d_J_swap_13 ?_
  refine x_iconst (pc := 16) K (v := 1) d_J_swap_16 (by decide) ?_
  refine x_aald (pc := 17) K (n := 1) (n' := zb o 1) (j := 1) (by decide) (by decide) (hR.Jb (by decide)) (zlt shA) shA rfl (by decide) d_J_swap_17 ?_
  refine x_aast (pc := 18) K (n := 1) (n' := zb o 1) (j := 0) (by decide) (by decide) (zlt shA) shA rfl (zlt (hR.shb (by decide))) (hR.shb (by decide)) rfl (by decide) d_J_swap_18 ?_
  refine x_aload_n (pc := 19) K 1 d_J_swap_19 rfl ?_
  refine x_getr (pc := 20) K (n := 0) (n' := 1) (k := 0) (zlt shJ) shJ rfl (rdR_ne (by decide) hR.Ja) rfl (by decide) (fun _ q => zmem (uw_J _ q)) (zmem lk_J_12) d_J_swap_20 ?_
  refine x_iconst (pc := 23) K (v := 1) d_J_swap_23 (by decide) ?_
  refine x_aload_n (pc := 24) K 0 d_J_swap_24 rfl ?_
  refine x_aast (pc := 25) K (n := 1) (n' := zb o 0) (j := 1) (by decide) (by decide) (zlt shA) shA rfl (zlt (hR.shb (by decide))) (hR.shb (by decide)) rfl (by decide) d_J_swap_25 ?_
  refine x_aload_n (pc := 26) K 1 d_J_swap_26 rfl ?_
  refine x_getr (pc := 27) K (n := 0) (n' := 272) (k := 1) (zlt shJ) shJ rfl (rdR_ne (by decide) (rdR_ne (by decide) hR.Jc)) rfl (by decide) (fun _ q => zmem (uw_J _ q)) (zmem lk_J_19) d_J_swap_27 ?_
  refine x_iconst (pc := 30) K (v := 1) d_J_swap_30 (by decide) ?_
  refine x_puti (pc := 31) K (n := 272) (k := 4) (x := 1) uY_C tk_C nm_C (zlt shC) shC rfl rfl (by decide) (fun _ q => zmem (uw_C _ q)) (zmem lk_J_55) rfl rfl rfl d_J_swap_31 ?_
  exact x_vret (pc := 34) K rfl (by rw [xSw]) d_J_swap_34
