def bC1 (x : Int32) : Int32 := x - ((x.toUInt32 >>> ((1 : Int32).toUInt32 &&& Int32.toUInt32 31)).toInt32 &&& 1431655765)
def bC2 (x : Int32) : Int32 := (x &&& 858993459) + ((x.toUInt32 >>> ((2 : Int32).toUInt32 &&& Int32.toUInt32 31)).toInt32 &&& 858993459)
def bC3 (x : Int32) : Int32 := (x + (x.toUInt32 >>> ((4 : Int32).toUInt32 &&& Int32.toUInt32 31)).toInt32) &&& 252645135
def bC4 (x : Int32) : Int32 := x + (x.toUInt32 >>> ((8 : Int32).toUInt32 &&& Int32.toUInt32 31)).toInt32
def bC5 (x : Int32) : Int32 := x + (x.toUInt32 >>> ((16 : Int32).toUInt32 &&& Int32.toUInt32 31)).toInt32
def bC (x : Int32) : Int32 := bC5 (bC4 (bC3 (bC2 (bC1 x)))) &&& 63
set_option maxHeartbeats 4000000 in
set_option maxRecDepth 100000 in
theorem c_I_bitCount (l : Launch) (w : fl_W) (M : fl_M) (x : Int32) : CT l y_I_bitCount w_I_bitCount rm_I_bitCount w zN [.int x] M (some (.int (bC x))) M := by
  refine CT.of (cc := b_I_bitCount) (own := "java/lang/Integer") (by decide) rfl rfl (Nat.le_of_ble_eq_true rfl) ?_
  intro p9 e9 s9 m9 ag9 bl9 mt9 c9 K
  show XW p9 l e9 (rm_I_bitCount) s9 m9 ag9 bl9 mt9 c9 1 0 0 (MQ bl9 (CQ w zN (some (.int (bC x))) M) ag9 s9 0 0 (fun q : Nat => w.2.2 ≤ q)) w zN M 0 [(0, .int x)] []
  refine x_iload_n (pc := 0) K 0 d_I_bitCount_0 rfl ?_
  refine x_iload_n (pc := 1) K 0 d_I_bitCount_1 rfl ?_
  refine x_iconst (pc := 2) K (v := 1) d_I_bitCount_2 (by decide) ?_
  refine x_iushr (pc := 3) K (v := (x.toUInt32 >>> ((1 : Int32).toUInt32 &&& Int32.toUInt32 31)).toInt32) d_I_bitCount_3 rfl ?_
  refine x_ldcw (pc := 4) K (v := 1431655765) d_I_bitCount_4 (zmem cn_I_265) ?_
  refine x_iand (pc := 7) K d_I_bitCount_7 ?_
  refine x_isub (pc := 8) K d_I_bitCount_8 ?_
  refine x_eqi (y := bC1 x) (rfl) ?_
  refine x_istore_n (pc := 9) K (lv' := [(0, .int (bC1 x))]) d_I_bitCount_9 (by decide) rfl ?_
  refine x_iload_n (pc := 10) K 0 d_I_bitCount_10 rfl ?_
  refine x_ldcw (pc := 11) K (v := 858993459) d_I_bitCount_11 (zmem cn_I_266) ?_
  refine x_iand (pc := 14) K d_I_bitCount_14 ?_
  refine x_iload_n (pc := 15) K 0 d_I_bitCount_15 rfl ?_
  refine x_iconst (pc := 16) K (v := 2) d_I_bitCount_16 (by decide) ?_
  refine x_iushr (pc := 17) K (v := ((bC1 x).toUInt32 >>> ((2 : Int32).toUInt32 &&& Int32.toUInt32 31)).toInt32) d_I_bitCount_17 rfl ?_
  refine x_ldcw (pc := 18) K (v := 858993459) d_I_bitCount_18 (zmem cn_I_266) ?_
  refine x_iand (pc := 21) K d_I_bitCount_21 ?_
  refine x_iadd (pc := 22) K d_I_bitCount_22 ?_
  refine x_eqi (y := bC2 (bC1 x)) (rfl) ?_
  refine x_istore_n (pc := 23) K (lv' := [(0, .int (bC2 (bC1 x)))]) d_I_bitCount_23 (by decide) rfl ?_
  refine x_iload_n (pc := 24) K 0 d_I_bitCount_24 rfl ?_
  refine x_iload_n (pc := 25) K 0 d_I_bitCount_25 rfl ?_
  refine x_iconst (pc := 26) K (v := 4) d_I_bitCount_26 (by decide) ?_
  refine x_iushr (pc := 27) K (v := ((bC2 (bC1 x)).toUInt32 >>> ((4 : Int32).toUInt32 &&& Int32.toUInt32 31)).toInt32) d_I_bitCount_27 rfl ?_
  refine x_iadd (pc := 28) K d_I_bitCount_28 ?_
  refine x_ldcw (pc := 29) K (v := 252645135) d_I_bitCount_29 (zmem cn_I_267) ?_
  refine x_iand (pc := 32) K d_I_bitCount_32 ?_
  refine x_eqi (y := bC3 (bC2 (bC1 x))) (rfl) ?_
  refine x_istore_n (pc := 33) K (lv' := [(0, .int (bC3 (bC2 (bC1 x))))]) d_I_bitCount_33 (by decide) rfl ?_
  refine x_iload_n (pc := 34) K 0 d_I_bitCount_34 rfl ?_
  refine x_iload_n (pc := 35) K 0 d_I_bitCount_35 rfl ?_
  refine x_bipush (pc := 36) K (v := 8) d_I_bitCount_36 (by decide) ?_
  refine x_iushr (pc := 38) K (v := ((bC3 (bC2 (bC1 x))).toUInt32 >>> ((8 : Int32).toUInt32 &&& Int32.toUInt32 31)).toInt32) d_I_bitCount_38 rfl ?_
  refine x_iadd (pc := 39) K d_I_bitCount_39 ?_
  refine x_eqi (y := bC4 (bC3 (bC2 (bC1 x)))) (rfl) ?_
  refine x_istore_n (pc := 40) K (lv' := [(0, .int (bC4 (bC3 (bC2 (bC1 x)))))]) d_I_bitCount_40 (by decide) rfl ?_
  refine x_iload_n (pc := 41) K 0 d_I_bitCount_41 rfl ?_
  refine x_iload_n (pc := 42) K 0 d_I_bitCount_42 rfl ?_
  refine x_bipush (pc := 43) K (v := 16) d_I_bitCount_43 (by decide) ?_
  refine x_iushr (pc := 45) K (v := ((bC4 (bC3 (bC2 (bC1 x)))).toUInt32 >>> ((16 : Int32).toUInt32 &&& Int32.toUInt32 31)).toInt32) d_I_bitCount_45 rfl ?_
  refine x_iadd (pc := 46) K d_I_bitCount_46 ?_
  refine x_eqi (y := bC5 (bC4 (bC3 (bC2 (bC1 x))))) (rfl) ?_
  refine x_istore_n (pc := 47) K (lv' := [(0, .int (bC5 (bC4 (bC3 (bC2 (bC1 x))))))]) d_I_bitCount_47 (by decide) rfl ?_
  refine x_iload_n (pc := 48) K 0 d_I_bitCount_48 rfl ?_
  refine x_bipush (pc := 49) K (v := 63) d_I_bitCount_49 (by decide) ?_
  refine x_iand (pc := 51) K d_I_bitCount_51 ?_
  exact x_iret (pc := 52) K (rfl) (rfl) d_I_bitCount_52
def scl (μ : Nat → Nat → Int32) : Nat → Nat → Int32 → Int32
  | _, 0, a => a
  | i, k + 1, a => scl μ (i + 1) k (a + bC (μ 277 i))
set_option maxHeartbeats 4000000 in
set_option maxRecDepth 100000 in
theorem lp_J_suppressionCount (l : Launch) (w : fl_W) (M : fl_M) (o : Nat) (hR : zRf o M.2) (F : Int32) {p9 : Program} {e9 : Env} {s9 : State} {m9 : MethodId} {ag9 : Array Value} {bl9 : List Frame} {mt9 : Method} {c9 : Code} (K : XC p9 s9 m9 ag9 mt9 c9 b_J_suppressionCount 3 (some .int) w_J_suppressionCount "CompatibilityJudge" w) : ∀ (k : Nat) (i : Nat) (a : Int32), i ≤ 14 → 14 + 1 ≤ i + k → scl M.1 i (14 - i) a = F → XW p9 l e9 (rm_J_suppressionCount) s9 m9 ag9 bl9 mt9 c9 3 0 0 (MQ bl9 (CQ w zN (some (.int F)) M) ag9 s9 0 0 (fun q : Nat => w.2.2 ≤ q)) w zN M 4 [(2, .int (nI i)), (1, .int a), (0, .ref (w.2.2 + 0))] [] := by
  intro k
  induction k with
  | zero =>
    intro i a hi hk
    exact absurd hk (by omega)
  | succ k ih =>
    intro i a hi hk hf
    refine x_iload_n (pc := 4) K 0 d_J_suppressionCount_4 rfl ?_
    refine x_bipush (pc := 5) K (v := nI 14) d_J_suppressionCount_5 (by decide) ?_
    refine x_icmp_ge (pc := 7) K (tgt := 28) d_J_suppressionCount_7 (by decide) (fun c7 => ?_) (fun c7 => ?_)
    · skip
      have hic : i = 14 := by have := (nI_leI (a := 14) (by omega) (by omega)).mp c7; omega
      rw [hic, Nat.sub_self] at hf
      refine x_iload_n (pc := 28) K 1 d_J_suppressionCount_28 rfl ?_
      exact x_iret (pc := 29) K (by subst hf; rfl) (rfl) d_J_suppressionCount_29
    · skip
      have hic : i < 14 := Nat.not_le.mp (fun q => c7 (nI_le (a := 14) q (by omega)))
      rw [show 14 - i = (14 - (i + 1)) + 1 by omega, scl] at hf
      refine x_iload_n (pc := 10) K 1 d_J_suppressionCount_10 rfl ?_
      refine x_aload_n (pc := 11) K 2 d_J_suppressionCount_11 rfl ?_
      refine x_getr (pc := 12) K (n := 0) (n' := 277) (k := 2) (zlt shJ) shJ rfl hR.Js rfl (by decide) (fun _ q => zmem (uw_J _ q)) (zmem lk_J_23) d_J_suppressionCount_12 ?_
      refine x_iload_n (pc := 15) K 0 d_J_suppressionCount_15 rfl ?_
      refine x_iald (pc := 16) K (n := 277) (j := i) rfl (by omega) (zlt shS) shS rfl (by decide) d_J_suppressionCount_16 ?_
      refine x_callS (pc := 17) K (As := [.int (M.1 277 i)]) (rest := [.int a]) (c_I_bitCount l w M (M.1 277 i)) (zcwS K.ts lk_J_164 sm_I_bitCount ii_I co_I_bitCount pd_I_bitCount ⟨rfl, rfl⟩ ⟨by decide, by decide⟩) rfl rfl (Nat.le_of_ble_eq_true rfl) ⟨Nat.zero_le _, Nat.zero_le _⟩ d_J_suppressionCount_17 ?_
      refine x_iadd (pc := 20) K d_J_suppressionCount_20 ?_
      refine x_istore_n (pc := 21) K (lv' := [(1, .int (a + (bC (M.1 277 i)))), (2, .int (nI i)), (0, .ref (w.2.2 + 0))]) d_J_suppressionCount_21 (by decide) rfl ?_
      refine x_iinc (pc := 22) K (v := nI (i + 1)) (lv' := [(2, .int (nI (i + 1))), (1, .int (a + (bC (M.1 277 i)))), (0, .ref (w.2.2 + 0))]) 1 d_J_suppressionCount_22 rfl (nI_1 _) (by decide) rfl ?_
      refine x_goto (pc := 25) K (tgt := 4) d_J_suppressionCount_25 (by decide) ?_
      refine x_lv [0, 1, 2] rfl ?_
      exact ih (i + 1) _ (by omega) (by omega) hf
set_option maxHeartbeats 4000000 in
set_option maxRecDepth 100000 in
theorem c_J_suppressionCount (l : Launch) (w : fl_W) (M : fl_M) (o : Nat) (hR : zRf o M.2)  : CT l y_J_suppressionCount w_J_suppressionCount rm_J_suppressionCount w zN [.ref (w.2.2 + 0)] M (some (.int (scl M.1 0 14 0))) M := by
  refine CT.of (cc := b_J_suppressionCount) (own := "CompatibilityJudge") (by decide) rfl rfl (Nat.le_of_ble_eq_true rfl) ?_
  intro p9 e9 s9 m9 ag9 bl9 mt9 c9 K
  show XW p9 l e9 (rm_J_suppressionCount) s9 m9 ag9 bl9 mt9 c9 3 0 0 (MQ bl9 (CQ w zN (some (.int (scl M.1 0 14 0))) M) ag9 s9 0 0 (fun q : Nat => w.2.2 ≤ q)) w zN M 0 [(0, .ref (w.2.2 + 0))] []
  refine x_iconst (pc := 0) K (v := 0) d_J_suppressionCount_0 (by decide) ?_
  refine x_istore_n (pc := 1) K (lv' := [(1, .int 0), (0, .ref (w.2.2 + 0))]) d_J_suppressionCount_1 (by decide) rfl ?_
  refine x_iconst (pc := 2) K (v := nI 0) d_J_suppressionCount_2 (by decide) ?_
  refine x_istore_n (pc := 3) K (lv' := [(2, .int (nI 0)), (1, .int 0), (0, .ref (w.2.2 + 0))]) d_J_suppressionCount_3 (by decide) rfl ?_
  exact lp_J_suppressionCount l w M o hR _ K 15 0 0 (by omega) (by omega) rfl
theorem sw5 (x : Int32) : x = nI 0 ∨ x = nI 1 ∨ x = nI 2 ∨ x = nI 3 ∨ x = nI 4 ∨ (x.toInt < 0 ∨ 4 < x.toInt) := by
  rcases pk_ix x (n := 5) (by omega) with h | h | ⟨j, hj, rfl⟩
  · exact Or.inr (Or.inr (Or.inr (Or.inr (Or.inr (Or.inl (by rw [Int32.lt_iff_toInt_lt] at h; simpa using h))))))
  · refine Or.inr (Or.inr (Or.inr (Or.inr (Or.inr (Or.inr ?_)))))
    rw [Int32.le_iff_toInt_le, nI_toInt (by omega)] at h
    omega
  · rcases (show j = 0 ∨ j = 1 ∨ j = 2 ∨ j = 3 ∨ j = 4 by omega) with rfl | rfl | rfl | rfl | rfl <;> simp
theorem sw5_0 {x : Int32} (h : x.toInt < 0 ∨ 4 < x.toInt) {j : Nat} (hj : j ≤ 4) : ¬ x = nI j := by
  intro q
  rw [q, nI_toInt (by omega)] at h
  omega
set_option maxHeartbeats 4000000 in
set_option maxRecDepth 100000 in
theorem c_J_count (l : Launch) (w : fl_W) (M : fl_M) (o : Nat) (hR : zRf o M.2) (x : Int32) : CT l y_J_count w_J_count rm_J_count w zN [.ref (w.2.2 + 0), .int x] M (some (.int (if x = nI 0 then tct M.1 (zb o 0) 0 12 0 else if x = nI 1 then tct M.1 (zb o 1) 0 12 0 else if x = nI 2 then mct M.1 (zb o 0) 0 12 0 else if x = nI 3 then mct M.1 (zb o 1) 0 12 0 else if x = nI 4 then scl M.1 0 14 0 else -1))) M := by
  refine CT.of (cc := b_J_count) (own := "CompatibilityJudge") (by decide) rfl rfl (Nat.le_of_ble_eq_true rfl) ?_
  intro p9 e9 s9 m9 ag9 bl9 mt9 c9 K
  show XW p9 l e9 (rm_J_count) s9 m9 ag9 bl9 mt9 c9 2 0 0 (MQ bl9 (CQ w zN (some (.int (if x = nI 0 then tct M.1 (zb o 0) 0 12 0 else if x = nI 1 then tct M.1 (zb o 1) 0 12 0 else if x = nI 2 then mct M.1 (zb o 0) 0 12 0 else if x = nI 3 then mct M.1 (zb o 1) 0 12 0 else if x = nI 4 then scl M.1 0 14 0 else -1))) M) ag9 s9 0 0 (fun q : Nat => w.2.2 ≤ q)) w zN M 0 [(0, .ref (w.2.2 + 0)), (1, .int x)] []
  refine x_iload_n (pc := 0) K 1 d_J_count_0 rfl ?_
  rcases sw5 x with h1 | h1 | h1 | h1 | h1 | h1
  · skip
    refine x_tableIn (pc := 1) K (tgt := 36) d_J_count_1 (by rw [h1]; decide) (by rw [h1]; decide) (off := 35) (by rw [h1]; decide) (by decide) ?_
    refine x_aload_n (pc := 36) K 0 d_J_count_36 rfl ?_
    refine x_getr (pc := 37) K (n := 0) (n' := 1) (k := 0) (zlt shJ) shJ rfl hR.Ja rfl (by decide) (fun _ q => zmem (uw_J _ q)) (zmem lk_J_12) d_J_count_37 ?_
    refine x_iconst (pc := 40) K (v := 0) d_J_count_40 (by decide) ?_
    refine x_aald (pc := 41) K (n := 1) (n' := zb o 0) (j := 0) (by decide) (by decide) (hR.Jb (by decide)) (zlt shA) shA rfl (by decide) d_J_count_41 ?_
    refine x_callV (pc := 42) K (As := []) (rest := []) (c_B_typeCount l w M (zb o 0) (hR.shb (by decide)) o hR) (zcwV K.ts lk_J_118 im_B_typeCount se_B_typeCount ii_B co_B_typeCount pd_B_typeCount ⟨rfl, rfl⟩ ⟨by decide, by decide⟩) (zlt (hR.shb (by decide))) (hR.shb (by decide)) rfl rfl rfl (Nat.le_of_ble_eq_true rfl) ⟨Nat.zero_le _, Nat.zero_le _⟩ d_J_count_42 ?_
    exact x_iret (pc := 45) K (by rw [if_pos h1]) (rfl) d_J_count_45
  · skip
    refine x_tableIn (pc := 1) K (tgt := 46) d_J_count_1 (by rw [h1]; decide) (by rw [h1]; decide) (off := 45) (by rw [h1]; decide) (by decide) ?_
    refine x_aload_n (pc := 46) K 0 d_J_count_46 rfl ?_
    refine x_getr (pc := 47) K (n := 0) (n' := 1) (k := 0) (zlt shJ) shJ rfl hR.Ja rfl (by decide) (fun _ q => zmem (uw_J _ q)) (zmem lk_J_12) d_J_count_47 ?_
    refine x_iconst (pc := 50) K (v := 1) d_J_count_50 (by decide) ?_
    refine x_aald (pc := 51) K (n := 1) (n' := zb o 1) (j := 1) (by decide) (by decide) (hR.Jb (by decide)) (zlt shA) shA rfl (by decide) d_J_count_51 ?_
    refine x_callV (pc := 52) K (As := []) (rest := []) (c_B_typeCount l w M (zb o 1) (hR.shb (by decide)) o hR) (zcwV K.ts lk_J_118 im_B_typeCount se_B_typeCount ii_B co_B_typeCount pd_B_typeCount ⟨rfl, rfl⟩ ⟨by decide, by decide⟩) (zlt (hR.shb (by decide))) (hR.shb (by decide)) rfl rfl rfl (Nat.le_of_ble_eq_true rfl) ⟨Nat.zero_le _, Nat.zero_le _⟩ d_J_count_52 ?_
    exact x_iret (pc := 55) K (by rw [if_neg (by rw [h1]; decide), if_pos h1]) (rfl) d_J_count_55
  · skip
    refine x_tableIn (pc := 1) K (tgt := 56) d_J_count_1 (by rw [h1]; decide) (by rw [h1]; decide) (off := 55) (by rw [h1]; decide) (by decide) ?_
    refine x_aload_n (pc := 56) K 0 d_J_count_56 rfl ?_
    refine x_getr (pc := 57) K (n := 0) (n' := 1) (k := 0) (zlt shJ) shJ rfl hR.Ja rfl (by decide) (fun _ q => zmem (uw_J _ q)) (zmem lk_J_12) d_J_count_57 ?_
    refine x_iconst (pc := 60) K (v := 0) d_J_count_60 (by decide) ?_
    refine x_aald (pc := 61) K (n := 1) (n' := zb o 0) (j := 0) (by decide) (by decide) (hR.Jb (by decide)) (zlt shA) shA rfl (by decide) d_J_count_61 ?_
    refine x_callV (pc := 62) K (As := []) (rest := []) (c_B_memberCount l w M (zb o 0) (hR.shb (by decide)) o hR) (zcwV K.ts lk_J_156 im_B_memberCount se_B_memberCount ii_B co_B_memberCount pd_B_memberCount ⟨rfl, rfl⟩ ⟨by decide, by decide⟩) (zlt (hR.shb (by decide))) (hR.shb (by decide)) rfl rfl rfl (Nat.le_of_ble_eq_true rfl) ⟨Nat.zero_le _, Nat.zero_le _⟩ d_J_count_62 ?_
    exact x_iret (pc := 65) K (by rw [if_neg (by rw [h1]; decide), if_neg (by rw [h1]; decide), if_pos h1]) (rfl) d_J_count_65
  · skip
    refine x_tableIn (pc := 1) K (tgt := 66) d_J_count_1 (by rw [h1]; decide) (by rw [h1]; decide) (off := 65) (by rw [h1]; decide) (by decide) ?_
    refine x_aload_n (pc := 66) K 0 d_J_count_66 rfl ?_
    refine x_getr (pc := 67) K (n := 0) (n' := 1) (k := 0) (zlt shJ) shJ rfl hR.Ja rfl (by decide) (fun _ q => zmem (uw_J _ q)) (zmem lk_J_12) d_J_count_67 ?_
    refine x_iconst (pc := 70) K (v := 1) d_J_count_70 (by decide) ?_
    refine x_aald (pc := 71) K (n := 1) (n' := zb o 1) (j := 1) (by decide) (by decide) (hR.Jb (by decide)) (zlt shA) shA rfl (by decide) d_J_count_71 ?_
    refine x_callV (pc := 72) K (As := []) (rest := []) (c_B_memberCount l w M (zb o 1) (hR.shb (by decide)) o hR) (zcwV K.ts lk_J_156 im_B_memberCount se_B_memberCount ii_B co_B_memberCount pd_B_memberCount ⟨rfl, rfl⟩ ⟨by decide, by decide⟩) (zlt (hR.shb (by decide))) (hR.shb (by decide)) rfl rfl rfl (Nat.le_of_ble_eq_true rfl) ⟨Nat.zero_le _, Nat.zero_le _⟩ d_J_count_72 ?_
    exact x_iret (pc := 75) K (by rw [if_neg (by rw [h1]; decide), if_neg (by rw [h1]; decide), if_neg (by rw [h1]; decide), if_pos h1]) (rfl) d_J_count_75
  · skip
    refine x_tableIn (pc := 1) K (tgt := 76) d_J_count_1 (by rw [h1]; decide) (by rw [h1]; decide) (off := 75) (by rw [h1]; decide) (by decide) ?_
    refine x_aload_n (pc := 76) K 0 d_J_count_76 rfl ?_
    refine x_callV (pc := 77) K (As := []) (rest := []) (c_J_suppressionCount l w M o hR) (zcwV K.ts lk_J_158 im_J_suppressionCount se_J_suppressionCount ii_J co_J_suppressionCount pd_J_suppressionCount ⟨rfl, rfl⟩ ⟨by decide, by decide⟩) (zlt shJ) shJ rfl rfl rfl (Nat.le_of_ble_eq_true rfl) ⟨Nat.zero_le _, Nat.zero_le _⟩ d_J_count_77 ?_
    exact x_iret (pc := 80) K (by rw [if_neg (by rw [h1]; decide), if_neg (by rw [h1]; decide), if_neg (by rw [h1]; decide), if_neg (by rw [h1]; decide), if_pos h1]) (rfl) d_J_count_80
  · skip
    refine x_tableOut (pc := 1) K (tgt := 81) d_J_count_1 h1 (by decide) ?_
    refine x_iconst (pc := 81) K (v := (-1)) d_J_count_81 (by decide) ?_
    exact x_iret (pc := 82) K (by rw [if_neg (sw5_0 h1 (j := 0) (by decide)), if_neg (sw5_0 h1 (j := 1) (by decide)), if_neg (sw5_0 h1 (j := 2) (by decide)), if_neg (sw5_0 h1 (j := 3) (by decide)), if_neg (sw5_0 h1 (j := 4) (by decide))]) (rfl) d_J_count_82
