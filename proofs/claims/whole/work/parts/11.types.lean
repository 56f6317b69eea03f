/-- the first index that has p, of k from i on -/
def fnd (p : Nat → Prop) [DecidablePred p] : Nat → Nat → Option Nat
  | _, 0 => none
  | i, k + 1 => if p i then some i else fnd p (i + 1) k
abbrev cI (μ : Nat → Nat → Int32) (n : Nat) : Nat := ix (μ n 5)
abbrev cM (μ : Nat → Nat → Int32) (n : Nat) : Nat := ix (μ n 7)
/-- a type's two counts -/
def tOk (μ : Nat → Nat → Int32) (n : Nat) : Prop := (μ n 5 = nI (cI μ n) ∧ cI μ n ≤ 3) ∧ (μ n 7 = nI (cM μ n) ∧ cM μ n ≤ 8)
set_option maxHeartbeats 4000000 in
set_option maxRecDepth 100000 in
theorem lp_T_names (l : Launch) (w : fl_W) (M : fl_M) (n : Nat) (hT : zSh n = zsT) (o : Nat) (hR : zRf o M.2) (hok : tOk M.1 n) (a : Int32) (F : Option Nat) {p9 : Program} {e9 : Env} {s9 : State} {m9 : MethodId} {ag9 : Array Value} {bl9 : List Frame} {mt9 : Method} {c9 : Code} (K : XC p9 s9 m9 ag9 mt9 c9 b_T_names 3 (some .boolean) w_T_names "CompatibilityJudge$Type" w) : ∀ (k : Nat) (i : Nat), i ≤ cI M.1 n → cI M.1 n + 1 ≤ i + k → fnd (fun i => M.1 (n + 1) i = a) i (cI M.1 n - i) = F → XW p9 l e9 (rm_T_names) s9 m9 ag9 bl9 mt9 c9 3 0 0 (MQ bl9 (CQ w zN (some (.int (bI (¬ F = none)))) M) ag9 s9 0 0 (fun q : Nat => w.2.2 ≤ q)) w zN M 2 [(2, .int (nI i)), (0, .ref (w.2.2 + n)), (1, .int a)] [] := by
  have h3 := hok.1.2
  have h8 := hok.2.2
  intro k
  induction k with
  | zero =>
    intro i hi hk
    exact absurd hk (by omega)
  | succ k ih =>
    intro i hi hk hf
    refine x_iload_n (pc := 2) K 0 d_T_names_2 rfl ?_
    refine x_aload_n (pc := 3) K 1 d_T_names_3 rfl ?_
    refine x_geti (pc := 4) K (n := n) (k := 5) (zlt hT) hT rfl rfl (by decide) (fun _ q => zmem (uw_T _ q)) (zmem lk_T_39) d_T_names_4 ?_
    refine x_eqi (y := nI (cI M.1 n)) (hok.1.1) ?_
    refine x_icmp_ge (pc := 7) K (tgt := 28) d_T_names_7 (by decide) (fun c7 => ?_) (fun c7 => ?_)
    · skip
      have hic : i = cI M.1 n := by have := (nI_leI (by omega) (by omega)).mp c7; omega
      rw [hic, Nat.sub_self] at hf
      refine x_iconst (pc := 28) K (v := 0) d_T_names_28 (by decide) ?_
      exact x_zret (pc := 29) K (rF (by simp [← hf, fnd])) rfl rfl d_T_names_29
    · skip
      have hic : i < cI M.1 n := Nat.not_le.mp (fun q => c7 (nI_le q (by omega)))
      rw [show cI M.1 n - i = (cI M.1 n - (i + 1)) + 1 by omega, fnd] at hf
      refine x_aload_n (pc := 10) K 1 d_T_names_10 rfl ?_
      refine x_getr (pc := 11) K (n := n) (n' := n + 1) (k := 4) (zlt hT) hT rfl (hR.Ti hT) rfl (by decide) (fun _ q => zmem (uw_T _ q)) (zmem lk_T_9) d_T_names_11 ?_
      refine x_iload_n (pc := 14) K 0 d_T_names_14 rfl ?_
      refine x_iald (pc := 15) K (n := n + 1) (j := i) rfl (by omega) (zlt (shTi hT)) (shTi hT) rfl (by decide) d_T_names_15 ?_
      refine x_iload_n (pc := 16) K 2 d_T_names_16 rfl ?_
      refine x_icmp_ne (pc := 17) K (tgt := 22) d_T_names_17 (by decide) (fun c17 => ?_) (fun c17 => ?_)
      · skip
        rw [if_neg c17] at hf
        refine x_iinc (pc := 22) K (v := nI (i + 1)) (lv' := [(2, .int (nI (i + 1))), (0, .ref (w.2.2 + n)), (1, .int a)]) 0 d_T_names_22 rfl (nI_1 _) (by decide) rfl ?_
        refine x_goto (pc := 25) K (tgt := 2) d_T_names_25 (by decide) ?_
        exact ih (i + 1) (by omega) (by omega) hf
      · skip
        rw [if_pos c17] at hf
        refine x_iconst (pc := 20) K (v := 1) d_T_names_20 (by decide) ?_
        exact x_zret (pc := 21) K (rT (by simp [← hf, fnd])) rfl rfl d_T_names_21
abbrev tNm (μ : Nat → Nat → Int32) (n : Nat) (a : Int32) : Option Nat := fnd (fun i => μ (n + 1) i = a) 0 (cI μ n)
set_option maxHeartbeats 4000000 in
set_option maxRecDepth 100000 in
theorem c_T_names (l : Launch) (w : fl_W) (M : fl_M) (n : Nat) (hT : zSh n = zsT) (o : Nat) (hR : zRf o M.2) (hok : tOk M.1 n) (a : Int32) : CT l y_T_names w_T_names rm_T_names w zN [.ref (w.2.2 + n), .int a] M (some (.int (bI (¬ tNm M.1 n a = none)))) M := by
  refine CT.of (cc := b_T_names) (own := "CompatibilityJudge$Type") (by decide) rfl rfl (Nat.le_of_ble_eq_true rfl) ?_
  intro p9 e9 s9 m9 ag9 bl9 mt9 c9 K
  show XW p9 l e9 (rm_T_names) s9 m9 ag9 bl9 mt9 c9 3 0 0 (MQ bl9 (CQ w zN (some (.int (bI (¬ tNm M.1 n a = none)))) M) ag9 s9 0 0 (fun q : Nat => w.2.2 ≤ q)) w zN M 0 [(0, .ref (w.2.2 + n)), (1, .int a)] []
  refine x_iconst (pc := 0) K (v := nI 0) d_T_names_0 (by decide) ?_
  refine x_istore_n (pc := 1) K (lv' := [(2, .int (nI 0)), (0, .ref (w.2.2 + n)), (1, .int a)]) d_T_names_1 (by decide) rfl ?_
  exact lp_T_names l w M n hT o hR hok a _ K (cI M.1 n + 1) 0 (Nat.zero_le _) (by omega) (by rw [Nat.sub_zero])
def rfM (w : fl_W) (n : Nat) (F : Option Nat) : Value := va_rf (F.map (fun i => w.2.2 + (n + 3 + i)))
set_option maxHeartbeats 4000000 in
set_option maxRecDepth 100000 in
theorem lp_T_own (l : Launch) (w : fl_W) (M : fl_M) (n : Nat) (hT : zSh n = zsT) (o : Nat) (hR : zRf o M.2) (hok : tOk M.1 n) (a b : Int32) (F : Option Nat) {p9 : Program} {e9 : Env} {s9 : State} {m9 : MethodId} {ag9 : Array Value} {bl9 : List Frame} {mt9 : Method} {c9 : Code} (K : XC p9 s9 m9 ag9 mt9 c9 b_T_own 4 (some (.object "CompatibilityJudge$Member")) w_T_own "CompatibilityJudge$Type" w) : ∀ (k : Nat) (i : Nat), i ≤ cM M.1 n → cM M.1 n + 1 ≤ i + k → fnd (fun i => M.1 (n + 3 + i) 0 = a ∧ M.1 (n + 3 + i) 1 = b) i (cM M.1 n - i) = F → XW p9 l e9 (rm_T_own) s9 m9 ag9 bl9 mt9 c9 4 0 0 (MQ bl9 (CQ w zN (some (rfM w n F)) M) ag9 s9 0 0 (fun q : Nat => w.2.2 ≤ q)) w zN M 2 [(3, .int (nI i)), (0, .ref (w.2.2 + n)), (1, .int a), (2, .int b)] [] := by
  have h3 := hok.1.2
  have h8 := hok.2.2
  intro k
  induction k with
  | zero =>
    intro i hi hk
    exact absurd hk (by omega)
  | succ k ih =>
    intro i hi hk hf
    refine x_iload_n (pc := 2) K 0 d_T_own_2 rfl ?_
    refine x_aload_n (pc := 3) K 1 d_T_own_3 rfl ?_
    refine x_geti (pc := 4) K (n := n) (k := 7) (zlt hT) hT rfl rfl (by decide) (fun _ q => zmem (uw_T _ q)) (zmem lk_T_42) d_T_own_4 ?_
    refine x_eqi (y := nI (cM M.1 n)) (hok.2.1) ?_
    refine x_icmp_ge (pc := 7) K (tgt := 49) d_T_own_7 (by decide) (fun c7 => ?_) (fun c7 => ?_)
    · skip
      have hic : i = cM M.1 n := by have := (nI_leI (by omega) (by omega)).mp c7; omega
      rw [hic, Nat.sub_self] at hf
      refine x_null (pc := 49) K d_T_own_49 ?_
      exact x_aretN (pc := 50) K (by rw [← hf]; rfl) rfl d_T_own_50
    · skip
      have hic : i < cM M.1 n := Nat.not_le.mp (fun q => c7 (nI_le q (by omega)))
      rw [show cM M.1 n - i = (cM M.1 n - (i + 1)) + 1 by omega, fnd] at hf
      refine x_aload_n (pc := 10) K 1 d_T_own_10 rfl ?_
      refine x_getr (pc := 11) K (n := n) (n' := n + 2) (k := 6) (zlt hT) hT rfl (hR.Ta hT) rfl (by decide) (fun _ q => zmem (uw_T _ q)) (zmem lk_T_17) d_T_own_11 ?_
      refine x_iload_n (pc := 14) K 0 d_T_own_14 rfl ?_
      refine x_aald (pc := 15) K (n := n + 2) (n' := n + 3 + i) (j := i) rfl (by omega) (hR.Tm hT (by omega)) (zlt (shTa hT)) (shTa hT) rfl (by decide) d_T_own_15 ?_
      refine x_geti (pc := 16) K (n := n + 3 + i) (k := 0) (zlt (shTm hT (by omega))) (shTm hT (by omega)) rfl rfl (by decide) (fun _ q => zmem (uw_M _ q)) (zmem lk_T_66) d_T_own_16 ?_
      refine x_iload_n (pc := 19) K 2 d_T_own_19 rfl ?_
      refine x_icmp_ne (pc := 20) K (tgt := 43) d_T_own_20 (by decide) (fun c20 => ?_) (fun c20 => ?_)
      · skip
        rw [if_neg (fun q => c20 q.1)] at hf
        refine x_iinc (pc := 43) K (v := nI (i + 1)) (lv' := [(3, .int (nI (i + 1))), (0, .ref (w.2.2 + n)), (1, .int a), (2, .int b)]) 0 d_T_own_43 rfl (nI_1 _) (by decide) rfl ?_
        refine x_goto (pc := 46) K (tgt := 2) d_T_own_46 (by decide) ?_
        exact ih (i + 1) (by omega) (by omega) hf
      · skip
        refine x_aload_n (pc := 23) K 1 d_T_own_23 rfl ?_
        refine x_getr (pc := 24) K (n := n) (n' := n + 2) (k := 6) (zlt hT) hT rfl (hR.Ta hT) rfl (by decide) (fun _ q => zmem (uw_T _ q)) (zmem lk_T_17) d_T_own_24 ?_
        refine x_iload_n (pc := 27) K 0 d_T_own_27 rfl ?_
        refine x_aald (pc := 28) K (n := n + 2) (n' := n + 3 + i) (j := i) rfl (by omega) (hR.Tm hT (by omega)) (zlt (shTa hT)) (shTa hT) rfl (by decide) d_T_own_28 ?_
        refine x_geti (pc := 29) K (n := n + 3 + i) (k := 1) (zlt (shTm hT (by omega))) (shTm hT (by omega)) rfl rfl (by decide) (fun _ q => zmem (uw_M _ q)) (zmem lk_T_67) d_T_own_29 ?_
        refine x_iload_n (pc := 32) K 3 d_T_own_32 rfl ?_
        refine x_icmp_ne (pc := 33) K (tgt := 43) d_T_own_33 (by decide) (fun c33 => ?_) (fun c33 => ?_)
        · skip
          rw [if_neg (fun q => c33 q.2)] at hf
          refine x_iinc (pc := 43) K (v := nI (i + 1)) (lv' := [(3, .int (nI (i + 1))), (0, .ref (w.2.2 + n)), (1, .int a), (2, .int b)]) 0 d_T_own_43 rfl (nI_1 _) (by decide) rfl ?_
          refine x_goto (pc := 46) K (tgt := 2) d_T_own_46 (by decide) ?_
          exact ih (i + 1) (by omega) (by omega) hf
        · skip
          rw [if_pos ⟨c20, c33⟩] at hf
          refine x_aload_n (pc := 36) K 1 d_T_own_36 rfl ?_
          refine x_getr (pc := 37) K (n := n) (n' := n + 2) (k := 6) (zlt hT) hT rfl (hR.Ta hT) rfl (by decide) (fun _ q => zmem (uw_T _ q)) (zmem lk_T_17) d_T_own_37 ?_
          refine x_iload_n (pc := 40) K 0 d_T_own_40 rfl ?_
          refine x_aald (pc := 41) K (n := n + 2) (n' := n + 3 + i) (j := i) rfl (by omega) (hR.Tm hT (by omega)) (zlt (shTa hT)) (shTa hT) rfl (by decide) d_T_own_41 ?_
          exact x_aret (pc := 42) K (by rw [← hf]; rfl) rfl d_T_own_42
abbrev tOwn (μ : Nat → Nat → Int32) (n : Nat) (a b : Int32) : Option Nat := fnd (fun i => μ (n + 3 + i) 0 = a ∧ μ (n + 3 + i) 1 = b) 0 (cM μ n)
set_option maxHeartbeats 4000000 in
set_option maxRecDepth 100000 in
theorem c_T_own (l : Launch) (w : fl_W) (M : fl_M) (n : Nat) (hT : zSh n = zsT) (o : Nat) (hR : zRf o M.2) (hok : tOk M.1 n) (a b : Int32) : CT l y_T_own w_T_own rm_T_own w zN [.ref (w.2.2 + n), .int a, .int b] M (some (rfM w n (tOwn M.1 n a b))) M := by
  refine CT.of (cc := b_T_own) (own := "CompatibilityJudge$Type") (by decide) rfl rfl (Nat.le_of_ble_eq_true rfl) ?_
  intro p9 e9 s9 m9 ag9 bl9 mt9 c9 K
  show XW p9 l e9 (rm_T_own) s9 m9 ag9 bl9 mt9 c9 4 0 0 (MQ bl9 (CQ w zN (some (rfM w n (tOwn M.1 n a b))) M) ag9 s9 0 0 (fun q : Nat => w.2.2 ≤ q)) w zN M 0 [(0, .ref (w.2.2 + n)), (1, .int a), (2, .int b)] []
  refine x_iconst (pc := 0) K (v := nI 0) d_T_own_0 (by decide) ?_
  refine x_istore_n (pc := 1) K (lv' := [(3, .int (nI 0)), (0, .ref (w.2.2 + n)), (1, .int a), (2, .int b)]) d_T_own_1 (by decide) rfl ?_
  exact lp_T_own l w M n hT o hR hok a b _ K (cM M.1 n + 1) 0 (Nat.zero_le _) (by omega) (by rw [Nat.sub_zero])
abbrev tAdI (M : fl_M) (n : Nat) (a : Int32) : fl_M := if cI M.1 n < 3 then wI (wI M (n + 1) (cI M.1 n) a) n 5 (nI (cI M.1 n + 1)) else M
set_option maxHeartbeats 4000000 in
set_option maxRecDepth 100000 in
theorem c_T_addInterface (l : Launch) (w : fl_W) (M : fl_M) (n : Nat) (hT : zSh n = zsT) (o : Nat) (hR : zRf o M.2) (hok : tOk M.1 n) (a : Int32) : CT l y_T_addInterface w_T_addInterface rm_T_addInterface w zN [.ref (w.2.2 + n), .int a] M none (tAdI M n a) := by
  refine CT.of (cc := b_T_addInterface) (own := "CompatibilityJudge$Type") (by decide) rfl rfl (Nat.le_of_ble_eq_true rfl) ?_
  intro p9 e9 s9 m9 ag9 bl9 mt9 c9 K
  have h3 := hok.1.2
  have h8 := hok.2.2
  show XW p9 l e9 (rm_T_addInterface) s9 m9 ag9 bl9 mt9 c9 2 0 0 (MQ bl9 (CQ w zN none (tAdI M n a)) ag9 s9 0 0 (fun q : Nat => w.2.2 ≤ q)) w zN M 0 [(0, .ref (w.2.2 + n)), (1, .int a)] []
  refine x_aload_n (pc := 0) K 0 d_T_addInterface_0 rfl ?_
  refine x_geti (pc := 1) K (n := n) (k := 5) (zlt hT) hT rfl rfl (by decide) (fun _ q => zmem (uw_T _ q)) (zmem lk_T_39) d_T_addInterface_1 ?_
  refine x_eqi (y := nI (cI M.1 n)) (hok.1.1) ?_
  refine x_iconst (pc := 4) K (v := nI 3) d_T_addInterface_4 (by decide) ?_
  refine x_icmp_ge (pc := 5) K (tgt := 28) d_T_addInterface_5 (by decide) (fun c5 => ?_) (fun c5 => ?_)
  · skip
    have hic : ¬ cI M.1 n < 3 := fun q => absurd (show nI 3 ≤ nI (cI M.1 n) from c5) (nI_ge q (by omega))
    exact x_vret (pc := 28) K rfl ((if_neg hic).symm) d_T_addInterface_28
  · skip
    have hic : cI M.1 n < 3 := Nat.not_le.mp (fun q => c5 (show nI 3 ≤ nI (cI M.1 n) from nI_le q (by omega)))
    refine x_aload_n (pc := 8) K 0 d_T_addInterface_8 rfl ?_
    refine x_getr (pc := 9) K (n := n) (n' := n + 1) (k := 4) (zlt hT) hT rfl (hR.Ti hT) rfl (by decide) (fun _ q => zmem (uw_T _ q)) (zmem lk_T_9) d_T_addInterface_9 ?_
    refine x_aload_n (pc := 12) K 0 d_T_addInterface_12 rfl ?_
    refine x_geti (pc := 13) K (n := n) (k := 5) (zlt hT) hT rfl rfl (by decide) (fun _ q => zmem (uw_T _ q)) (zmem lk_T_39) d_T_addInterface_13 ?_
    refine x_eqi (y := nI (cI M.1 n)) (hok.1.1) ?_
    refine x_iload_n (pc := 16) K 1 d_T_addInterface_16 rfl ?_
    refine x_iast (pc := 17) K (n := n + 1) (j := (cI M.1 n)) (x := a) rfl (by omega) (zlt (shTi hT)) (shTi hT) rfl (by decide) d_T_addInterface_17 ?_
    refine x_aload_n (pc := 18) K 0 d_T_addInterface_18 rfl ?_
    refine x_dup (pc := 19) K d_T_addInterface_19 rfl ?_
    refine x_geti (pc := 20) K (n := n) (k := 5) (zlt hT) hT rfl rfl (by decide) (fun _ q => zmem (uw_T _ q)) (zmem lk_T_39) d_T_addInterface_20 ?_
    refine x_eqi (y := nI (cI M.1 n)) ((rdI_ne (Or.inl (by omega))).trans hok.1.1) ?_
    refine x_iconst (pc := 23) K (v := 1) d_T_addInterface_23 (by decide) ?_
    refine x_iadd (pc := 24) K d_T_addInterface_24 ?_
    refine x_eqi (y := nI (cI M.1 n + 1)) (nI_1 _) ?_
    refine x_puti (pc := 25) K (n := n) (k := 5) (x := nI (cI M.1 n + 1)) uY_T tk_T nm_T (zlt hT) hT rfl rfl (by decide) (fun _ q => zmem (uw_T _ q)) (zmem lk_T_39) rfl rfl rfl d_T_addInterface_25 ?_
    exact x_vret (pc := 28) K rfl ((if_pos hic).symm) d_T_addInterface_28
abbrev tAdM (M : fl_M) (n : Nat) (a b d : Int32) : fl_M := if cM M.1 n < 8 then wI (mDef M (n + 3 + cM M.1 n) a b d) n 7 (nI (cM M.1 n + 1)) else M
set_option maxHeartbeats 4000000 in
set_option maxRecDepth 100000 in
theorem c_T_addMember (l : Launch) (w : fl_W) (M : fl_M) (n : Nat) (hT : zSh n = zsT) (o : Nat) (hR : zRf o M.2) (hok : tOk M.1 n) (a b d : Int32) : CT l y_T_addMember w_T_addMember rm_T_addMember w zN [.ref (w.2.2 + n), .int a, .int b, .int d] M none (tAdM M n a b d) := by
  refine CT.of (cc := b_T_addMember) (own := "CompatibilityJudge$Type") (by decide) rfl rfl (Nat.le_of_ble_eq_true rfl) ?_
  intro p9 e9 s9 m9 ag9 bl9 mt9 c9 K
  have h3 := hok.1.2
  have h8 := hok.2.2
  show XW p9 l e9 (rm_T_addMember) s9 m9 ag9 bl9 mt9 c9 4 0 0 (MQ bl9 (CQ w zN none (tAdM M n a b d)) ag9 s9 0 0 (fun q : Nat => w.2.2 ≤ q)) w zN M 0 [(0, .ref (w.2.2 + n)), (1, .int a), (2, .int b), (3, .int d)] []
  refine x_aload_n (pc := 0) K 0 d_T_addMember_0 rfl ?_
  refine x_geti (pc := 1) K (n := n) (k := 7) (zlt hT) hT rfl rfl (by decide) (fun _ q => zmem (uw_T _ q)) (zmem lk_T_42) d_T_addMember_1 ?_
  refine x_eqi (y := nI (cM M.1 n)) (hok.2.1) ?_
  refine x_bipush (pc := 4) K (v := nI 8) d_T_addMember_4 (by decide) ?_
  refine x_icmp_ge (pc := 6) K (tgt := 34) d_T_addMember_6 (by decide) (fun c6 => ?_) (fun c6 => ?_)
  · skip
    have hic : ¬ cM M.1 n < 8 := fun q => absurd (show nI 8 ≤ nI (cM M.1 n) from c6) (nI_ge q (by omega))
    exact x_vret (pc := 34) K rfl ((if_neg hic).symm) d_T_addMember_34
  · skip
    have hic : cM M.1 n < 8 := Nat.not_le.mp (fun q => c6 (show nI 8 ≤ nI (cM M.1 n) from nI_le q (by omega)))
    refine x_aload_n (pc := 9) K 0 d_T_addMember_9 rfl ?_
    refine x_getr (pc := 10) K (n := n) (n' := n + 2) (k := 6) (zlt hT) hT rfl (hR.Ta hT) rfl (by decide) (fun _ q => zmem (uw_T _ q)) (zmem lk_T_17) d_T_addMember_10 ?_
    refine x_aload_n (pc := 13) K 0 d_T_addMember_13 rfl ?_
    refine x_geti (pc := 14) K (n := n) (k := 7) (zlt hT) hT rfl rfl (by decide) (fun _ q => zmem (uw_T _ q)) (zmem lk_T_42) d_T_addMember_14 ?_
    refine x_eqi (y := nI (cM M.1 n)) (hok.2.1) ?_
    refine x_aald (pc := 17) K (n := n + 2) (n' := n + 3 + (cM M.1 n)) (j := (cM M.1 n)) rfl (by omega) (hR.Tm hT (by omega)) (zlt (shTa hT)) (shTa hT) rfl (by decide) d_T_addMember_17 ?_
    refine x_iload_n (pc := 18) K 1 d_T_addMember_18 rfl ?_
    refine x_iload_n (pc := 19) K 2 d_T_addMember_19 rfl ?_
    refine x_iload_n (pc := 20) K 3 d_T_addMember_20 rfl ?_
    refine x_callVv (pc := 21) K (As := [.int a, .int b, .int d]) (rest := []) (c_M_define l w M a b d (n + 3 + (cM M.1 n)) (shTm hT (by omega))) (zcwV K.ts lk_T_62 im_M_define se_M_define ii_M co_M_define pd_M_define ⟨rfl, rfl⟩ ⟨by decide, by decide⟩) (zlt (shTm hT (by omega))) (shTm hT (by omega)) rfl rfl rfl (Nat.le_of_ble_eq_true rfl) ⟨Nat.zero_le _, Nat.zero_le _⟩ d_T_addMember_21 ?_
    refine x_aload_n (pc := 24) K 0 d_T_addMember_24 rfl ?_
    refine x_dup (pc := 25) K d_T_addMember_25 rfl ?_
    refine x_geti (pc := 26) K (n := n) (k := 7) (zlt hT) hT rfl rfl (by decide) (fun _ q => zmem (uw_T _ q)) (zmem lk_T_42) d_T_addMember_26 ?_
    refine x_eqi (y := nI (cM M.1 n)) (by rw [rdI_ne (Or.inl (by omega)), rdI_ne (Or.inl (by omega)), rdI_ne (Or.inl (by omega)), rdI_ne (Or.inl (by omega)), rdI_ne (Or.inl (by omega))]; exact hok.2.1) ?_
    refine x_iconst (pc := 29) K (v := 1) d_T_addMember_29 (by decide) ?_
    refine x_iadd (pc := 30) K d_T_addMember_30 ?_
    refine x_eqi (y := nI (cM M.1 n + 1)) (nI_1 _) ?_
    refine x_puti (pc := 31) K (n := n) (k := 7) (x := nI (cM M.1 n + 1)) uY_T tk_T nm_T (zlt hT) hT rfl rfl (by decide) (fun _ q => zmem (uw_T _ q)) (zmem lk_T_42) rfl rfl rfl d_T_addMember_31 ?_
    exact x_vret (pc := 34) K rfl ((if_pos hic).symm) d_T_addMember_34
theorem mCp_rd (M : fl_M) (n n2 a k : Nat) : (mCp M n n2).1 a k = if a = n ∧ k < 5 then M.1 n2 k else M.1 a k := by
  simp only [mCp, mCp1, wI, fl_u]
  by_cases ha : a = n
  · subst ha
    rcases k with _ | _ | _ | _ | _ | k <;> simp <;> omega
  · simp [ha]
/-- the members' truths are truths -/
def zM3 (μ : Nat → Nat → Int32) : Prop := ∀ a, zSh a = zsM → isZ (μ a 3)
theorem zM3_cp {M : fl_M} {n n2 : Nat} (h : zM3 M.1) (h2 : zSh n2 = zsM) : zM3 (mCp M n n2).1 := by
  intro a ha
  rw [mCp_rd]
  split
  · exact h n2 h2
  · exact h a ha
theorem neTM {a b : Nat} (h : zSh a = zsT) (h2 : zSh b = zsM) : a ≠ b := by
  intro q
  rw [q, h2] at h
  exact absurd h (by decide)
/-- members from i on move up by one, k of them -/
def tko (M : fl_M) (n : Nat) : Nat → Nat → fl_M
  | _, 0 => M
  | i, k + 1 => tko (mCp M (n + 3 + i) (n + 3 + (i + 1))) n (i + 1) k
set_option maxHeartbeats 4000000 in
set_option maxRecDepth 100000 in
theorem lp_T_takeOut (l : Launch) (w : fl_W) (M : fl_M) (n : Nat) (hT : zSh n = zsT) (o : Nat) (a : Int32) (c : Nat) (h1 : 1 ≤ c) (h8 : c ≤ 8) (Y : fl_M) {p9 : Program} {e9 : Env} {s9 : State} {m9 : MethodId} {ag9 : Array Value} {bl9 : List Frame} {mt9 : Method} {c9 : Code} (K : XC p9 s9 m9 ag9 mt9 c9 b_T_takeOut 3 none w_T_takeOut "CompatibilityJudge$Type" w) : ∀ (k : Nat) (i : Nat) (X : fl_M), i ≤ c - 1 → c - 1 + 1 ≤ i + k → zRf o X.2 → X.1 n 7 = nI c → zM3 X.1 → tko X n i (c - 1 - i) = Y → XW p9 l e9 (rm_T_takeOut) s9 m9 ag9 bl9 mt9 c9 3 0 0 (MQ bl9 (CQ w zN none (wI Y n 7 (nI (c - 1)))) ag9 s9 0 0 (fun q : Nat => w.2.2 ≤ q)) w zN X 2 [(2, .int (nI i)), (0, .ref (w.2.2 + n)), (1, .int a)] [] := by
  intro k
  induction k with
  | zero =>
    intro i X hi hk
    exact absurd hk (by omega)
  | succ k ih =>
    intro i X hi hk hR hc hz hf
    refine x_iload_n (pc := 2) K 0 d_T_takeOut_2 rfl ?_
    refine x_aload_n (pc := 3) K 1 d_T_takeOut_3 rfl ?_
    refine x_geti (pc := 4) K (n := n) (k := 7) (zlt hT) hT rfl rfl (by decide) (fun _ q => zmem (uw_T _ q)) (zmem lk_T_42) d_T_takeOut_4 ?_
    refine x_eqi (y := nI c) (hc) ?_
    refine x_iconst (pc := 7) K (v := 1) d_T_takeOut_7 (by decide) ?_
    refine x_isub (pc := 8) K d_T_takeOut_8 ?_
    refine x_eqi (y := nI (c - 1)) (by rw [show (1 : Int32) = nI 1 from by decide]; exact pk_sub (by omega)) ?_
    refine x_icmp_ge (pc := 9) K (tgt := 35) d_T_takeOut_9 (by decide) (fun c9 => ?_) (fun c9 => ?_)
    · skip
      have hic : i = c - 1 := by have := (nI_leI (by omega) (by omega)).mp c9; omega
      rw [hic, Nat.sub_self] at hf
      refine x_aload_n (pc := 35) K 1 d_T_takeOut_35 rfl ?_
      refine x_dup (pc := 36) K d_T_takeOut_36 rfl ?_
      refine x_geti (pc := 37) K (n := n) (k := 7) (zlt hT) hT rfl rfl (by decide) (fun _ q => zmem (uw_T _ q)) (zmem lk_T_42) d_T_takeOut_37 ?_
      refine x_eqi (y := nI c) (hc) ?_
      refine x_iconst (pc := 40) K (v := 1) d_T_takeOut_40 (by decide) ?_
      refine x_isub (pc := 41) K d_T_takeOut_41 ?_
      refine x_eqi (y := nI (c - 1)) (by rw [show (1 : Int32) = nI 1 from by decide]; exact pk_sub (by omega)) ?_
      refine x_puti (pc := 42) K (n := n) (k := 7) (x := nI (c - 1)) uY_T tk_T nm_T (zlt hT) hT rfl rfl (by decide) (fun _ q => zmem (uw_T _ q)) (zmem lk_T_42) rfl rfl rfl d_T_takeOut_42 ?_
      exact x_vret (pc := 45) K rfl (by rw [← hf]; rfl) d_T_takeOut_45
    · skip
      have hic : i < c - 1 := Nat.not_le.mp (fun q => c9 (nI_le q (by omega)))
      rw [show c - 1 - i = (c - 1 - (i + 1)) + 1 by omega, tko] at hf
      refine x_aload_n (pc := 12) K 1 d_T_takeOut_12 rfl ?_
      refine x_getr (pc := 13) K (n := n) (n' := n + 2) (k := 6) (zlt hT) hT rfl (hR.Ta hT) rfl (by decide) (fun _ q => zmem (uw_T _ q)) (zmem lk_T_17) d_T_takeOut_13 ?_
      refine x_iload_n (pc := 16) K 0 d_T_takeOut_16 rfl ?_
      refine x_aald (pc := 17) K (n := n + 2) (n' := n + 3 + i) (j := i) rfl (by omega) (hR.Tm hT (by omega)) (zlt (shTa hT)) (shTa hT) rfl (by decide) d_T_takeOut_17 ?_
      refine x_aload_n (pc := 18) K 1 d_T_takeOut_18 rfl ?_
      refine x_getr (pc := 19) K (n := n) (n' := n + 2) (k := 6) (zlt hT) hT rfl (hR.Ta hT) rfl (by decide) (fun _ q => zmem (uw_T _ q)) (zmem lk_T_17) d_T_takeOut_19 ?_
      refine x_iload_n (pc := 22) K 0 d_T_takeOut_22 rfl ?_
      refine x_iconst (pc := 23) K (v := 1) d_T_takeOut_23 (by decide) ?_
      refine x_iadd (pc := 24) K d_T_takeOut_24 ?_
      refine x_eqi (y := nI (i + 1)) (nI_1 _) ?_
      refine x_aald (pc := 25) K (n := n + 2) (n' := n + 3 + (i + 1)) (j := (i + 1)) rfl (by omega) (hR.Tm hT (by omega)) (zlt (shTa hT)) (shTa hT) rfl (by decide) d_T_takeOut_25 ?_
      refine x_callVv (pc := 26) K (As := [.ref (w.2.2 + (n + 3 + (i + 1)))]) (rest := []) (c_M_become l w X (n + 3 + (i + 1)) (shTm hT (by omega)) (hz _ (shTm hT (by omega))) (n + 3 + i) (shTm hT (by omega))) (zcwV K.ts lk_T_51 im_M_become se_M_become ii_M co_M_become pd_M_become ⟨rfl, rfl⟩ ⟨by decide, by decide⟩) (zlt (shTm hT (by omega))) (shTm hT (by omega)) rfl rfl rfl (Nat.le_of_ble_eq_true rfl) ⟨Nat.zero_le _, Nat.zero_le _⟩ d_T_takeOut_26 ?_
      refine x_iinc (pc := 29) K (v := nI (i + 1)) (lv' := [(2, .int (nI (i + 1))), (0, .ref (w.2.2 + n)), (1, .int a)]) 0 d_T_takeOut_29 rfl (nI_1 _) (by decide) rfl ?_
      refine x_goto (pc := 32) K (tgt := 2) d_T_takeOut_32 (by decide) ?_
      exact ih (i + 1) _ (by omega) (by omega) hR (by rw [mCp_rd, if_neg (fun q => neTM hT (shTm hT (by omega)) q.1)]; exact hc) (zM3_cp hz (shTm hT (by omega))) hf
set_option maxHeartbeats 4000000 in
set_option maxRecDepth 100000 in
theorem c_T_takeOut (l : Launch) (w : fl_W) (M : fl_M) (n : Nat) (hT : zSh n = zsT) (o : Nat) (hR : zRf o M.2) (c i : Nat) (hi : i < c) (h8 : c ≤ 8) (hc : M.1 n 7 = nI c) (hz : zM3 M.1) : CT l y_T_takeOut w_T_takeOut rm_T_takeOut w zN [.ref (w.2.2 + n), .int (nI i)] M none (wI (tko M n i (c - 1 - i)) n 7 (nI (c - 1))) := by
  refine CT.of (cc := b_T_takeOut) (own := "CompatibilityJudge$Type") (by decide) rfl rfl (Nat.le_of_ble_eq_true rfl) ?_
  intro p9 e9 s9 m9 ag9 bl9 mt9 c9 K
  show XW p9 l e9 (rm_T_takeOut) s9 m9 ag9 bl9 mt9 c9 3 0 0 (MQ bl9 (CQ w zN none (wI (tko M n i (c - 1 - i)) n 7 (nI (c - 1)))) ag9 s9 0 0 (fun q : Nat => w.2.2 ≤ q)) w zN M 0 [(0, .ref (w.2.2 + n)), (1, .int (nI i))] []
  refine x_iload_n (pc := 0) K 1 d_T_takeOut_0 rfl ?_
  refine x_istore_n (pc := 1) K (lv' := [(2, .int (nI i)), (0, .ref (w.2.2 + n)), (1, .int (nI i))]) d_T_takeOut_1 (by decide) rfl ?_
  exact lp_T_takeOut l w M n hT o (nI i) c (by omega) h8 _ K (c + 1) i M (by omega) (by omega) hR hc hz rfl
/-- the first k members from i on become the other's -/
def tbl (M : fl_M) (n n2 : Nat) : Nat → Nat → fl_M
  | _, 0 => M
  | i, k + 1 => tbl (mCp M (n + 3 + i) (n2 + 3 + i)) n n2 (i + 1) k
def tBc1 (M : fl_M) (n n2 : Nat) : fl_M := mCp1 (mCp1 (mCp1 (mCp1 M n n2 0) n n2 1) n n2 2) n n2 3
def tBc2 (M : fl_M) (n n2 : Nat) : fl_M := mCp1 (wA (tBc1 M n n2) (n + 1) (va_cpy ((tBc1 M n n2).1 (n2 + 1)) ((tBc1 M n n2).1 (n + 1)) 0 0 3)) n n2 5
def tBc3 (M : fl_M) (n n2 : Nat) : fl_M := mCp1 (mCp1 (mCp1 M n n2 7) n n2 8) n n2 9
def tBec (M : fl_M) (n n2 : Nat) : fl_M := tBc3 (tbl (tBc2 M n n2) n n2 0 (cM M.1 n2)) n n2
set_option maxHeartbeats 4000000 in
set_option maxRecDepth 100000 in
theorem lp_T_become (l : Launch) (w : fl_W) (M : fl_M) (n n2 : Nat) (hT : zSh n = zsT) (hT2 : zSh n2 = zsT) (hne : n ≠ n2) (o : Nat) (c : Nat) (h8 : c ≤ 8) (Y : fl_M) {p9 : Program} {e9 : Env} {s9 : State} {m9 : MethodId} {ag9 : Array Value} {bl9 : List Frame} {mt9 : Method} {c9 : Code} (K : XC p9 s9 m9 ag9 mt9 c9 b_T_become 3 none w_T_become "CompatibilityJudge$Type" w) : ∀ (k : Nat) (i : Nat) (X : fl_M), i ≤ c → c + 1 ≤ i + k → zRf o X.2 → X.1 n2 7 = nI c → zM3 X.1 → tbl X n n2 i (c - i) = Y → XW p9 l e9 (rm_T_become) s9 m9 ag9 bl9 mt9 c9 3 0 0 (MQ bl9 (CQ w zN none (tBc3 Y n n2)) ag9 s9 0 0 (fun q : Nat => w.2.2 ≤ q)) w zN X 56 [(2, .int (nI i)), (0, .ref (w.2.2 + n)), (1, .ref (w.2.2 + n2))] [] := by
  intro k
  induction k with
  | zero =>
    intro i X hi hk
    exact absurd hk (by omega)
  | succ k ih =>
    intro i X hi hk hR hc hz hf
    refine x_iload_n (pc := 56) K 0 d_T_become_56 rfl ?_
    refine x_aload_n (pc := 57) K 2 d_T_become_57 rfl ?_
    refine x_geti (pc := 58) K (n := n2) (k := 7) (zlt hT2) hT2 rfl rfl (by decide) (fun _ q => zmem (uw_T _ q)) (zmem lk_T_42) d_T_become_58 ?_
    refine x_eqi (y := nI c) (hc) ?_
    refine x_icmp_ge (pc := 61) K (tgt := 85) d_T_become_61 (by decide) (fun c61 => ?_) (fun c61 => ?_)
    · skip
      have hic : i = c := by have := (nI_leI (by omega) (by omega)).mp c61; omega
      rw [hic, Nat.sub_self] at hf
      refine x_aload_n (pc := 85) K 1 d_T_become_85 rfl ?_
      refine x_aload_n (pc := 86) K 2 d_T_become_86 rfl ?_
      refine x_geti (pc := 87) K (n := n2) (k := 7) (zlt hT2) hT2 rfl rfl (by decide) (fun _ q => zmem (uw_T _ q)) (zmem lk_T_42) d_T_become_87 ?_
      refine x_puti (pc := 90) K (n := n) (k := 7) (x := X.1 n2 7) uY_T tk_T nm_T (zlt hT) hT rfl rfl (by decide) (fun _ q => zmem (uw_T _ q)) (zmem lk_T_42) rfl rfl rfl d_T_become_90 ?_
      refine x_aload_n (pc := 93) K 1 d_T_become_93 rfl ?_
      refine x_aload_n (pc := 94) K 2 d_T_become_94 rfl ?_
      refine x_geti (pc := 95) K (n := n2) (k := 8) (zlt hT2) hT2 rfl rfl (by decide) (fun _ q => zmem (uw_T _ q)) (zmem lk_T_26) d_T_become_95 ?_
      refine x_puti (pc := 98) K (n := n) (k := 8) (x := (wI X n 7 (X.1 n2 7)).1 n2 8) uY_T tk_T nm_T (zlt hT) hT rfl rfl (by decide) (fun _ q => zmem (uw_T _ q)) (zmem lk_T_26) rfl rfl rfl d_T_become_98 ?_
      refine x_aload_n (pc := 101) K 1 d_T_become_101 rfl ?_
      refine x_aload_n (pc := 102) K 2 d_T_become_102 rfl ?_
      refine x_geti (pc := 103) K (n := n2) (k := 9) (zlt hT2) hT2 rfl rfl (by decide) (fun _ q => zmem (uw_T _ q)) (zmem lk_T_55) d_T_become_103 ?_
      refine x_puti (pc := 106) K (n := n) (k := 9) (x := (wI (wI X n 7 (X.1 n2 7)) n 8 ((wI X n 7 (X.1 n2 7)).1 n2 8)).1 n2 9) uY_T tk_T nm_T (zlt hT) hT rfl rfl (by decide) (fun _ q => zmem (uw_T _ q)) (zmem lk_T_55) rfl rfl rfl d_T_become_106 ?_
      exact x_vret (pc := 109) K rfl (by rw [← hf]; rfl) d_T_become_109
    · skip
      have hic : i < c := Nat.not_le.mp (fun q => c61 (nI_le q (by omega)))
      rw [show c - i = (c - (i + 1)) + 1 by omega, tbl] at hf
      refine x_aload_n (pc := 64) K 1 d_T_become_64 rfl ?_
      refine x_getr (pc := 65) K (n := n) (n' := n + 2) (k := 6) (zlt hT) hT rfl (hR.Ta hT) rfl (by decide) (fun _ q => zmem (uw_T _ q)) (zmem lk_T_17) d_T_become_65 ?_
      refine x_iload_n (pc := 68) K 0 d_T_become_68 rfl ?_
      refine x_aald (pc := 69) K (n := n + 2) (n' := n + 3 + i) (j := i) rfl (by omega) (hR.Tm hT (by omega)) (zlt (shTa hT)) (shTa hT) rfl (by decide) d_T_become_69 ?_
      refine x_aload_n (pc := 70) K 2 d_T_become_70 rfl ?_
      refine x_getr (pc := 71) K (n := n2) (n' := n2 + 2) (k := 6) (zlt hT2) hT2 rfl (hR.Ta hT2) rfl (by decide) (fun _ q => zmem (uw_T _ q)) (zmem lk_T_17) d_T_become_71 ?_
      refine x_iload_n (pc := 74) K 0 d_T_become_74 rfl ?_
      refine x_aald (pc := 75) K (n := n2 + 2) (n' := n2 + 3 + i) (j := i) rfl (by omega) (hR.Tm hT2 (by omega)) (zlt (shTa hT2)) (shTa hT2) rfl (by decide) d_T_become_75 ?_
      refine x_callVv (pc := 76) K (As := [.ref (w.2.2 + (n2 + 3 + i))]) (rest := []) (c_M_become l w X (n2 + 3 + i) (shTm hT2 (by omega)) (hz _ (shTm hT2 (by omega))) (n + 3 + i) (shTm hT (by omega))) (zcwV K.ts lk_T_51 im_M_become se_M_become ii_M co_M_become pd_M_become ⟨rfl, rfl⟩ ⟨by decide, by decide⟩) (zlt (shTm hT (by omega))) (shTm hT (by omega)) rfl rfl rfl (Nat.le_of_ble_eq_true rfl) ⟨Nat.zero_le _, Nat.zero_le _⟩ d_T_become_76 ?_
      refine x_iinc (pc := 79) K (v := nI (i + 1)) (lv' := [(2, .int (nI (i + 1))), (0, .ref (w.2.2 + n)), (1, .ref (w.2.2 + n2))]) 0 d_T_become_79 rfl (nI_1 _) (by decide) rfl ?_
      refine x_goto (pc := 82) K (tgt := 56) d_T_become_82 (by decide) ?_
      exact ih (i + 1) _ (by omega) (by omega) hR (by rw [mCp_rd, if_neg (fun q => neTM hT2 (shTm hT (by omega)) q.1)]; exact hc) (zM3_cp hz (shTm hT2 (by omega))) hf
theorem tBc2_rd {M : fl_M} {n n2 a k : Nat} (h : a ≠ n) (h1 : a ≠ n + 1) : (tBc2 M n n2).1 a k = M.1 a k := by
  simp [tBc2, tBc1, mCp1, wI, fl_u, wA, h, h1]
theorem neTI {a b : Nat} (h : zSh a = zsT) (h2 : zSh b = zsT) : a ≠ b + 1 := by
  intro q
  rw [q, shTi h2] at h
  exact absurd h (by decide)
theorem neMI {a b : Nat} (h : zSh a = zsM) (h2 : zSh b = zsT) : a ≠ b + 1 := by
  intro q
  rw [q, shTi h2] at h
  exact absurd h (by decide)
set_option maxHeartbeats 4000000 in
set_option maxRecDepth 100000 in
theorem c_T_become (l : Launch) (w : fl_W) (M : fl_M) (n n2 : Nat) (hT : zSh n = zsT) (hT2 : zSh n2 = zsT) (hne : n ≠ n2) (o : Nat) (hR : zRf o M.2) (h7 : M.1 n2 7 = nI (cM M.1 n2)) (h8 : cM M.1 n2 ≤ 8) (hz : zM3 M.1) (hz0 : isZ (M.1 n2 0)) : CT l y_T_become w_T_become rm_T_become w zN [.ref (w.2.2 + n), .ref (w.2.2 + n2)] M none (tBec M n n2) := by
  refine CT.of (cc := b_T_become) (own := "CompatibilityJudge$Type") (by decide) rfl rfl (Nat.le_of_ble_eq_true rfl) ?_
  intro p9 e9 s9 m9 ag9 bl9 mt9 c9 K
  show XW p9 l e9 (rm_T_become) s9 m9 ag9 bl9 mt9 c9 3 0 0 (MQ bl9 (CQ w zN none (tBec M n n2)) ag9 s9 0 0 (fun q : Nat => w.2.2 ≤ q)) w zN M 0 [(0, .ref (w.2.2 + n)), (1, .ref (w.2.2 + n2))] []
  refine x_aload_n (pc := 0) K 0 d_T_become_0 rfl ?_
  refine x_aload_n (pc := 1) K 1 d_T_become_1 rfl ?_
  refine x_geti (pc := 2) K (n := n2) (k := 0) (zlt hT2) hT2 rfl rfl (by decide) (fun _ q => zmem (uw_T _ q)) (zmem lk_T_29) d_T_become_2 ?_
  refine x_puti (pc := 5) K (n := n) (k := 0) (x := M.1 n2 0) uY_T tk_T nm_T (zlt hT) hT rfl rfl (by decide) (fun _ q => zmem (uw_T _ q)) (zmem lk_T_29) rfl (isZ_n hz0) (isZ_ft hz0) d_T_become_5 ?_
  refine x_aload_n (pc := 8) K 0 d_T_become_8 rfl ?_
  refine x_aload_n (pc := 9) K 1 d_T_become_9 rfl ?_
  refine x_geti (pc := 10) K (n := n2) (k := 1) (zlt hT2) hT2 rfl rfl (by decide) (fun _ q => zmem (uw_T _ q)) (zmem lk_T_33) d_T_become_10 ?_
  refine x_puti (pc := 13) K (n := n) (k := 1) (x := (wI M n 0 (M.1 n2 0)).1 n2 1) uY_T tk_T nm_T (zlt hT) hT rfl rfl (by decide) (fun _ q => zmem (uw_T _ q)) (zmem lk_T_33) rfl rfl rfl d_T_become_13 ?_
  refine x_aload_n (pc := 16) K 0 d_T_become_16 rfl ?_
  refine x_aload_n (pc := 17) K 1 d_T_become_17 rfl ?_
  refine x_geti (pc := 18) K (n := n2) (k := 2) (zlt hT2) hT2 rfl rfl (by decide) (fun _ q => zmem (uw_T _ q)) (zmem lk_T_36) d_T_become_18 ?_
  refine x_puti (pc := 21) K (n := n) (k := 2) (x := (wI (wI M n 0 (M.1 n2 0)) n 1 ((wI M n 0 (M.1 n2 0)).1 n2 1)).1 n2 2) uY_T tk_T nm_T (zlt hT) hT rfl rfl (by decide) (fun _ q => zmem (uw_T _ q)) (zmem lk_T_36) rfl rfl rfl d_T_become_21 ?_
  refine x_aload_n (pc := 24) K 0 d_T_become_24 rfl ?_
  refine x_aload_n (pc := 25) K 1 d_T_become_25 rfl ?_
  refine x_geti (pc := 26) K (n := n2) (k := 3) (zlt hT2) hT2 rfl rfl (by decide) (fun _ q => zmem (uw_T _ q)) (zmem lk_T_22) d_T_become_26 ?_
  refine x_puti (pc := 29) K (n := n) (k := 3) (x := (wI (wI (wI M n 0 (M.1 n2 0)) n 1 ((wI M n 0 (M.1 n2 0)).1 n2 1)) n 2 ((wI (wI M n 0 (M.1 n2 0)) n 1 ((wI M n 0 (M.1 n2 0)).1 n2 1)).1 n2 2)).1 n2 3) uY_T tk_T nm_T (zlt hT) hT rfl rfl (by decide) (fun _ q => zmem (uw_T _ q)) (zmem lk_T_22) rfl rfl rfl d_T_become_29 ?_
  refine x_aload_n (pc := 32) K 1 d_T_become_32 rfl ?_
  refine x_getr (pc := 33) K (n := n2) (n' := n2 + 1) (k := 4) (zlt hT2) hT2 rfl (hR.Ti hT2) rfl (by decide) (fun _ q => zmem (uw_T _ q)) (zmem lk_T_9) d_T_become_33 ?_
  refine x_iconst (pc := 36) K (v := 0) d_T_become_36 (by decide) ?_
  refine x_aload_n (pc := 37) K 0 d_T_become_37 rfl ?_
  refine x_getr (pc := 38) K (n := n) (n' := n + 1) (k := 4) (zlt hT) hT rfl (hR.Ti hT) rfl (by decide) (fun _ q => zmem (uw_T _ q)) (zmem lk_T_9) d_T_become_38 ?_
  refine x_iconst (pc := 41) K (v := 0) d_T_become_41 (by decide) ?_
  refine x_iconst (pc := 42) K (v := nI 3) d_T_become_42 (by decide) ?_
  refine x_copyi (pc := 43) K (n0 := n2 + 1) (n1 := n + 1) (len := 3) rfl rfl (by decide) (zmem lk_T_45) (zmem nm_Sy_arraycopy) (zmem sm_Sy_arraycopy) (zmem ii_Sy) (zlt (shTi hT2)) (shTi hT2) (zlt (shTi hT)) (shTi hT) rfl (by decide) (by decide) (Nat.le_of_ble_eq_true rfl) d_T_become_43 ?_
  refine x_aload_n (pc := 46) K 0 d_T_become_46 rfl ?_
  refine x_aload_n (pc := 47) K 1 d_T_become_47 rfl ?_
  refine x_geti (pc := 48) K (n := n2) (k := 5) (zlt hT2) hT2 rfl rfl (by decide) (fun _ q => zmem (uw_T _ q)) (zmem lk_T_39) d_T_become_48 ?_
  refine x_puti (pc := 51) K (n := n) (k := 5) (x := (wA (wI (wI (wI (wI M n 0 (M.1 n2 0)) n 1 ((wI M n 0 (M.1 n2 0)).1 n2 1)) n 2 ((wI (wI M n 0 (M.1 n2 0)) n 1 ((wI M n 0 (M.1 n2 0)).1 n2 1)).1 n2 2)) n 3 ((wI (wI (wI M n 0 (M.1 n2 0)) n 1 ((wI M n 0 (M.1 n2 0)).1 n2 1)) n 2 ((wI (wI M n 0 (M.1 n2 0)) n 1 ((wI M n 0 (M.1 n2 0)).1 n2 1)).1 n2 2)).1 n2 3)) (n + 1) (va_cpy ((wI (wI (wI (wI M n 0 (M.1 n2 0)) n 1 ((wI M n 0 (M.1 n2 0)).1 n2 1)) n 2 ((wI (wI M n 0 (M.1 n2 0)) n 1 ((wI M n 0 (M.1 n2 0)).1 n2 1)).1 n2 2)) n 3 ((wI (wI (wI M n 0 (M.1 n2 0)) n 1 ((wI M n 0 (M.1 n2 0)).1 n2 1)) n 2 ((wI (wI M n 0 (M.1 n2 0)) n 1 ((wI M n 0 (M.1 n2 0)).1 n2 1)).1 n2 2)).1 n2 3)).1 (n2 + 1)) ((wI (wI (wI (wI M n 0 (M.1 n2 0)) n 1 ((wI M n 0 (M.1 n2 0)).1 n2 1)) n 2 ((wI (wI M n 0 (M.1 n2 0)) n 1 ((wI M n 0 (M.1 n2 0)).1 n2 1)).1 n2 2)) n 3 ((wI (wI (wI M n 0 (M.1 n2 0)) n 1 ((wI M n 0 (M.1 n2 0)).1 n2 1)) n 2 ((wI (wI M n 0 (M.1 n2 0)) n 1 ((wI M n 0 (M.1 n2 0)).1 n2 1)).1 n2 2)).1 n2 3)).1 (n + 1)) 0 0 3)).1 n2 5) uY_T tk_T nm_T (zlt hT) hT rfl rfl (by decide) (fun _ q => zmem (uw_T _ q)) (zmem lk_T_39) rfl rfl rfl d_T_become_51 ?_
  refine x_iconst (pc := 54) K (v := nI 0) d_T_become_54 (by decide) ?_
  refine x_istore_n (pc := 55) K (lv' := [(2, .int (nI 0)), (0, .ref (w.2.2 + n)), (1, .ref (w.2.2 + n2))]) d_T_become_55 (by decide) rfl ?_
  exact lp_T_become l w M n n2 hT hT2 hne o (cM M.1 n2) h8 _ K (cM M.1 n2 + 1) 0 (tBc2 M n n2) (by omega) (by omega) hR (by rw [tBc2_rd (Ne.symm hne) (neTI hT2 hT)]; exact h7) (fun a ha => by rw [tBc2_rd (fun q => neTM hT ha q.symm) (neMI ha hT)]; exact hz a ha) (by rw [Nat.sub_zero])
