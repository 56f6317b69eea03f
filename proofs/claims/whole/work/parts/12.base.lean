theorem x_opt {p : Program} {l : Launch} {e : Env} {R : Room} {s : State} {m : MethodId} {args : Array Value} {below : List Frame} {meth : Method} {c : Code} {nL cells slots : Nat} {Q : State → Prop} {w : fl_W} {N : Nat} {M : fl_M} {pc : Nat} {lv : List (Nat × Value)} {st : List Value} {F : Option Nat} {n : Nat} (k0 : F = none → XW p l e R s m args below meth c nL cells slots Q w N M pc lv (.null :: st)) (k1 : ∀ j, F = some j → XW p l e R s m args below meth c nL cells slots Q w N M pc lv (.ref (w.2.2 + (n + 3 + j)) :: st)) : XW p l e R s m args below meth c nL cells slots Q w N M pc lv (rfM w n F :: st) := by
  cases F with
  | none => exact k0 rfl
  | some j => exact k1 j rfl
theorem fnd_lt {p : Nat → Prop} [DecidablePred p] : ∀ {k i j : Nat}, fnd p i k = some j → i ≤ j ∧ j < i + k ∧ p j := by
  intro k
  induction k with
  | zero => intro i j h; cases h
  | succ k ih =>
    intro i j h
    rw [fnd] at h
    split at h
    · rename_i hp
      cases h
      exact ⟨Nat.le_refl _, by omega, hp⟩
    · obtain ⟨a, b, d⟩ := ih h
      exact ⟨by omega, by omega, d⟩
theorem fnd_none {p : Nat → Prop} [DecidablePred p] : ∀ {k i : Nat}, fnd p i k = none ↔ ∀ j, i ≤ j → j < i + k → ¬ p j := by
  intro k
  induction k with
  | zero => intro i; exact ⟨fun _ j h1 h2 => absurd h2 (by omega), fun _ => rfl⟩
  | succ k ih =>
    intro i
    rw [fnd]
    split
    · rename_i hp
      exact ⟨fun h => (by cases h), fun h => absurd hp (h i (Nat.le_refl _) (by omega))⟩
    · rename_i hp
      rw [ih]
      refine ⟨fun h j h1 h2 => ?_, fun h j h1 h2 => h j (by omega) (by omega)⟩
      rcases Nat.eq_or_lt_of_le h1 with q | q
      · rw [← q]; exact hp
      · exact h j q (by omega)
/-- the name of type x of the baseline b -/
abbrev tn (b : Nat) (x : Int32) : Nat := b + 2 + 11 * ix x
/-- what holds of a baseline's type t: counts, truth, interfaces and parent below t -/
def bTy (μ : Nat → Nat → Int32) (b t : Nat) : Prop := tOk μ (b + 2 + 11 * t) ∧ isZ (μ (b + 2 + 11 * t) 0) ∧ (∀ i, i < cI μ (b + 2 + 11 * t) → inL t (μ (b + 2 + 11 * t + 1) i)) ∧ (μ (b + 2 + 11 * t) 3 = -1 ∨ inL t (μ (b + 2 + 11 * t) 3))
def bSc (μ : Nat → Nat → Int32) (b t : Nat) : Prop := μ (b + 2 + 11 * t) 8 = -1 ∨ inL t (μ (b + 2 + 11 * t) 8)
def bOk (μ : Nat → Nat → Int32) (b : Nat) : Prop := ∀ t, t < 12 → bTy μ b t
def bSk (μ : Nat → Nat → Int32) (b : Nat) : Prop := ∀ t, t < 12 → bSc μ b t
theorem inL_le {L L' : Nat} {x : Int32} (h : inL L x) (hL : L ≤ L') : inL L' x := ⟨h.1, Nat.lt_of_lt_of_le h.2 hL⟩
def tct (μ : Nat → Nat → Int32) (b : Nat) : Nat → Nat → Int32 → Int32
  | _, 0, a => a
  | i, k + 1, a => tct μ b (i + 1) k (if μ (b + 2 + 11 * i) 0 = 0 then a else a + 1)
def mct (μ : Nat → Nat → Int32) (b : Nat) : Nat → Nat → Int32 → Int32
  | _, 0, a => a
  | i, k + 1, a => mct μ b (i + 1) k (a + μ (b + 2 + 11 * i) 7)
set_option maxHeartbeats 4000000 in
set_option maxRecDepth 100000 in
theorem lp_B_typeCount (l : Launch) (w : fl_W) (M : fl_M) (b : Nat) (hB : zSh b = zsB) (o : Nat) (hR : zRf o M.2) (F : Int32) {p9 : Program} {e9 : Env} {s9 : State} {m9 : MethodId} {ag9 : Array Value} {bl9 : List Frame} {mt9 : Method} {c9 : Code} (K : XC p9 s9 m9 ag9 mt9 c9 b_B_typeCount 3 (some .int) w_B_typeCount "CompatibilityJudge$Baseline" w) : ∀ (k : Nat) (i : Nat) (a : Int32), i ≤ 12 → 12 + 1 ≤ i + k → tct M.1 b i (12 - i) a = F → XW p9 l e9 (rm_B_typeCount) s9 m9 ag9 bl9 mt9 c9 3 0 0 (MQ bl9 (CQ w zN (some (.int F)) M) ag9 s9 0 0 (fun q : Nat => w.2.2 ≤ q)) w zN M 4 [(2, .int (nI i)), (1, .int a), (0, .ref (w.2.2 + b))] [] := by
  intro k
  induction k with
  | zero =>
    intro i a hi hk
    exact absurd hk (by omega)
  | succ k ih =>
    intro i a hi hk hf
    refine x_iload_n (pc := 4) K 0 d_B_typeCount_4 rfl ?_
    refine x_bipush (pc := 5) K (v := nI 12) d_B_typeCount_5 (by decide) ?_
    refine x_icmp_ge (pc := 7) K (tgt := 31) d_B_typeCount_7 (by decide) (fun c7 => ?_) (fun c7 => ?_)
    · skip
      have hic : i = 12 := by have := (nI_leI (a := 12) (by omega) (by omega)).mp c7; omega
      rw [hic, Nat.sub_self] at hf
      refine x_iload_n (pc := 31) K 1 d_B_typeCount_31 rfl ?_
      exact x_iret (pc := 32) K (by rw [← hf]; rfl) (rfl) d_B_typeCount_32
    · skip
      have hic : i < 12 := Nat.not_le.mp (fun q => c7 (nI_le (a := 12) q (by omega)))
      rw [show 12 - i = (12 - (i + 1)) + 1 by omega, tct] at hf
      refine x_aload_n (pc := 10) K 2 d_B_typeCount_10 rfl ?_
      refine x_getr (pc := 11) K (n := b) (n' := b + 1) (k := 0) (zlt hB) hB rfl (hR.Ba hB) rfl (by decide) (fun _ q => zmem (uw_B _ q)) (zmem lk_B_11) d_B_typeCount_11 ?_
      refine x_iload_n (pc := 14) K 0 d_B_typeCount_14 rfl ?_
      refine x_aald (pc := 15) K (n := b + 1) (n' := b + 2 + 11 * i) (j := i) rfl (by omega) (hR.Bt hB (by omega)) (zlt (shBa hB)) (shBa hB) rfl (by decide) d_B_typeCount_15 ?_
      refine x_geti (pc := 16) K (n := b + 2 + 11 * i) (k := 0) (zlt (shBt hB (by omega))) (shBt hB (by omega)) rfl rfl (by decide) (fun _ q => zmem (uw_T _ q)) (zmem lk_B_26) d_B_typeCount_16 ?_
      refine x_if_eq (pc := 19) K (tgt := 25) d_B_typeCount_19 (by decide) (fun c19 => ?_) (fun c19 => ?_)
      · skip
        rw [if_pos c19] at hf
        refine x_iinc (pc := 25) K (v := nI (i + 1)) (lv' := [(2, .int (nI (i + 1))), (1, .int a), (0, .ref (w.2.2 + b))]) 0 d_B_typeCount_25 rfl (nI_1 _) (by decide) rfl ?_
        refine x_goto (pc := 28) K (tgt := 4) d_B_typeCount_28 (by decide) ?_
        refine x_lv [0, 1, 2] rfl ?_
        exact ih (i + 1) _ (by omega) (by omega) hf
      · skip
        rw [if_neg c19] at hf
        refine x_iinc (pc := 22) K (v := a + 1) (lv' := [(1, .int (a + 1)), (2, .int (nI i)), (0, .ref (w.2.2 + b))]) 1 d_B_typeCount_22 rfl (rfl) (by decide) rfl ?_
        refine x_iinc (pc := 25) K (v := nI (i + 1)) (lv' := [(2, .int (nI (i + 1))), (1, .int (a + 1)), (0, .ref (w.2.2 + b))]) 1 d_B_typeCount_25 rfl (nI_1 _) (by decide) rfl ?_
        refine x_goto (pc := 28) K (tgt := 4) d_B_typeCount_28 (by decide) ?_
        refine x_lv [0, 1, 2] rfl ?_
        exact ih (i + 1) _ (by omega) (by omega) hf
set_option maxHeartbeats 4000000 in
set_option maxRecDepth 100000 in
theorem c_B_typeCount (l : Launch) (w : fl_W) (M : fl_M) (b : Nat) (hB : zSh b = zsB) (o : Nat) (hR : zRf o M.2)  : CT l y_B_typeCount w_B_typeCount rm_B_typeCount w zN [.ref (w.2.2 + b)] M (some (.int (tct M.1 b 0 12 0))) M := by
  refine CT.of (cc := b_B_typeCount) (own := "CompatibilityJudge$Baseline") (by decide) rfl rfl (Nat.le_of_ble_eq_true rfl) ?_
  intro p9 e9 s9 m9 ag9 bl9 mt9 c9 K
  show XW p9 l e9 (rm_B_typeCount) s9 m9 ag9 bl9 mt9 c9 3 0 0 (MQ bl9 (CQ w zN (some (.int (tct M.1 b 0 12 0))) M) ag9 s9 0 0 (fun q : Nat => w.2.2 ≤ q)) w zN M 0 [(0, .ref (w.2.2 + b))] []
  refine x_iconst (pc := 0) K (v := 0) d_B_typeCount_0 (by decide) ?_
  refine x_istore_n (pc := 1) K (lv' := [(1, .int 0), (0, .ref (w.2.2 + b))]) d_B_typeCount_1 (by decide) rfl ?_
  refine x_iconst (pc := 2) K (v := nI 0) d_B_typeCount_2 (by decide) ?_
  refine x_istore_n (pc := 3) K (lv' := [(2, .int (nI 0)), (1, .int 0), (0, .ref (w.2.2 + b))]) d_B_typeCount_3 (by decide) rfl ?_
  exact lp_B_typeCount l w M b hB o hR _ K 13 0 0 (by omega) (by omega) rfl
set_option maxHeartbeats 4000000 in
set_option maxRecDepth 100000 in
theorem lp_B_memberCount (l : Launch) (w : fl_W) (M : fl_M) (b : Nat) (hB : zSh b = zsB) (o : Nat) (hR : zRf o M.2) (F : Int32) {p9 : Program} {e9 : Env} {s9 : State} {m9 : MethodId} {ag9 : Array Value} {bl9 : List Frame} {mt9 : Method} {c9 : Code} (K : XC p9 s9 m9 ag9 mt9 c9 b_B_memberCount 3 (some .int) w_B_memberCount "CompatibilityJudge$Baseline" w) : ∀ (k : Nat) (i : Nat) (a : Int32), i ≤ 12 → 12 + 1 ≤ i + k → mct M.1 b i (12 - i) a = F → XW p9 l e9 (rm_B_memberCount) s9 m9 ag9 bl9 mt9 c9 3 0 0 (MQ bl9 (CQ w zN (some (.int F)) M) ag9 s9 0 0 (fun q : Nat => w.2.2 ≤ q)) w zN M 4 [(2, .int (nI i)), (1, .int a), (0, .ref (w.2.2 + b))] [] := by
  intro k
  induction k with
  | zero =>
    intro i a hi hk
    exact absurd hk (by omega)
  | succ k ih =>
    intro i a hi hk hf
    refine x_iload_n (pc := 4) K 0 d_B_memberCount_4 rfl ?_
    refine x_bipush (pc := 5) K (v := nI 12) d_B_memberCount_5 (by decide) ?_
    refine x_icmp_ge (pc := 7) K (tgt := 28) d_B_memberCount_7 (by decide) (fun c7 => ?_) (fun c7 => ?_)
    · skip
      have hic : i = 12 := by have := (nI_leI (a := 12) (by omega) (by omega)).mp c7; omega
      rw [hic, Nat.sub_self] at hf
      refine x_iload_n (pc := 28) K 1 d_B_memberCount_28 rfl ?_
      exact x_iret (pc := 29) K (by rw [← hf]; rfl) (rfl) d_B_memberCount_29
    · skip
      have hic : i < 12 := Nat.not_le.mp (fun q => c7 (nI_le (a := 12) q (by omega)))
      rw [show 12 - i = (12 - (i + 1)) + 1 by omega, mct] at hf
      refine x_iload_n (pc := 10) K 1 d_B_memberCount_10 rfl ?_
      refine x_aload_n (pc := 11) K 2 d_B_memberCount_11 rfl ?_
      refine x_getr (pc := 12) K (n := b) (n' := b + 1) (k := 0) (zlt hB) hB rfl (hR.Ba hB) rfl (by decide) (fun _ q => zmem (uw_B _ q)) (zmem lk_B_11) d_B_memberCount_12 ?_
      refine x_iload_n (pc := 15) K 0 d_B_memberCount_15 rfl ?_
      refine x_aald (pc := 16) K (n := b + 1) (n' := b + 2 + 11 * i) (j := i) rfl (by omega) (hR.Bt hB (by omega)) (zlt (shBa hB)) (shBa hB) rfl (by decide) d_B_memberCount_16 ?_
      refine x_geti (pc := 17) K (n := b + 2 + 11 * i) (k := 7) (zlt (shBt hB (by omega))) (shBt hB (by omega)) rfl rfl (by decide) (fun _ q => zmem (uw_T _ q)) (zmem lk_B_30) d_B_memberCount_17 ?_
      refine x_iadd (pc := 20) K d_B_memberCount_20 ?_
      refine x_istore_n (pc := 21) K (lv' := [(1, .int (a + (M.1 (b + 2 + 11 * i) 7))), (2, .int (nI i)), (0, .ref (w.2.2 + b))]) d_B_memberCount_21 (by decide) rfl ?_
      refine x_iinc (pc := 22) K (v := nI (i + 1)) (lv' := [(2, .int (nI (i + 1))), (1, .int (a + (M.1 (b + 2 + 11 * i) 7))), (0, .ref (w.2.2 + b))]) 1 d_B_memberCount_22 rfl (nI_1 _) (by decide) rfl ?_
      refine x_goto (pc := 25) K (tgt := 4) d_B_memberCount_25 (by decide) ?_
      refine x_lv [0, 1, 2] rfl ?_
      exact ih (i + 1) _ (by omega) (by omega) hf
set_option maxHeartbeats 4000000 in
set_option maxRecDepth 100000 in
theorem c_B_memberCount (l : Launch) (w : fl_W) (M : fl_M) (b : Nat) (hB : zSh b = zsB) (o : Nat) (hR : zRf o M.2)  : CT l y_B_memberCount w_B_memberCount rm_B_memberCount w zN [.ref (w.2.2 + b)] M (some (.int (mct M.1 b 0 12 0))) M := by
  refine CT.of (cc := b_B_memberCount) (own := "CompatibilityJudge$Baseline") (by decide) rfl rfl (Nat.le_of_ble_eq_true rfl) ?_
  intro p9 e9 s9 m9 ag9 bl9 mt9 c9 K
  show XW p9 l e9 (rm_B_memberCount) s9 m9 ag9 bl9 mt9 c9 3 0 0 (MQ bl9 (CQ w zN (some (.int (mct M.1 b 0 12 0))) M) ag9 s9 0 0 (fun q : Nat => w.2.2 ≤ q)) w zN M 0 [(0, .ref (w.2.2 + b))] []
  refine x_iconst (pc := 0) K (v := 0) d_B_memberCount_0 (by decide) ?_
  refine x_istore_n (pc := 1) K (lv' := [(1, .int 0), (0, .ref (w.2.2 + b))]) d_B_memberCount_1 (by decide) rfl ?_
  refine x_iconst (pc := 2) K (v := nI 0) d_B_memberCount_2 (by decide) ?_
  refine x_istore_n (pc := 3) K (lv' := [(2, .int (nI 0)), (1, .int 0), (0, .ref (w.2.2 + b))]) d_B_memberCount_3 (by decide) rfl ?_
  exact lp_B_memberCount l w M b hB o hR _ K 13 0 0 (by omega) (by omega) rfl
abbrev isI (μ : Nat → Nat → Int32) (b : Nat) (x : Int32) : Prop := ¬ μ (tn b x) 0 = 0 ∧ μ (tn b x) 1 = 1
abbrev isC (μ : Nat → Nat → Int32) (b : Nat) (x : Int32) : Prop := (¬ x < 0 ∧ ¬ (12 : Int32) ≤ x) ∧ ¬ μ (tn b x) 0 = 0 ∧ μ (tn b x) 1 = 0
set_option maxHeartbeats 4000000 in
set_option maxRecDepth 100000 in
theorem c_B_isInterface (l : Launch) (w : fl_W) (M : fl_M) (b : Nat) (hB : zSh b = zsB) (o : Nat) (hR : zRf o M.2) (x : Int32) (hx : inL 12 x) : CT l y_B_isInterface w_B_isInterface rm_B_isInterface w zN [.ref (w.2.2 + b), .int x] M (some (.int (bI (isI M.1 b x)))) M := by
  refine CT.of (cc := b_B_isInterface) (own := "CompatibilityJudge$Baseline") (by decide) rfl rfl (Nat.le_of_ble_eq_true rfl) ?_
  intro p9 e9 s9 m9 ag9 bl9 mt9 c9 K
  show XW p9 l e9 (rm_B_isInterface) s9 m9 ag9 bl9 mt9 c9 2 0 0 (MQ bl9 (CQ w zN (some (.int (bI (isI M.1 b x)))) M) ag9 s9 0 0 (fun q : Nat => w.2.2 ≤ q)) w zN M 0 [(0, .ref (w.2.2 + b)), (1, .int x)] []
  refine x_aload_n (pc := 0) K 0 d_B_isInterface_0 rfl ?_
  refine x_getr (pc := 1) K (n := b) (n' := b + 1) (k := 0) (zlt hB) hB rfl (hR.Ba hB) rfl (by decide) (fun _ q => zmem (uw_B _ q)) (zmem lk_B_11) d_B_isInterface_1 ?_
  refine x_iload_n (pc := 4) K 1 d_B_isInterface_4 rfl ?_
  refine x_aald (pc := 5) K (n := b + 1) (n' := b + 2 + 11 * (ix x)) (j := ix x) hx.1 hx.2 (hR.Bt hB hx.2) (zlt (shBa hB)) (shBa hB) rfl (by decide) d_B_isInterface_5 ?_
  refine x_geti (pc := 6) K (n := b + 2 + 11 * (ix x)) (k := 0) (zlt (shBt hB hx.2)) (shBt hB hx.2) rfl rfl (by decide) (fun _ q => zmem (uw_T _ q)) (zmem lk_B_26) d_B_isInterface_6 ?_
  refine x_if_eq (pc := 9) K (tgt := 29) d_B_isInterface_9 (by decide) (fun c9 => ?_) (fun c9 => ?_)
  · skip
    refine x_iconst (pc := 29) K (v := 0) d_B_isInterface_29 (by decide) ?_
    exact x_zret (pc := 30) K (rF (by simp_all [isI])) rfl rfl d_B_isInterface_30
  · skip
    refine x_aload_n (pc := 12) K 0 d_B_isInterface_12 rfl ?_
    refine x_getr (pc := 13) K (n := b) (n' := b + 1) (k := 0) (zlt hB) hB rfl (hR.Ba hB) rfl (by decide) (fun _ q => zmem (uw_B _ q)) (zmem lk_B_11) d_B_isInterface_13 ?_
    refine x_iload_n (pc := 16) K 1 d_B_isInterface_16 rfl ?_
    refine x_aald (pc := 17) K (n := b + 1) (n' := b + 2 + 11 * (ix x)) (j := ix x) hx.1 hx.2 (hR.Bt hB hx.2) (zlt (shBa hB)) (shBa hB) rfl (by decide) d_B_isInterface_17 ?_
    refine x_geti (pc := 18) K (n := b + 2 + 11 * (ix x)) (k := 1) (zlt (shBt hB hx.2)) (shBt hB hx.2) rfl rfl (by decide) (fun _ q => zmem (uw_T _ q)) (zmem lk_B_64) d_B_isInterface_18 ?_
    refine x_iconst (pc := 21) K (v := 1) d_B_isInterface_21 (by decide) ?_
    refine x_icmp_ne (pc := 22) K (tgt := 29) d_B_isInterface_22 (by decide) (fun c22 => ?_) (fun c22 => ?_)
    · skip
      refine x_iconst (pc := 29) K (v := 0) d_B_isInterface_29 (by decide) ?_
      exact x_zret (pc := 30) K (rF (by simp_all [isI])) rfl rfl d_B_isInterface_30
    · skip
      refine x_iconst (pc := 25) K (v := 1) d_B_isInterface_25 (by decide) ?_
      refine x_goto (pc := 26) K (tgt := 30) d_B_isInterface_26 (by decide) ?_
      exact x_zret (pc := 30) K (rT (by simp_all [isI])) rfl rfl d_B_isInterface_30
set_option maxHeartbeats 4000000 in
set_option maxRecDepth 100000 in
theorem c_B_isClass (l : Launch) (w : fl_W) (M : fl_M) (b : Nat) (hB : zSh b = zsB) (o : Nat) (hR : zRf o M.2) (x : Int32) : CT l y_B_isClass w_B_isClass rm_B_isClass w zN [.ref (w.2.2 + b), .int x] M (some (.int (bI (isC M.1 b x)))) M := by
  refine CT.of (cc := b_B_isClass) (own := "CompatibilityJudge$Baseline") (by decide) rfl rfl (Nat.le_of_ble_eq_true rfl) ?_
  intro p9 e9 s9 m9 ag9 bl9 mt9 c9 K
  show XW p9 l e9 (rm_B_isClass) s9 m9 ag9 bl9 mt9 c9 2 0 0 (MQ bl9 (CQ w zN (some (.int (bI (isC M.1 b x)))) M) ag9 s9 0 0 (fun q : Nat => w.2.2 ≤ q)) w zN M 0 [(0, .ref (w.2.2 + b)), (1, .int x)] []
  refine x_iload_n (pc := 0) K 1 d_B_isClass_0 rfl ?_
  refine x_bipush (pc := 1) K (v := 12) d_B_isClass_1 (by decide) ?_
  refine x_callSN (pc := 3) K (As := [.int x, .int 12]) (rest := []) (c_J_isWithin l w M x 12) (zcwSN K.ts K.S.2.1.2.1 sm_J_isWithin ii_J co_J_isWithin pd_J_isWithin ⟨rfl, rfl⟩ ⟨by decide, by decide⟩) rfl rfl (Nat.le_of_ble_eq_true rfl) ⟨Nat.zero_le _, Nat.zero_le _⟩ d_B_isClass_3 ?_
  refine x_ifeqB (pc := 6) K (tgt := 37) d_B_isClass_6 (by decide) (fun c6 => ?_) (fun c6 => ?_)
  · skip
    refine x_iconst (pc := 37) K (v := 0) d_B_isClass_37 (by decide) ?_
    exact x_zret (pc := 38) K (rF (fun q => c6 q.1)) rfl rfl d_B_isClass_38
  · skip
    have hx := ix_of 12 (by omega) c6.1 c6.2
    refine x_aload_n (pc := 9) K 0 d_B_isClass_9 rfl ?_
    refine x_getr (pc := 10) K (n := b) (n' := b + 1) (k := 0) (zlt hB) hB rfl (hR.Ba hB) rfl (by decide) (fun _ q => zmem (uw_B _ q)) (zmem lk_B_11) d_B_isClass_10 ?_
    refine x_iload_n (pc := 13) K 1 d_B_isClass_13 rfl ?_
    refine x_aald (pc := 14) K (n := b + 1) (n' := b + 2 + 11 * (ix x)) (j := ix x) hx.1 hx.2 (hR.Bt hB hx.2) (zlt (shBa hB)) (shBa hB) rfl (by decide) d_B_isClass_14 ?_
    refine x_geti (pc := 15) K (n := b + 2 + 11 * (ix x)) (k := 0) (zlt (shBt hB hx.2)) (shBt hB hx.2) rfl rfl (by decide) (fun _ q => zmem (uw_T _ q)) (zmem lk_B_26) d_B_isClass_15 ?_
    refine x_if_eq (pc := 18) K (tgt := 37) d_B_isClass_18 (by decide) (fun c18 => ?_) (fun c18 => ?_)
    · skip
      refine x_iconst (pc := 37) K (v := 0) d_B_isClass_37 (by decide) ?_
      exact x_zret (pc := 38) K (rF (fun q => q.2.1 c18)) rfl rfl d_B_isClass_38
    · skip
      refine x_aload_n (pc := 21) K 0 d_B_isClass_21 rfl ?_
      refine x_getr (pc := 22) K (n := b) (n' := b + 1) (k := 0) (zlt hB) hB rfl (hR.Ba hB) rfl (by decide) (fun _ q => zmem (uw_B _ q)) (zmem lk_B_11) d_B_isClass_22 ?_
      refine x_iload_n (pc := 25) K 1 d_B_isClass_25 rfl ?_
      refine x_aald (pc := 26) K (n := b + 1) (n' := b + 2 + 11 * (ix x)) (j := ix x) hx.1 hx.2 (hR.Bt hB hx.2) (zlt (shBa hB)) (shBa hB) rfl (by decide) d_B_isClass_26 ?_
      refine x_geti (pc := 27) K (n := b + 2 + 11 * (ix x)) (k := 1) (zlt (shBt hB hx.2)) (shBt hB hx.2) rfl rfl (by decide) (fun _ q => zmem (uw_T _ q)) (zmem lk_B_64) d_B_isClass_27 ?_
      refine x_if_ne (pc := 30) K (tgt := 37) d_B_isClass_30 (by decide) (fun c30 => ?_) (fun c30 => ?_)
      · skip
        refine x_iconst (pc := 37) K (v := 0) d_B_isClass_37 (by decide) ?_
        exact x_zret (pc := 38) K (rF (fun q => c30 q.2.2)) rfl rfl d_B_isClass_38
      · skip
        refine x_iconst (pc := 33) K (v := 1) d_B_isClass_33 (by decide) ?_
        refine x_goto (pc := 34) K (tgt := 38) d_B_isClass_34 (by decide) ?_
        exact x_zret (pc := 38) K (rT (⟨c6, c18, c30⟩)) rfl rfl d_B_isClass_38
def gt0 (μ : Nat → Nat → Int32) (b n : Nat) : Int32 := if μ n 8 = -1 then 0 else 1 <<< (μ n 8 &&& 31) ||| μ (tn b (μ n 8)) 9
def gth (μ : Nat → Nat → Int32) (b n : Nat) : Nat → Nat → Int32 → Int32
  | _, 0, a => a
  | i, k + 1, a => gth μ b n (i + 1) k (if isI μ b (μ (n + 1) i) then (a ||| 1 <<< (μ (n + 1) i &&& 31)) ||| μ (tn b (μ (n + 1) i)) 9 else a)
def gat (μ : Nat → Nat → Int32) (b n : Nat) : Int32 := gth μ b n 0 (cI μ n) (gt0 μ b n)
set_option maxHeartbeats 4000000 in
set_option maxRecDepth 100000 in
theorem lp_B_gather (l : Launch) (w : fl_W) (M : fl_M) (b : Nat) (hB : zSh b = zsB) (o : Nat) (hR : zRf o M.2) (n : Nat) (hT : zSh n = zsT) (hok : tOk M.1 n) (hi12 : ∀ i, i < cI M.1 n → inL 12 (M.1 (n + 1) i)) (F : Int32) {p9 : Program} {e9 : Env} {s9 : State} {m9 : MethodId} {ag9 : Array Value} {bl9 : List Frame} {mt9 : Method} {c9 : Code} (K : XC p9 s9 m9 ag9 mt9 c9 b_B_gatherSupertypes 5 (some .int) w_B_gatherSupertypes "CompatibilityJudge$Baseline" w) : ∀ (k : Nat) (i : Nat) (a : Int32), i ≤ cI M.1 n → cI M.1 n + 1 ≤ i + k → gth M.1 b n i (cI M.1 n - i) a = F → XW p9 l e9 (rm_B_gatherSupertypes) s9 m9 ag9 bl9 mt9 c9 5 0 0 (MQ bl9 (CQ w zN (some (.int F)) M) ag9 s9 0 0 (fun q : Nat => w.2.2 ≤ q)) w zN M 32 [(3, .int (nI i)), (2, .int a), (0, .ref (w.2.2 + b)), (1, .ref (w.2.2 + n))] [] := by
  have h3 := hok.1.2
  intro k
  induction k with
  | zero =>
    intro i a hi hk
    exact absurd hk (by omega)
  | succ k ih =>
    intro i a hi hk hf
    refine x_iload_n (pc := 32) K 0 d_B_gatherSupertypes_32 rfl ?_
    refine x_aload_n (pc := 33) K 3 d_B_gatherSupertypes_33 rfl ?_
    refine x_geti (pc := 34) K (n := n) (k := 5) (zlt hT) hT rfl rfl (by decide) (fun _ q => zmem (uw_T _ q)) (zmem lk_B_51) d_B_gatherSupertypes_34 ?_
    refine x_eqi (y := nI (cI M.1 n)) (hok.1.1) ?_
    refine x_icmp_ge (pc := 37) K (tgt := 81) d_B_gatherSupertypes_37 (by decide) (fun c37 => ?_) (fun c37 => ?_)
    · skip
      have hic : i = cI M.1 n := by have := (nI_leI (by omega) (by omega)).mp c37; omega
      rw [hic, Nat.sub_self] at hf
      refine x_iload_n (pc := 81) K 1 d_B_gatherSupertypes_81 rfl ?_
      exact x_iret (pc := 82) K (by rw [← hf]; rfl) (rfl) d_B_gatherSupertypes_82
    · skip
      have hic : i < cI M.1 n := Nat.not_le.mp (fun q => c37 (nI_le q (by omega)))
      rw [show cI M.1 n - i = (cI M.1 n - (i + 1)) + 1 by omega, gth] at hf
      have hx := hi12 i hic
      refine x_aload_n (pc := 40) K 3 d_B_gatherSupertypes_40 rfl ?_
      refine x_getr (pc := 41) K (n := n) (n' := n + 1) (k := 4) (zlt hT) hT rfl (hR.Ti hT) rfl (by decide) (fun _ q => zmem (uw_T _ q)) (zmem lk_B_54) d_B_gatherSupertypes_41 ?_
      refine x_iload_n (pc := 44) K 0 d_B_gatherSupertypes_44 rfl ?_
      refine x_iald (pc := 45) K (n := n + 1) (j := i) rfl (by omega) (zlt (shTi hT)) (shTi hT) rfl (by decide) d_B_gatherSupertypes_45 ?_
      refine x_istore (pc := 46) K (lv' := [(4, .int (M.1 (n + 1) i)), (3, .int (nI i)), (2, .int a), (0, .ref (w.2.2 + b)), (1, .ref (w.2.2 + n))]) d_B_gatherSupertypes_46 (by decide) rfl ?_
      refine x_aload_n (pc := 48) K 3 d_B_gatherSupertypes_48 rfl ?_
      refine x_iload (pc := 49) K 0 d_B_gatherSupertypes_49 rfl ?_
      refine x_callV (pc := 51) K (As := [.int (M.1 (n + 1) i)]) (rest := []) (c_B_isInterface l w M b hB o hR (M.1 (n + 1) i) hx) (zcwV K.ts lk_B_57 im_B_isInterface se_B_isInterface ii_B co_B_isInterface pd_B_isInterface ⟨rfl, rfl⟩ ⟨by decide, by decide⟩) (zlt hB) hB rfl rfl rfl (Nat.le_of_ble_eq_true rfl) ⟨Nat.zero_le _, Nat.zero_le _⟩ d_B_gatherSupertypes_51 ?_
      refine x_ifeqB (pc := 54) K (tgt := 75) d_B_gatherSupertypes_54 (by decide) (fun c54 => ?_) (fun c54 => ?_)
      · skip
        rw [if_neg c54] at hf
        refine x_iinc (pc := 75) K (v := nI (i + 1)) (lv' := [(3, .int (nI (i + 1))), (4, .int (M.1 (n + 1) i)), (2, .int a), (0, .ref (w.2.2 + b)), (1, .ref (w.2.2 + n))]) 1 d_B_gatherSupertypes_75 rfl (nI_1 _) (by decide) rfl ?_
        refine x_goto (pc := 78) K (tgt := 32) d_B_gatherSupertypes_78 (by decide) ?_
        refine x_lv [0, 2, 3, 4] rfl ?_
        exact ih (i + 1) _ (by omega) (by omega) hf
      · skip
        rw [if_pos c54] at hf
        refine x_iload_n (pc := 57) K 2 d_B_gatherSupertypes_57 rfl ?_
        refine x_iconst (pc := 58) K (v := 1) d_B_gatherSupertypes_58 (by decide) ?_
        refine x_iload (pc := 59) K 0 d_B_gatherSupertypes_59 rfl ?_
        refine x_ishl (pc := 61) K d_B_gatherSupertypes_61 ?_
        refine x_ior (pc := 62) K d_B_gatherSupertypes_62 ?_
        refine x_aload_n (pc := 63) K 3 d_B_gatherSupertypes_63 rfl ?_
        refine x_getr (pc := 64) K (n := b) (n' := b + 1) (k := 0) (zlt hB) hB rfl (hR.Ba hB) rfl (by decide) (fun _ q => zmem (uw_B _ q)) (zmem lk_B_11) d_B_gatherSupertypes_64 ?_
        refine x_iload (pc := 67) K 0 d_B_gatherSupertypes_67 rfl ?_
        refine x_aald (pc := 69) K (n := b + 1) (n' := b + 2 + 11 * (ix (M.1 (n + 1) i))) (j := ix (M.1 (n + 1) i)) hx.1 hx.2 (hR.Bt hB hx.2) (zlt (shBa hB)) (shBa hB) rfl (by decide) d_B_gatherSupertypes_69 ?_
        refine x_geti (pc := 70) K (n := b + 2 + 11 * (ix (M.1 (n + 1) i))) (k := 9) (zlt (shBt hB hx.2)) (shBt hB hx.2) rfl rfl (by decide) (fun _ q => zmem (uw_T _ q)) (zmem lk_B_48) d_B_gatherSupertypes_70 ?_
        refine x_ior (pc := 73) K d_B_gatherSupertypes_73 ?_
        refine x_istore_n (pc := 74) K (lv' := [(2, .int ((a ||| (1 <<< ((M.1 (n + 1) i) &&& 31))) ||| (M.1 (b + 2 + 11 * (ix (M.1 (n + 1) i))) 9))), (4, .int (M.1 (n + 1) i)), (3, .int (nI i)), (0, .ref (w.2.2 + b)), (1, .ref (w.2.2 + n))]) d_B_gatherSupertypes_74 (by decide) rfl ?_
        refine x_iinc (pc := 75) K (v := nI (i + 1)) (lv' := [(3, .int (nI (i + 1))), (2, .int ((a ||| (1 <<< ((M.1 (n + 1) i) &&& 31))) ||| (M.1 (b + 2 + 11 * (ix (M.1 (n + 1) i))) 9))), (4, .int (M.1 (n + 1) i)), (0, .ref (w.2.2 + b)), (1, .ref (w.2.2 + n))]) 2 d_B_gatherSupertypes_75 rfl (nI_1 _) (by decide) rfl ?_
        refine x_goto (pc := 78) K (tgt := 32) d_B_gatherSupertypes_78 (by decide) ?_
        refine x_lv [0, 1, 3, 4] rfl ?_
        exact ih (i + 1) _ (by omega) (by omega) hf
set_option maxHeartbeats 4000000 in
set_option maxRecDepth 100000 in
theorem c_B_gatherSupertypes (l : Launch) (w : fl_W) (M : fl_M) (b : Nat) (hB : zSh b = zsB) (o : Nat) (hR : zRf o M.2) (n : Nat) (hT : zSh n = zsT) (hok : tOk M.1 n) (hi12 : ∀ i, i < cI M.1 n → inL 12 (M.1 (n + 1) i)) (hs : M.1 n 8 = -1 ∨ inL 12 (M.1 n 8)) : CT l y_B_gatherSupertypes w_B_gatherSupertypes rm_B_gatherSupertypes w zN [.ref (w.2.2 + b), .ref (w.2.2 + n)] M (some (.int (gat M.1 b n))) M := by
  refine CT.of (cc := b_B_gatherSupertypes) (own := "CompatibilityJudge$Baseline") (by decide) rfl rfl (Nat.le_of_ble_eq_true rfl) ?_
  intro p9 e9 s9 m9 ag9 bl9 mt9 c9 K
  show XW p9 l e9 (rm_B_gatherSupertypes) s9 m9 ag9 bl9 mt9 c9 5 0 0 (MQ bl9 (CQ w zN (some (.int (gat M.1 b n))) M) ag9 s9 0 0 (fun q : Nat => w.2.2 ≤ q)) w zN M 0 [(0, .ref (w.2.2 + b)), (1, .ref (w.2.2 + n))] []
  refine x_iconst (pc := 0) K (v := 0) d_B_gatherSupertypes_0 (by decide) ?_
  refine x_istore_n (pc := 1) K (lv' := [(2, .int 0), (0, .ref (w.2.2 + b)), (1, .ref (w.2.2 + n))]) d_B_gatherSupertypes_1 (by decide) rfl ?_
  refine x_aload_n (pc := 2) K 2 d_B_gatherSupertypes_2 rfl ?_
  refine x_geti (pc := 3) K (n := n) (k := 8) (zlt hT) hT rfl rfl (by decide) (fun _ q => zmem (uw_T _ q)) (zmem lk_B_41) d_B_gatherSupertypes_3 ?_
  refine x_iconst (pc := 6) K (v := (-1)) d_B_gatherSupertypes_6 (by decide) ?_
  refine x_icmp_eq (pc := 7) K (tgt := 30) d_B_gatherSupertypes_7 (by decide) (fun c7 => ?_) (fun c7 => ?_)
  · skip
    have hg : gt0 M.1 b n = 0 := if_pos c7
    refine x_iconst (pc := 30) K (v := nI 0) d_B_gatherSupertypes_30 (by decide) ?_
    refine x_istore_n (pc := 31) K (lv' := [(3, .int (nI 0)), (2, .int 0), (0, .ref (w.2.2 + b)), (1, .ref (w.2.2 + n))]) d_B_gatherSupertypes_31 (by decide) rfl ?_
    refine x_lv [0, 1, 2, 3] rfl ?_
    exact lp_B_gather l w M b hB o hR n hT hok hi12 _ K (cI M.1 n + 1) 0 _ (by omega) (by omega) (by rw [Nat.sub_zero, ← hg]; rfl)
  · skip
    have hg : gt0 M.1 b n = 1 <<< (M.1 n 8 &&& 31) ||| M.1 (tn b (M.1 n 8)) 9 := if_neg c7
    have hs9 := hs.resolve_left c7
    refine x_iconst (pc := 10) K (v := 1) d_B_gatherSupertypes_10 (by decide) ?_
    refine x_aload_n (pc := 11) K 2 d_B_gatherSupertypes_11 rfl ?_
    refine x_geti (pc := 12) K (n := n) (k := 8) (zlt hT) hT rfl rfl (by decide) (fun _ q => zmem (uw_T _ q)) (zmem lk_B_41) d_B_gatherSupertypes_12 ?_
    refine x_ishl (pc := 15) K d_B_gatherSupertypes_15 ?_
    refine x_aload_n (pc := 16) K 1 d_B_gatherSupertypes_16 rfl ?_
    refine x_getr (pc := 17) K (n := b) (n' := b + 1) (k := 0) (zlt hB) hB rfl (hR.Ba hB) rfl (by decide) (fun _ q => zmem (uw_B _ q)) (zmem lk_B_11) d_B_gatherSupertypes_17 ?_
    refine x_aload_n (pc := 20) K 2 d_B_gatherSupertypes_20 rfl ?_
    refine x_geti (pc := 21) K (n := n) (k := 8) (zlt hT) hT rfl rfl (by decide) (fun _ q => zmem (uw_T _ q)) (zmem lk_B_41) d_B_gatherSupertypes_21 ?_
    refine x_aald (pc := 24) K (n := b + 1) (n' := b + 2 + 11 * (ix (M.1 n 8))) (j := ix (M.1 n 8)) hs9.1 hs9.2 (hR.Bt hB hs9.2) (zlt (shBa hB)) (shBa hB) rfl (by decide) d_B_gatherSupertypes_24 ?_
    refine x_geti (pc := 25) K (n := b + 2 + 11 * (ix (M.1 n 8))) (k := 9) (zlt (shBt hB hs9.2)) (shBt hB hs9.2) rfl rfl (by decide) (fun _ q => zmem (uw_T _ q)) (zmem lk_B_48) d_B_gatherSupertypes_25 ?_
    refine x_ior (pc := 28) K d_B_gatherSupertypes_28 ?_
    refine x_istore_n (pc := 29) K (lv' := [(2, .int ((1 <<< ((M.1 n 8) &&& 31)) ||| (M.1 (b + 2 + 11 * (ix (M.1 n 8))) 9))), (0, .ref (w.2.2 + b)), (1, .ref (w.2.2 + n))]) d_B_gatherSupertypes_29 (by decide) rfl ?_
    refine x_iconst (pc := 30) K (v := nI 0) d_B_gatherSupertypes_30 (by decide) ?_
    refine x_istore_n (pc := 31) K (lv' := [(3, .int (nI 0)), (2, .int ((1 <<< ((M.1 n 8) &&& 31)) ||| (M.1 (b + 2 + 11 * (ix (M.1 n 8))) 9))), (0, .ref (w.2.2 + b)), (1, .ref (w.2.2 + n))]) d_B_gatherSupertypes_31 (by decide) rfl ?_
    refine x_lv [0, 1, 2, 3] rfl ?_
    exact lp_B_gather l w M b hB o hR n hT hok hi12 _ K (cI M.1 n + 1) 0 _ (by omega) (by omega) (by rw [Nat.sub_zero, ← hg]; rfl)
/-- one type settled -/
def stS (M : fl_M) (b t : Nat) : fl_M := wI (wI M (b + 2 + 11 * t) 8 (if isC M.1 b (M.1 (b + 2 + 11 * t) 3) then M.1 (b + 2 + 11 * t) 3 else -1)) (b + 2 + 11 * t) 9 (gat (wI M (b + 2 + 11 * t) 8 (if isC M.1 b (M.1 (b + 2 + 11 * t) 3) then M.1 (b + 2 + 11 * t) 3 else -1)).1 b (b + 2 + 11 * t))
def stl (M : fl_M) (b : Nat) : Nat → Nat → fl_M
  | _, 0 => M
  | t, k + 1 => stl (stS M b t) b (t + 1) k
theorem neTt {a b : Nat} (h : zSh a = zsT) (h2 : zSh b = zsT) : a + 1 ≠ b := fun q => neTI h2 h q.symm
/-- only the settled words of types change -/
theorem bOk_w {M : fl_M} {b n k : Nat} {v : Int32} (hB : zSh b = zsB) (hT : zSh n = zsT) (hk : k = 8 ∨ k = 9) (h : bOk M.1 b) : bOk (wI M n k v).1 b := by
  intro t ht
  have hTt := shBt hB ht
  obtain ⟨⟨⟨a1, a2⟩, a3, a4⟩, a5, a6, a7⟩ := h t ht
  have e : ∀ j, j ≠ 8 → j ≠ 9 → (wI M n k v).1 (b + 2 + 11 * t) j = M.1 (b + 2 + 11 * t) j := fun j h1 h2 => rdI_ne (Or.inr (by omega))
  have e1 : ∀ j, (wI M n k v).1 (b + 2 + 11 * t + 1) j = M.1 (b + 2 + 11 * t + 1) j := fun j => rdI_ne (Or.inl (neTt hTt hT))
  refine ⟨⟨⟨?_, ?_⟩, ?_, ?_⟩, ?_, ?_, ?_⟩
  · unfold cI; rw [e 5 (by omega) (by omega)]; exact a1
  · unfold cI; rw [e 5 (by omega) (by omega)]; exact a2
  · unfold cM; rw [e 7 (by omega) (by omega)]; exact a3
  · unfold cM; rw [e 7 (by omega) (by omega)]; exact a4
  · rw [e 0 (by omega) (by omega)]; exact a5
  · intro i hi
    unfold cI at hi
    rw [e 5 (by omega) (by omega)] at hi
    rw [e1]
    exact a6 i hi
  · rw [e 3 (by omega) (by omega)]; exact a7
theorem tOk_w {M : fl_M} {n : Nat} {v : Int32} (h : tOk M.1 n) : tOk (wI M n 8 v).1 n := by
  unfold tOk cI cM
  rw [rdI_ne (Or.inr (by omega)), rdI_ne (Or.inr (by omega))]
  exact h
set_option maxHeartbeats 4000000 in
set_option maxRecDepth 100000 in
theorem lp_B_settle (l : Launch) (w : fl_W) (M : fl_M) (b : Nat) (hB : zSh b = zsB) (o : Nat) (Y : fl_M) {p9 : Program} {e9 : Env} {s9 : State} {m9 : MethodId} {ag9 : Array Value} {bl9 : List Frame} {mt9 : Method} {c9 : Code} (K : XC p9 s9 m9 ag9 mt9 c9 b_B_settle 2 none w_B_settle "CompatibilityJudge$Baseline" w) : ∀ (k : Nat) (i : Nat) (X : fl_M), i ≤ 12 → 12 + 1 ≤ i + k → zRf o X.2 → bOk X.1 b → stl X b i (12 - i) = Y → XW p9 l e9 (rm_B_settle) s9 m9 ag9 bl9 mt9 c9 2 0 0 (MQ bl9 (CQ w zN none Y) ag9 s9 0 0 (fun q : Nat => w.2.2 ≤ q)) w zN X 2 [(1, .int (nI i)), (0, .ref (w.2.2 + b))] [] := by
  intro k
  induction k with
  | zero =>
    intro i X hi hk
    exact absurd hk (by omega)
  | succ k ih =>
    intro i X hi hk hR hb hf
    refine x_iload_n (pc := 2) K 0 d_B_settle_2 rfl ?_
    refine x_bipush (pc := 3) K (v := nI 12) d_B_settle_3 (by decide) ?_
    refine x_icmp_ge (pc := 5) K (tgt := 71) d_B_settle_5 (by decide) (fun c5 => ?_) (fun c5 => ?_)
    · skip
      have hic : i = 12 := by have := (nI_leI (a := 12) (by omega) (by omega)).mp c5; omega
      rw [hic, Nat.sub_self] at hf
      exact x_vret (pc := 71) K rfl (by rw [← hf]; rfl) d_B_settle_71
    · skip
      have hic : i < 12 := Nat.not_le.mp (fun q => c5 (nI_le (a := 12) q (by omega)))
      rw [show 12 - i = (12 - (i + 1)) + 1 by omega, stl] at hf
      have hTi := shBt hB hic
      refine x_aload_n (pc := 8) K 1 d_B_settle_8 rfl ?_
      refine x_getr (pc := 9) K (n := b) (n' := b + 1) (k := 0) (zlt hB) hB rfl (hR.Ba hB) rfl (by decide) (fun _ q => zmem (uw_B _ q)) (zmem lk_B_11) d_B_settle_9 ?_
      refine x_iload_n (pc := 12) K 0 d_B_settle_12 rfl ?_
      refine x_aald (pc := 13) K (n := b + 1) (n' := b + 2 + 11 * i) (j := i) rfl (by omega) (hR.Bt hB (by omega)) (zlt (shBa hB)) (shBa hB) rfl (by decide) d_B_settle_13 ?_
      refine x_aload_n (pc := 14) K 1 d_B_settle_14 rfl ?_
      refine x_aload_n (pc := 15) K 1 d_B_settle_15 rfl ?_
      refine x_getr (pc := 16) K (n := b) (n' := b + 1) (k := 0) (zlt hB) hB rfl (hR.Ba hB) rfl (by decide) (fun _ q => zmem (uw_B _ q)) (zmem lk_B_11) d_B_settle_16 ?_
      refine x_iload_n (pc := 19) K 0 d_B_settle_19 rfl ?_
      refine x_aald (pc := 20) K (n := b + 1) (n' := b + 2 + 11 * i) (j := i) rfl (by omega) (hR.Bt hB (by omega)) (zlt (shBa hB)) (shBa hB) rfl (by decide) d_B_settle_20 ?_
      refine x_geti (pc := 21) K (n := b + 2 + 11 * i) (k := 3) (zlt (shBt hB (by omega))) (shBt hB (by omega)) rfl rfl (by decide) (fun _ q => zmem (uw_T _ q)) (zmem lk_B_34) d_B_settle_21 ?_
      refine x_callV (pc := 24) K (As := [.int (X.1 (b + 2 + 11 * i) 3)]) (rest := [.ref (w.2.2 + (b + 2 + 11 * i))]) (c_B_isClass l w X b hB o hR (X.1 (b + 2 + 11 * i) 3)) (zcwV K.ts lk_B_37 im_B_isClass se_B_isClass ii_B co_B_isClass pd_B_isClass ⟨rfl, rfl⟩ ⟨by decide, by decide⟩) (zlt hB) hB rfl rfl rfl (Nat.le_of_ble_eq_true rfl) ⟨Nat.zero_le _, Nat.zero_le _⟩ d_B_settle_24 ?_
      refine x_ifeqB (pc := 27) K (tgt := 42) d_B_settle_27 (by decide) (fun c27 => ?_) (fun c27 => ?_)
      · skip
        refine x_iconst (pc := 42) K (v := (-1)) d_B_settle_42 (by decide) ?_
        refine x_puti (pc := 43) K (n := b + 2 + 11 * i) (k := 8) (x := (-1)) uY_T tk_T nm_T (zlt (shBt hB (by omega))) (shBt hB (by omega)) rfl rfl (by decide) (fun _ q => zmem (uw_T _ q)) (zmem lk_B_41) rfl rfl rfl d_B_settle_43 ?_
        refine x_aload_n (pc := 46) K 1 d_B_settle_46 rfl ?_
        refine x_getr (pc := 47) K (n := b) (n' := b + 1) (k := 0) (zlt hB) hB rfl (hR.Ba hB) rfl (by decide) (fun _ q => zmem (uw_B _ q)) (zmem lk_B_11) d_B_settle_47 ?_
        refine x_iload_n (pc := 50) K 0 d_B_settle_50 rfl ?_
        refine x_aald (pc := 51) K (n := b + 1) (n' := b + 2 + 11 * i) (j := i) rfl (by omega) (hR.Bt hB (by omega)) (zlt (shBa hB)) (shBa hB) rfl (by decide) d_B_settle_51 ?_
        refine x_aload_n (pc := 52) K 1 d_B_settle_52 rfl ?_
        refine x_aload_n (pc := 53) K 1 d_B_settle_53 rfl ?_
        refine x_getr (pc := 54) K (n := b) (n' := b + 1) (k := 0) (zlt hB) hB rfl (hR.Ba hB) rfl (by decide) (fun _ q => zmem (uw_B _ q)) (zmem lk_B_11) d_B_settle_54 ?_
        refine x_iload_n (pc := 57) K 0 d_B_settle_57 rfl ?_
        refine x_aald (pc := 58) K (n := b + 1) (n' := b + 2 + 11 * i) (j := i) rfl (by omega) (hR.Bt hB (by omega)) (zlt (shBa hB)) (shBa hB) rfl (by decide) d_B_settle_58 ?_
        refine x_callV (pc := 59) K (As := [.ref (w.2.2 + (b + 2 + 11 * i))]) (rest := [.ref (w.2.2 + (b + 2 + 11 * i))]) (c_B_gatherSupertypes l w (wI X (b + 2 + 11 * i) 8 (-1)) b hB o hR (b + 2 + 11 * i) (shBt hB (by omega)) (tOk_w (hb i hic).1) (fun j hj => by rw [rdI_ne (Or.inl (neTt hTi hTi))]; exact inL_le ((hb i hic).2.2.1 j (by unfold cI at hj; rw [rdI_ne (Or.inr (by omega))] at hj; exact hj)) (by omega)) (by rw [rdI_eq]; exact Or.inl rfl)) (zcwV K.ts lk_B_44 im_B_gatherSupertypes se_B_gatherSupertypes ii_B co_B_gatherSupertypes pd_B_gatherSupertypes ⟨rfl, rfl⟩ ⟨by decide, by decide⟩) (zlt hB) hB rfl rfl rfl (Nat.le_of_ble_eq_true rfl) ⟨Nat.zero_le _, Nat.zero_le _⟩ d_B_settle_59 ?_
        refine x_puti (pc := 62) K (n := b + 2 + 11 * i) (k := 9) (x := gat (wI X (b + 2 + 11 * i) 8 (-1)).1 b (b + 2 + 11 * i)) uY_T tk_T nm_T (zlt (shBt hB (by omega))) (shBt hB (by omega)) rfl rfl (by decide) (fun _ q => zmem (uw_T _ q)) (zmem lk_B_48) rfl rfl rfl d_B_settle_62 ?_
        refine x_iinc (pc := 65) K (v := nI (i + 1)) (lv' := [(1, .int (nI (i + 1))), (0, .ref (w.2.2 + b))]) 0 d_B_settle_65 rfl (nI_1 _) (by decide) rfl ?_
        refine x_goto (pc := 68) K (tgt := 2) d_B_settle_68 (by decide) ?_
        rw [show stS X b i = wI (wI X (b + 2 + 11 * i) 8 (-1)) (b + 2 + 11 * i) 9 (gat (wI X (b + 2 + 11 * i) 8 (-1)).1 b (b + 2 + 11 * i)) from by unfold stS; rw [if_neg c27]] at hf
        exact ih (i + 1) _ (by omega) (by omega) hR (bOk_w hB hTi (Or.inr rfl) (bOk_w hB hTi (Or.inl rfl) hb)) hf
      · skip
        have hp9 := (hb i hic).2.2.2.resolve_left (fun q => by rw [q] at c27; exact absurd c27.1.1 (by decide))
        refine x_aload_n (pc := 30) K 1 d_B_settle_30 rfl ?_
        refine x_getr (pc := 31) K (n := b) (n' := b + 1) (k := 0) (zlt hB) hB rfl (hR.Ba hB) rfl (by decide) (fun _ q => zmem (uw_B _ q)) (zmem lk_B_11) d_B_settle_31 ?_
        refine x_iload_n (pc := 34) K 0 d_B_settle_34 rfl ?_
        refine x_aald (pc := 35) K (n := b + 1) (n' := b + 2 + 11 * i) (j := i) rfl (by omega) (hR.Bt hB (by omega)) (zlt (shBa hB)) (shBa hB) rfl (by decide) d_B_settle_35 ?_
        refine x_geti (pc := 36) K (n := b + 2 + 11 * i) (k := 3) (zlt (shBt hB (by omega))) (shBt hB (by omega)) rfl rfl (by decide) (fun _ q => zmem (uw_T _ q)) (zmem lk_B_34) d_B_settle_36 ?_
        refine x_goto (pc := 39) K (tgt := 43) d_B_settle_39 (by decide) ?_
        refine x_puti (pc := 43) K (n := b + 2 + 11 * i) (k := 8) (x := X.1 (b + 2 + 11 * i) 3) uY_T tk_T nm_T (zlt (shBt hB (by omega))) (shBt hB (by omega)) rfl rfl (by decide) (fun _ q => zmem (uw_T _ q)) (zmem lk_B_41) rfl rfl rfl d_B_settle_43 ?_
        refine x_aload_n (pc := 46) K 1 d_B_settle_46 rfl ?_
        refine x_getr (pc := 47) K (n := b) (n' := b + 1) (k := 0) (zlt hB) hB rfl (hR.Ba hB) rfl (by decide) (fun _ q => zmem (uw_B _ q)) (zmem lk_B_11) d_B_settle_47 ?_
        refine x_iload_n (pc := 50) K 0 d_B_settle_50 rfl ?_
        refine x_aald (pc := 51) K (n := b + 1) (n' := b + 2 + 11 * i) (j := i) rfl (by omega) (hR.Bt hB (by omega)) (zlt (shBa hB)) (shBa hB) rfl (by decide) d_B_settle_51 ?_
        refine x_aload_n (pc := 52) K 1 d_B_settle_52 rfl ?_
        refine x_aload_n (pc := 53) K 1 d_B_settle_53 rfl ?_
        refine x_getr (pc := 54) K (n := b) (n' := b + 1) (k := 0) (zlt hB) hB rfl (hR.Ba hB) rfl (by decide) (fun _ q => zmem (uw_B _ q)) (zmem lk_B_11) d_B_settle_54 ?_
        refine x_iload_n (pc := 57) K 0 d_B_settle_57 rfl ?_
        refine x_aald (pc := 58) K (n := b + 1) (n' := b + 2 + 11 * i) (j := i) rfl (by omega) (hR.Bt hB (by omega)) (zlt (shBa hB)) (shBa hB) rfl (by decide) d_B_settle_58 ?_
        refine x_callV (pc := 59) K (As := [.ref (w.2.2 + (b + 2 + 11 * i))]) (rest := [.ref (w.2.2 + (b + 2 + 11 * i))]) (c_B_gatherSupertypes l w (wI X (b + 2 + 11 * i) 8 (X.1 (b + 2 + 11 * i) 3)) b hB o hR (b + 2 + 11 * i) (shBt hB (by omega)) (tOk_w (hb i hic).1) (fun j hj => by rw [rdI_ne (Or.inl (neTt hTi hTi))]; exact inL_le ((hb i hic).2.2.1 j (by unfold cI at hj; rw [rdI_ne (Or.inr (by omega))] at hj; exact hj)) (by omega)) (by rw [rdI_eq]; exact Or.inr (inL_le hp9 (by omega)))) (zcwV K.ts lk_B_44 im_B_gatherSupertypes se_B_gatherSupertypes ii_B co_B_gatherSupertypes pd_B_gatherSupertypes ⟨rfl, rfl⟩ ⟨by decide, by decide⟩) (zlt hB) hB rfl rfl rfl (Nat.le_of_ble_eq_true rfl) ⟨Nat.zero_le _, Nat.zero_le _⟩ d_B_settle_59 ?_
        refine x_puti (pc := 62) K (n := b + 2 + 11 * i) (k := 9) (x := gat (wI X (b + 2 + 11 * i) 8 (X.1 (b + 2 + 11 * i) 3)).1 b (b + 2 + 11 * i)) uY_T tk_T nm_T (zlt (shBt hB (by omega))) (shBt hB (by omega)) rfl rfl (by decide) (fun _ q => zmem (uw_T _ q)) (zmem lk_B_48) rfl rfl rfl d_B_settle_62 ?_
        refine x_iinc (pc := 65) K (v := nI (i + 1)) (lv' := [(1, .int (nI (i + 1))), (0, .ref (w.2.2 + b))]) 0 d_B_settle_65 rfl (nI_1 _) (by decide) rfl ?_
        refine x_goto (pc := 68) K (tgt := 2) d_B_settle_68 (by decide) ?_
        rw [show stS X b i = wI (wI X (b + 2 + 11 * i) 8 (X.1 (b + 2 + 11 * i) 3)) (b + 2 + 11 * i) 9 (gat (wI X (b + 2 + 11 * i) 8 (X.1 (b + 2 + 11 * i) 3)).1 b (b + 2 + 11 * i)) from by unfold stS; rw [if_pos c27]] at hf
        exact ih (i + 1) _ (by omega) (by omega) hR (bOk_w hB hTi (Or.inr rfl) (bOk_w hB hTi (Or.inl rfl) hb)) hf
set_option maxHeartbeats 4000000 in
set_option maxRecDepth 100000 in
theorem c_B_settle (l : Launch) (w : fl_W) (M : fl_M) (b : Nat) (hB : zSh b = zsB) (o : Nat) (hR : zRf o M.2) (hb : bOk M.1 b) : CT l y_B_settle w_B_settle rm_B_settle w zN [.ref (w.2.2 + b)] M none (stl M b 0 12) := by
  refine CT.of (cc := b_B_settle) (own := "CompatibilityJudge$Baseline") (by decide) rfl rfl (Nat.le_of_ble_eq_true rfl) ?_
  intro p9 e9 s9 m9 ag9 bl9 mt9 c9 K
  show XW p9 l e9 (rm_B_settle) s9 m9 ag9 bl9 mt9 c9 2 0 0 (MQ bl9 (CQ w zN none (stl M b 0 12)) ag9 s9 0 0 (fun q : Nat => w.2.2 ≤ q)) w zN M 0 [(0, .ref (w.2.2 + b))] []
  refine x_iconst (pc := 0) K (v := nI 0) d_B_settle_0 (by decide) ?_
  refine x_istore_n (pc := 1) K (lv' := [(1, .int (nI 0)), (0, .ref (w.2.2 + b))]) d_B_settle_1 (by decide) rfl ?_
  exact lp_B_settle l w M b hB o _ K 13 0 M (by omega) (by omega) hR hb rfl
