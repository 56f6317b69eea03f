abbrev rm_M_init : Room := { frames := 1, cells := 0, slots := 0, locals := 12 }
abbrev rm_T_init : Room := { frames := 2, cells := 10, slots := 51, locals := 40 }
abbrev rm_B_init : Room := { frames := 3, cells := 134, slots := 756, locals := 61 }
abbrev rm_C_init : Room := { frames := 1, cells := 4, slots := 1916, locals := 20 }
abbrev rm_J_init : Room := { frames := 4, cells := 277, slots := 3454, locals := 82 }
abbrev rm_R_init : Room := { frames := 1, cells := 16, slots := 1418, locals := 20 }
section XRE
variable {p : Program} {l : Launch} {e : Env} {R : Room} {s : State} {m : MethodId} {args : Array Value} {below : List Frame} {meth : Method} {c : Code} {nL cells slots : Nat} {Q : State → Prop} {w : fl_W} {N : Nat} {M : fl_M} {pc : Nat} {lv : List (Nat × Value)} {st : List Value}
theorem x_re {cells' slots' N' : Nat} {M' : fl_M} (h1 : cells = cells') (h2 : slots = slots') (h3 : N = N') (h4 : M = M') (k : XW p l e R s m args below meth c nL cells' slots' Q w N' M' pc lv st) : XW p l e R s m args below meth c nL cells slots Q w N M pc lv st := by
  subst h1; subst h2; subst h3; subst h4; exact k
theorem zcwI {own : String} {a : Cond} {y : MethodName} {bytes : ByteArray} {maxL index n k ms : Nat} {C : String} {rm : Room} (hts : ∀ t ∈ a :: zG, t.before args s = true) (hl : Cond.methodLink own index y ∈ zG) (hi : Cond.instanceMethod y ∈ zG) (hin : Cond.initialized C ∈ zG) (hco : Cond.code y bytes maxL none ∈ zG) (hyn : y.name = "<init>") (hd : y.cls = C ∧ y.cls ≠ "java/lang/invoke/MethodHandle" ∧ y.cls ≠ "java/lang/invoke/VarHandle" ∧ (parseMethodDescriptor y.desc).map (fun d => d.parameters.length) = some n) (hrc : rm.cells = k ∧ rm.slots = ms) (hR : rm.frames + 1 ≤ R.frames ∧ 8 + (maxL + 11) + rm.locals ≤ R.locals) : CallB R s args own index y bytes maxL none (.code y bytes maxL none :: zG) rm k ms n ∧ y.name = "<init>" ∧ (Cond.instanceMethod y).before args s = true :=
  cwI n hts (zsub hco) rfl hrc.1 hrc.2 (hts _ (by rw [hd.1]; exact zmem hin)) (hts _ (zmem hl)) (hts _ (zmem hi)) hyn hd.2 hR
end XRE
set_option maxHeartbeats 4000000 in
theorem c_M_init (l : Launch) (w : fl_W) (M : fl_M) (N n : Nat) : CN l y_M_init w_M_init rm_M_init w N 0 0 [.ref (w.2.2 + n)] M M := by
  refine CN.of (cc := b_M_init) (own := "CompatibilityJudge$Member") (by decide) rfl rfl rfl (Nat.le_of_ble_eq_true rfl) ?_
  intro p9 e9 s9 m9 ag9 bl9 mt9 c9 K hs0 hmn
  refine x_aload_n (pc := 0) K 0 d_M_init_0 rfl ?_
  refine x_objInit (pc := 1) K (zmem lk_M_3) (zmem im_O_init) (zmem co_O_init) (by decide) (by decide) d_M_init_1 ?_
  exact x_vret (pc := 4) K rfl rfl d_M_init_4
/-- a new type at n: no parent, no superclass; its arrays and members behind it -/
def cTr (M : fl_M) (n i : Nat) : fl_M := (fun a k => M.1 a k, fun a k => if a = n ∧ k = 4 then some (n + 1) else if a = n ∧ k = 6 then some (n + 2) else if a = n + 2 ∧ k < i then some (n + 3 + k) else M.2 a k)
def cT (M : fl_M) (n : Nat) : fl_M := wI (wI (cTr M n 8) n 3 (-1)) n 8 (-1)
theorem cTr_0 {M : fl_M} {n : Nat} : wR (wR M n 4 (some (n + 1))) n 6 (some (n + 2)) = cTr M n 0 := by
  refine Prod.ext rfl ?_
  funext a k
  simp only [wR, cTr, fl_u]
  by_cases h1 : a = n ∧ k = 6
  · rw [if_pos h1, if_neg (by omega), if_pos h1]
  · rw [if_neg h1]
    by_cases h2 : a = n ∧ k = 4
    · rw [if_pos h2, if_pos h2]
    · rw [if_neg h2, if_neg h2, if_neg h1, if_neg (by omega)]
theorem cTr_s {M : fl_M} {n i : Nat} : wR (cTr M n i) (n + 2) i (some (n + 3 + i)) = cTr M n (i + 1) := by
  refine Prod.ext rfl ?_
  funext a k
  simp only [wR, cTr, fl_u]
  by_cases h1 : a = n + 2 ∧ k = i
  · rw [if_pos h1, if_neg (by omega), if_neg (by omega), if_pos (by omega), h1.2]
  · rw [if_neg h1]
    by_cases h2 : a = n ∧ k = 4
    · rw [if_pos h2, if_pos h2]
    · rw [if_neg h2, if_neg h2]
      by_cases h3 : a = n ∧ k = 6
      · rw [if_pos h3, if_pos h3]
      · rw [if_neg h3, if_neg h3]
        by_cases h4 : a = n + 2 ∧ k < i
        · rw [if_pos h4, if_pos (by omega)]
        · rw [if_neg h4, if_neg (by omega)]
theorem hfsM {b : Nat} : ∀ j, j < 5 → defaultValue (uY_M j) = vp_V (fl_fs b (fun _ => 0) (fun _ => none) 0 [false, false, false, false, false]) j := by
  intro j hj
  rcases (show j = 0 ∨ j = 1 ∨ j = 2 ∨ j = 3 ∨ j = 4 by omega) with rfl | rfl | rfl | rfl | rfl <;> rfl
theorem hfsT {b : Nat} : ∀ j, j < 10 → defaultValue (uY_T j) = vp_V (fl_fs b (fun _ => 0) (fun _ => none) 0 [false, false, false, false, true, false, true, false, false, false]) j := by
  intro j hj
  rcases (show j = 0 ∨ j = 1 ∨ j = 2 ∨ j = 3 ∨ j = 4 ∨ j = 5 ∨ j = 6 ∨ j = 7 ∨ j = 8 ∨ j = 9 by omega) with rfl | rfl | rfl | rfl | rfl | rfl | rfl | rfl | rfl | rfl <;> rfl
theorem hfsB {b : Nat} : ∀ j, j < 2 → defaultValue (uY_B j) = vp_V (fl_fs b (fun _ => 0) (fun _ => none) 0 [true, true]) j := by
  intro j hj
  rcases (show j = 0 ∨ j = 1 by omega) with rfl | rfl <;> rfl
theorem hfsC {b : Nat} : ∀ j, j < 6 → defaultValue (uY_C j) = vp_V (fl_fs b (fun _ => 0) (fun _ => none) 0 [true, true, true, false, false, true]) j := by
  intro j hj
  rcases (show j = 0 ∨ j = 1 ∨ j = 2 ∨ j = 3 ∨ j = 4 ∨ j = 5 by omega) with rfl | rfl | rfl | rfl | rfl | rfl <;> rfl
set_option maxHeartbeats 4000000 in
set_option maxRecDepth 100000 in
theorem lp_T_init (l : Launch) (w : fl_W) (M : fl_M) (n : Nat) (hT : zSh n = zsT) (h1 : ∀ a, n ≤ a → M.1 a = fun _ => 0) (h2 : ∀ a, n ≤ a → M.2 a = fun _ => none) {p9 : Program} {e9 : Env} {s9 : State} {m9 : MethodId} {ag9 : Array Value} {bl9 : List Frame} {mt9 : Method} {c9 : Code} (K : XC p9 s9 m9 ag9 mt9 c9 b_T_init 2 none w_T_init "CompatibilityJudge$Type" w) (hs0 : s9.heap.size = w.2.2 + (n + 1)) (hmn : mt9.name = "<init>") : ∀ (k i : Nat), i ≤ 8 → 9 ≤ i + k → XW p9 l e9 rm_T_init s9 m9 ag9 bl9 mt9 c9 2 (2 + i) (11 + 5 * i) (MQ bl9 (CQ w (n + 1 + 10) none (cT M n)) ag9 s9 10 51 (fun q : Nat => w.2.2 ≤ q)) w (n + 3 + i) (cTr M n i) 22 [(1, .int (nI i)), (0, .ref (w.2.2 + n))] [] := by
  intro k
  induction k with
  | zero =>
    intro i hi hk
    exact absurd hk (by omega)
  | succ k ih =>
    intro i hi hk
    refine x_iload_n (pc := 22) K 0 d_T_init_22 rfl ?_
    refine x_bipush (pc := 23) K (v := nI 8) d_T_init_23 (by decide) ?_
    refine x_icmp_ge (pc := 25) K (tgt := 47) d_T_init_25 (by decide) (fun c25 => ?_) (fun c25 => ?_)
    · have hic : i = 8 := by have := (nI_leI (a := 8) (by omega) (by omega)).mp c25; omega
      subst hic
      refine x_aload_n (pc := 47) K 1 d_T_init_47 rfl ?_
      refine x_iconst (pc := 48) K (v := (-1)) d_T_init_48 (by decide) ?_
      refine x_puti (pc := 49) K (n := n) (k := 3) (x := (-1)) uY_T tk_T nm_T (by omega) hT rfl rfl (by decide) (fun _ q => zmem (uw_T _ q)) (zmem lk_T_22) rfl rfl rfl d_T_init_49 ?_
      refine x_aload_n (pc := 52) K 1 d_T_init_52 rfl ?_
      refine x_iconst (pc := 53) K (v := (-1)) d_T_init_53 (by decide) ?_
      refine x_puti (pc := 54) K (n := n) (k := 8) (x := (-1)) uY_T tk_T nm_T (by omega) hT rfl rfl (by decide) (fun _ q => zmem (uw_T _ q)) (zmem lk_T_26) rfl rfl rfl d_T_init_54 ?_
      exact x_vret (pc := 57) K rfl rfl d_T_init_57
    · have hic : i < 8 := Nat.not_le.mp (fun q => c25 (nI_le (a := 8) q (by omega)))
      refine x_aload_n (pc := 28) K 1 d_T_init_28 rfl ?_
      refine x_getr (pc := 29) K (n := n) (n' := n + 2) (k := 6) (by omega) hT rfl (by simp [cTr]) rfl (by decide) (fun _ q => zmem (uw_T _ q)) (zmem lk_T_17) d_T_init_29 ?_
      refine x_iload_n (pc := 32) K 0 d_T_init_32 rfl ?_
      refine x_new (pc := 33) K uY_M tk_M (by omega) (Or.inl (by omega)) (shTm hT hic) (h1 _ (by omega)) (show (cTr M n i).2 (n + 3 + i) = fun _ => none from by funext k9; simp only [cTr]; rw [if_neg (by omega), if_neg (by omega), if_neg (by omega), h2 _ (by omega)]) rfl (fun _ q => zmem (uw_M _ q)) (zmem lk_T_15) (zmem in_M) (zmem ii_M) hfsM (show 2 + i + 1 ≤ 10 by omega) (show 11 + 5 * i + 5 ≤ 51 by omega) d_T_init_33 ?_
      refine x_dup (pc := 36) K d_T_init_36 rfl ?_
      refine x_callIN (pc := 37) K (n0 := n + 3 + i) (c_M_init l w _ _ _) ⟨va_cnB 0 K.ts (zsub co_M_init) rfl rfl rfl K.S.2.1.1 (K.ts _ (zmem ii_M)) pd_M_init.2 ⟨by decide, by decide⟩, rfl, K.ts _ (zmem im_M_init)⟩ (by omega) (by omega) (Nat.le_of_ble_eq_true rfl) ⟨show 2 + i + 1 + 0 ≤ 10 by omega, show 11 + 5 * i + 5 + 0 ≤ 51 by omega⟩ d_T_init_37 ?_
      refine x_aast (pc := 40) K (n := n + 2) (n' := n + 3 + i) (j := i) rfl hic (by omega) (shTa hT) rfl (by omega) (shTm hT hic) rfl (by decide) d_T_init_40 ?_
      refine x_iinc (pc := 41) K (v := nI (i + 1)) (lv' := [(1, .int (nI (i + 1))), (0, .ref (w.2.2 + n))]) 0 d_T_init_41 rfl (nI_1 _) (by decide) rfl ?_
      refine x_goto (pc := 44) K (tgt := 22) d_T_init_44 (by decide) ?_
      refine x_re (cells' := 2 + (i + 1)) (slots' := 11 + 5 * (i + 1)) (N' := n + 3 + (i + 1)) (by omega) (by omega) (by omega) cTr_s ?_
      exact ih (i + 1) (by omega) (by omega)
set_option maxHeartbeats 4000000 in
set_option maxRecDepth 100000 in
theorem c_T_init (l : Launch) (w : fl_W) (M : fl_M) (n : Nat) (hT : zSh n = zsT) (h1 : ∀ a, n ≤ a → M.1 a = fun _ => 0) (h2 : ∀ a, n ≤ a → M.2 a = fun _ => none) : CN l y_T_init w_T_init rm_T_init w (n + 1) 10 51 [.ref (w.2.2 + n)] M (cT M n) := by
  refine CN.of (cc := b_T_init) (own := "CompatibilityJudge$Type") (by decide) rfl rfl rfl (Nat.le_of_ble_eq_true rfl) ?_
  intro p9 e9 s9 m9 ag9 bl9 mt9 c9 K hs0 hmn
  refine x_aload_n (pc := 0) K 0 d_T_init_0 rfl ?_
  refine x_objInit (pc := 1) K (zmem lk_T_3) (zmem im_O_init) (zmem co_O_init) (by decide) (by decide) d_T_init_1 ?_
  refine x_aload_n (pc := 4) K 0 d_T_init_4 rfl ?_
  refine x_iconst (pc := 5) K (v := nI 3) d_T_init_5 (by decide) ?_
  refine x_newi (pc := 6) K (t := 0) (n9 := 3) (ty := .int) (by omega) (Or.inl (by omega)) (shTi hT) (h1 _ (by omega)) rfl rfl rfl (fun _ _ h => h) (zmem ac_int) (by decide) (by decide) (by decide) (Nat.le_of_ble_eq_true rfl) (Nat.le_of_ble_eq_true rfl) d_T_init_6 ?_
  refine x_putF (pc := 8) K (n := n) (n' := n + 1) (k := 4) uY_T tk_T nm_T (by omega) hT rfl rfl (by decide) (fun _ q => zmem (uw_T _ q)) (zmem lk_T_9) rfl hmn rfl rfl rfl d_T_init_8 ?_
  refine x_aload_n (pc := 11) K 0 d_T_init_11 rfl ?_
  refine x_bipush (pc := 12) K (v := nI 8) d_T_init_12 (by decide) ?_
  refine x_anew (pc := 14) K (t := 4) (n9 := 8) (by omega) (Or.inl (by omega)) (shTa hT) (show (wR M n 4 (some (n + 1))).2 (n + 1 + 1) = fun _ => none from by funext k9; exact rdR_ne (by omega) (congrFun (h2 _ (by omega)) k9)) rfl (zmem lk_T_15) K.S.2.2.2.2 (by decide) (by decide) (by decide) (Nat.le_of_ble_eq_true rfl) (Nat.le_of_ble_eq_true rfl) d_T_init_14 ?_
  refine x_putF (pc := 17) K (n := n) (n' := n + 2) (k := 6) uY_T tk_T nm_T (by omega) hT rfl rfl (by decide) (fun _ q => zmem (uw_T _ q)) (zmem lk_T_17) rfl hmn rfl rfl rfl d_T_init_17 ?_
  refine x_iconst (pc := 20) K (v := nI 0) d_T_init_20 (by decide) ?_
  refine x_istore_n (pc := 21) K (lv' := [(1, .int (nI 0)), (0, .ref (w.2.2 + n))]) d_T_init_21 (by decide) rfl ?_
  refine x_re (cells' := 2 + 0) (slots' := 11 + 5 * 0) (N' := n + 3 + 0) (by omega) (by omega) (by omega) cTr_0 ?_
  exact lp_T_init l w M n hT h1 h2 K hs0 hmn 9 0 (by omega) (by omega)
/-- the first i types of a new baseline at b are there -/
def cBi (M : fl_M) (b : Nat) : Nat → fl_M
  | 0 => wR M b 0 (some (b + 1))
  | i + 1 => wR (cT (cBi M b i) (b + 2 + 11 * i)) (b + 1) i (some (b + 2 + 11 * i))
def cB (M : fl_M) (b : Nat) : fl_M := wR (cBi M b 12) b 1 (some (b + 134))
theorem cT_1 {M : fl_M} {n a : Nat} (h : a ≠ n) : (cT M n).1 a = M.1 a := by
  funext k
  show (wI (wI (cTr M n 8) n 3 (-1)) n 8 (-1)).1 a k = M.1 a k
  rw [rdI_ne (Or.inl h), rdI_ne (Or.inl h)]; rfl
theorem cT_2 {M : fl_M} {n a : Nat} (h : a ≠ n) (h2 : a ≠ n + 2) : (cT M n).2 a = M.2 a := by
  funext k
  show (cTr M n 8).2 a k = M.2 a k
  simp only [cTr]
  rw [if_neg (by omega), if_neg (by omega), if_neg (by omega)]
theorem cBi_1 {M : fl_M} {b : Nat} : ∀ (i a : Nat), b + 2 + 11 * i ≤ a → (cBi M b i).1 a = M.1 a := by
  intro i
  induction i with
  | zero => intro a h; rfl
  | succ i ih =>
    intro a h
    show (cT (cBi M b i) (b + 2 + 11 * i)).1 a = M.1 a
    rw [cT_1 (by omega), ih a (by omega)]
theorem cBi_2 {M : fl_M} {b : Nat} : ∀ (i a : Nat), b + 2 + 11 * i ≤ a → (cBi M b i).2 a = M.2 a := by
  intro i
  induction i with
  | zero => intro a h; exact fl_u_row (by omega)
  | succ i ih =>
    intro a h
    show fl_u (cT (cBi M b i) (b + 2 + 11 * i)).2 (b + 1) i _ a = M.2 a
    rw [fl_u_row (by omega), cT_2 (by omega) (by omega), ih a (by omega)]
theorem cBi_b {M : fl_M} {b : Nat} : ∀ (i : Nat), (cBi M b i).2 b 0 = some (b + 1) := by
  intro i
  induction i with
  | zero => exact fl_u_self
  | succ i ih =>
    show fl_u (cT (cBi M b i) (b + 2 + 11 * i)).2 (b + 1) i _ b 0 = some (b + 1)
    rw [fl_u_row (by omega), cT_2 (by omega) (by omega), ih]
set_option maxHeartbeats 4000000 in
set_option maxRecDepth 100000 in
theorem lp_B_init (l : Launch) (w : fl_W) (M : fl_M) (b : Nat) (hB : zSh b = zsB) (h1 : ∀ a, b ≤ a → M.1 a = fun _ => 0) (h2 : ∀ a, b ≤ a → M.2 a = fun _ => none) {p9 : Program} {e9 : Env} {s9 : State} {m9 : MethodId} {ag9 : Array Value} {bl9 : List Frame} {mt9 : Method} {c9 : Code} (K : XC p9 s9 m9 ag9 mt9 c9 b_B_init 2 none w_B_init "CompatibilityJudge$Baseline" w) (hs0 : s9.heap.size = w.2.2 + (b + 1)) (hmn : mt9.name = "<init>") : ∀ (k i : Nat), i ≤ 12 → 13 ≤ i + k → XW p9 l e9 rm_B_init s9 m9 ag9 bl9 mt9 c9 2 (1 + 11 * i) (12 + 61 * i) (MQ bl9 (CQ w (b + 1 + 134) none (cB M b)) ag9 s9 134 756 (fun q : Nat => w.2.2 ≤ q)) w (b + 2 + 11 * i) (cBi M b i) 15 [(1, .int (nI i)), (0, .ref (w.2.2 + b))] [] := by
  intro k
  induction k with
  | zero =>
    intro i hi hk
    exact absurd hk (by omega)
  | succ k ih =>
    intro i hi hk
    refine x_iload_n (pc := 15) K 0 d_B_init_15 rfl ?_
    refine x_bipush (pc := 16) K (v := nI 12) d_B_init_16 (by decide) ?_
    refine x_icmp_ge (pc := 18) K (tgt := 40) d_B_init_18 (by decide) (fun c18 => ?_) (fun c18 => ?_)
    · have hic : i = 12 := by have := (nI_leI (a := 12) (by omega) (by omega)).mp c18; omega
      subst hic
      refine x_aload_n (pc := 40) K 1 d_B_init_40 rfl ?_
      refine x_bipush (pc := 41) K (v := nI 12) d_B_init_41 (by decide) ?_
      refine x_newi (pc := 43) K (t := 0) (n9 := 12) (ty := .int) (by omega) (Or.inl (by omega)) (shBf hB) (by rw [cBi_1 12 _ (by omega)]; exact h1 _ (by omega)) rfl rfl rfl (fun _ _ h => h) (zmem ac_int) (by decide) (by decide) (by decide) (Nat.le_of_ble_eq_true rfl) (Nat.le_of_ble_eq_true rfl) d_B_init_43 ?_
      refine x_putF (pc := 45) K (n := b) (n' := b + 134) (k := 1) uY_B tk_B nm_B (by omega) hB rfl rfl (by decide) (fun _ q => zmem (uw_B _ q)) (zmem lk_B_18) rfl hmn rfl rfl rfl d_B_init_45 ?_
      exact x_vret (pc := 48) K rfl rfl d_B_init_48
    · have hic : i < 12 := Nat.not_le.mp (fun q => c18 (nI_le (a := 12) q (by omega)))
      refine x_aload_n (pc := 21) K 1 d_B_init_21 rfl ?_
      refine x_getr (pc := 22) K (n := b) (n' := b + 1) (k := 0) (by omega) hB rfl (cBi_b i) rfl (by decide) (fun _ q => zmem (uw_B _ q)) (zmem lk_B_11) d_B_init_22 ?_
      refine x_iload_n (pc := 25) K 0 d_B_init_25 rfl ?_
      refine x_new (pc := 26) K uY_T tk_T (by omega) (Or.inl (by omega)) (shBt hB hic) (by rw [cBi_1 i _ (by omega)]; exact h1 _ (by omega)) (by rw [cBi_2 i _ (by omega)]; exact h2 _ (by omega)) rfl (fun _ q => zmem (uw_T _ q)) (zmem lk_B_9) (zmem in_T) (zmem ii_T) hfsT (show 1 + 11 * i + 1 ≤ 134 by omega) (show 12 + 61 * i + 10 ≤ 756 by omega) d_B_init_26 ?_
      refine x_dup (pc := 29) K d_B_init_29 rfl ?_
      refine x_callI (pc := 30) K (n0 := b + 2 + 11 * i) (c_T_init l w (cBi M b i) (b + 2 + 11 * i) (shBt hB hic) (fun a ha => by rw [cBi_1 i a ha]; exact h1 a (by omega)) (fun a ha => by rw [cBi_2 i a ha]; exact h2 a (by omega))) (zcwI K.ts lk_B_17 im_T_init ii_T co_T_init rfl pd_T_init ⟨rfl, rfl⟩ ⟨by decide, by decide⟩) (by omega) (by omega) (Nat.le_of_ble_eq_true rfl) ⟨show 1 + 11 * i + 1 + 10 ≤ 134 by omega, show 12 + 61 * i + 10 + 51 ≤ 756 by omega⟩ d_B_init_30 ?_
      refine x_aast (pc := 33) K (n := b + 1) (n' := b + 2 + 11 * i) (j := i) rfl hic (by omega) (shBa hB) rfl (by omega) (shBt hB hic) rfl (by decide) d_B_init_33 ?_
      refine x_iinc (pc := 34) K (v := nI (i + 1)) (lv' := [(1, .int (nI (i + 1))), (0, .ref (w.2.2 + b))]) 0 d_B_init_34 rfl (nI_1 _) (by decide) rfl ?_
      refine x_goto (pc := 37) K (tgt := 15) d_B_init_37 (by decide) ?_
      refine x_re (cells' := 1 + 11 * (i + 1)) (slots' := 12 + 61 * (i + 1)) (N' := b + 2 + 11 * (i + 1)) (M' := cBi M b (i + 1)) (by omega) (by omega) (by omega) rfl ?_
      exact ih (i + 1) (by omega) (by omega)
set_option maxHeartbeats 4000000 in
set_option maxRecDepth 100000 in
theorem c_B_init (l : Launch) (w : fl_W) (M : fl_M) (b : Nat) (hB : zSh b = zsB) (h1 : ∀ a, b ≤ a → M.1 a = fun _ => 0) (h2 : ∀ a, b ≤ a → M.2 a = fun _ => none) : CN l y_B_init w_B_init rm_B_init w (b + 1) 134 756 [.ref (w.2.2 + b)] M (cB M b) := by
  refine CN.of (cc := b_B_init) (own := "CompatibilityJudge$Baseline") (by decide) rfl rfl rfl (Nat.le_of_ble_eq_true rfl) ?_
  intro p9 e9 s9 m9 ag9 bl9 mt9 c9 K hs0 hmn
  refine x_aload_n (pc := 0) K 0 d_B_init_0 rfl ?_
  refine x_objInit (pc := 1) K (zmem lk_B_3) (zmem im_O_init) (zmem co_O_init) (by decide) (by decide) d_B_init_1 ?_
  refine x_aload_n (pc := 4) K 0 d_B_init_4 rfl ?_
  refine x_bipush (pc := 5) K (v := nI 12) d_B_init_5 (by decide) ?_
  refine x_anew (pc := 7) K (t := 3) (n9 := 12) (by omega) (Or.inl (by omega)) (shBa hB) (h2 _ (by omega)) rfl (zmem lk_B_9) K.S.2.2.2.1 (by decide) (by decide) (by decide) (Nat.le_of_ble_eq_true rfl) (Nat.le_of_ble_eq_true rfl) d_B_init_7 ?_
  refine x_putF (pc := 10) K (n := b) (n' := b + 1) (k := 0) uY_B tk_B nm_B (by omega) hB rfl rfl (by decide) (fun _ q => zmem (uw_B _ q)) (zmem lk_B_11) rfl hmn rfl rfl rfl d_B_init_10 ?_
  refine x_iconst (pc := 13) K (v := nI 0) d_B_init_13 (by decide) ?_
  refine x_istore_n (pc := 14) K (lv' := [(1, .int (nI 0)), (0, .ref (w.2.2 + b))]) d_B_init_14 (by decide) rfl ?_
  refine x_re (cells' := 1 + 11 * 0) (slots' := 12 + 61 * 0) (N' := b + 2 + 11 * 0) (M' := cBi M b 0) (by omega) (by omega) (by omega) rfl ?_
  exact lp_B_init l w M b hB h1 h2 K hs0 hmn 13 0 (by omega) (by omega)
def cC (M : fl_M) : fl_M := wR (wR (wR (wR M 272 0 (some 273)) 272 1 (some 274)) 272 2 (some 275)) 272 5 (some 276)
set_option maxHeartbeats 4000000 in
set_option maxRecDepth 100000 in
theorem c_C_init (l : Launch) (w : fl_W) (M : fl_M) (h1 : ∀ a, 272 ≤ a → M.1 a = fun _ => 0) (h2 : ∀ a, 272 ≤ a → M.2 a = fun _ => none) : CN l y_C_init w_C_init rm_C_init w 273 4 1916 [.ref (w.2.2 + 272)] M (cC M) := by
  refine CN.of (cc := b_C_init) (own := "CompatibilityJudge$Comparison") (by decide) rfl rfl rfl (Nat.le_of_ble_eq_true rfl) ?_
  intro p9 e9 s9 m9 ag9 bl9 mt9 c9 K hs0 hmn
  refine x_aload_n (pc := 0) K 0 d_C_init_0 rfl ?_
  refine x_objInit (pc := 1) K (zmem lk_C_3) (zmem im_O_init) (zmem co_O_init) (by decide) (by decide) d_C_init_1 ?_
  refine x_aload_n (pc := 4) K 0 d_C_init_4 rfl ?_
  refine x_sipush (pc := 5) K (v := nI 636) d_C_init_5 (by decide) ?_
  refine x_newi (pc := 8) K (t := 0) (n9 := 636) (ty := .int) (by omega) (Or.inl (by omega)) sh273 (h1 273 (by omega)) rfl rfl rfl (fun _ _ h => h) (zmem ac_int) (by decide) (by decide) (by decide) (Nat.le_of_ble_eq_true rfl) (Nat.le_of_ble_eq_true rfl) d_C_init_8 ?_
  refine x_re (cells' := 1) (slots' := 636) (N' := 274) rfl rfl rfl rfl ?_
  refine x_putF (pc := 10) K (n := 272) (n' := 273) (k := 0) uY_C tk_C nm_C (by omega) shC rfl rfl (by decide) (fun _ q => zmem (uw_C _ q)) (zmem lk_C_9) rfl hmn rfl rfl rfl d_C_init_10 ?_
  refine x_aload_n (pc := 13) K 0 d_C_init_13 rfl ?_
  refine x_sipush (pc := 14) K (v := nI 636) d_C_init_14 (by decide) ?_
  refine x_newi (pc := 17) K (t := 0) (n9 := 636) (ty := .int) (by omega) (Or.inl (by omega)) sh274 (show (wR M 272 0 (some 273)).1 274 = fun _ => 0 from h1 274 (by omega)) rfl rfl rfl (fun _ _ h => h) (zmem ac_int) (by decide) (by decide) (by decide) (Nat.le_of_ble_eq_true rfl) (Nat.le_of_ble_eq_true rfl) d_C_init_17 ?_
  refine x_re (cells' := 2) (slots' := 1272) (N' := 275) rfl rfl rfl rfl ?_
  refine x_putF (pc := 19) K (n := 272) (n' := 274) (k := 1) uY_C tk_C nm_C (by omega) shC rfl rfl (by decide) (fun _ q => zmem (uw_C _ q)) (zmem lk_C_15) rfl hmn rfl rfl rfl d_C_init_19 ?_
  refine x_aload_n (pc := 22) K 0 d_C_init_22 rfl ?_
  refine x_sipush (pc := 23) K (v := nI 636) d_C_init_23 (by decide) ?_
  refine x_newi (pc := 26) K (t := 0) (n9 := 636) (ty := .int) (by omega) (Or.inl (by omega)) sh275 (show (wR (wR M 272 0 (some 273)) 272 1 (some 274)).1 275 = fun _ => 0 from h1 275 (by omega)) rfl rfl rfl (fun _ _ h => h) (zmem ac_int) (by decide) (by decide) (by decide) (Nat.le_of_ble_eq_true rfl) (Nat.le_of_ble_eq_true rfl) d_C_init_26 ?_
  refine x_re (cells' := 3) (slots' := 1908) (N' := 276) rfl rfl rfl rfl ?_
  refine x_putF (pc := 28) K (n := 272) (n' := 275) (k := 2) uY_C tk_C nm_C (by omega) shC rfl rfl (by decide) (fun _ q => zmem (uw_C _ q)) (zmem lk_C_18) rfl hmn rfl rfl rfl d_C_init_28 ?_
  refine x_aload_n (pc := 31) K 0 d_C_init_31 rfl ?_
  refine x_bipush (pc := 32) K (v := nI 8) d_C_init_32 (by decide) ?_
  refine x_anew (pc := 34) K (t := 4) (n9 := 8) (by omega) (Or.inl (by omega)) sh276 (show (wR (wR (wR M 272 0 (some 273)) 272 1 (some 274)) 272 2 (some 275)).2 276 = fun _ => none from by funext k9; exact rdR_ne (by omega) (rdR_ne (by omega) (rdR_ne (by omega) (congrFun (h2 _ (by omega)) k9)))) rfl (zmem lk_C_21) K.S.2.2.2.2 (by decide) (by decide) (by decide) (Nat.le_of_ble_eq_true rfl) (Nat.le_of_ble_eq_true rfl) d_C_init_34 ?_
  refine x_putF (pc := 37) K (n := 272) (n' := 276) (k := 5) uY_C tk_C nm_C (by omega) shC rfl rfl (by decide) (fun _ q => zmem (uw_C _ q)) (zmem lk_C_23) rfl hmn rfl rfl rfl d_C_init_37 ?_
  exact x_vret (pc := 40) K rfl rfl d_C_init_40
theorem hfsJ {b : Nat} : ∀ j, j < 3 → defaultValue (uY_J j) = vp_V (fl_fs b (fun _ => 0) (fun _ => none) 0 [true, true, true]) j := by
  intro j hj
  rcases (show j = 0 ∨ j = 1 ∨ j = 2 by omega) with rfl | rfl | rfl <;> rfl
theorem hfsR {b : Nat} : ∀ j, j < 22 → defaultValue (uY_R j) = vp_V (fl_fs b (fun _ => 0) (fun _ => none) 0 [true, true, true, true, true, true, true, true, true, true, true, true, true, true, true, false, false, false, false, false, false, true]) j := by
  intro j hj
  rcases (show j = 0 ∨ j = 1 ∨ j = 2 ∨ j = 3 ∨ j = 4 ∨ j = 5 ∨ j = 6 ∨ j = 7 ∨ j = 8 ∨ j = 9 ∨ j = 10 ∨ j = 11 ∨ j = 12 ∨ j = 13 ∨ j = 14 ∨ j = 15 ∨ j = 16 ∨ j = 17 ∨ j = 18 ∨ j = 19 ∨ j = 20 ∨ j = 21 by omega) with rfl | rfl | rfl | rfl | rfl | rfl | rfl | rfl | rfl | rfl | rfl | rfl | rfl | rfl | rfl | rfl | rfl | rfl | rfl | rfl | rfl | rfl <;> rfl
theorem sh2 : zSh 2 = zsB := by decide +kernel
theorem sh137 : zSh 137 = zsB := by decide +kernel
theorem cB_1 {M : fl_M} {b a : Nat} (h : b + 134 ≤ a) : (cB M b).1 a = M.1 a := cBi_1 12 a (by omega)
theorem cB_2 {M : fl_M} {b a : Nat} (h : b + 134 ≤ a) : (cB M b).2 a = M.2 a := by
  show fl_u (cBi M b 12).2 b 1 _ a = M.2 a
  rw [fl_u_row (by omega), cBi_2 12 a (by omega)]
/-- the memory behind the judge's constructor -/
def cJ1 (M : fl_M) : fl_M := wR (cB M 2) 1 0 (some 2)
def cJ2 (M : fl_M) : fl_M := wR (cB (cJ1 M) 137) 1 1 (some 137)
def cJ (M : fl_M) : fl_M := wR (wR (cC (wR (cJ2 M) 0 0 (some 1))) 0 1 (some 272)) 0 2 (some 277)
theorem cJ1_0 {M : fl_M} {a : Nat} (h : 136 ≤ a) : (cJ1 M).1 a = M.1 a ∧ (cJ1 M).2 a = M.2 a := ⟨cB_1 (by omega), by show fl_u (cB M 2).2 1 0 _ a = M.2 a; rw [fl_u_row (by omega), cB_2 (by omega)]⟩
theorem cJ2_0 {M : fl_M} {a : Nat} (h : 271 ≤ a) : (cJ2 M).1 a = M.1 a ∧ (cJ2 M).2 a = M.2 a := ⟨by show (cB (cJ1 M) 137).1 a = M.1 a; rw [cB_1 (by omega)]; exact (cJ1_0 (by omega)).1, by show fl_u (cB (cJ1 M) 137).2 1 1 _ a = M.2 a; rw [fl_u_row (by omega), cB_2 (by omega)]; exact (cJ1_0 (by omega)).2⟩
set_option maxHeartbeats 4000000 in
set_option maxRecDepth 100000 in
theorem c_J_initY (l : Launch) (w : fl_W) (M Y1 Y2 : fl_M) (h1 : ∀ a, M.1 a = fun _ => 0) (h2 : ∀ a, M.2 a = fun _ => none) (g1 : ∀ a, 136 ≤ a → Y1.1 a = fun _ => 0) (g2 : ∀ a, 136 ≤ a → (wR Y1 1 0 (some 2)).2 a = fun _ => none) (k1 : ∀ a, 271 ≤ a → Y2.1 a = fun _ => 0) (k2 : ∀ a, 271 ≤ a → (wR (wR Y2 1 1 (some 137)) 0 0 (some 1)).2 a = fun _ => none) (hB1 : CN l y_B_init w_B_init rm_B_init w (2 + 1) 134 756 [.ref (w.2.2 + 2)] M Y1) (hB2 : CN l y_B_init w_B_init rm_B_init w (137 + 1) 134 756 [.ref (w.2.2 + 137)] (wR Y1 1 0 (some 2)) Y2) : CN l y_J_init w_J_init rm_J_init w 1 277 3454 [.ref (w.2.2 + 0)] M (wR (wR (cC (wR (wR Y2 1 1 (some 137)) 0 0 (some 1))) 0 1 (some 272)) 0 2 (some 277)) := by
  refine CN.of (cc := b_J_init) (own := "CompatibilityJudge") (by decide) rfl rfl rfl (Nat.le_of_ble_eq_true rfl) ?_
  intro p9 e9 s9 m9 ag9 bl9 mt9 c9 K hs0 hmn
  refine x_aload_n (pc := 0) K 0 d_J_init_0 rfl ?_
  refine x_objInit (pc := 1) K (zmem lk_J_3) (zmem im_O_init) (zmem co_O_init) (by decide) (by decide) d_J_init_1 ?_
  refine x_aload_n (pc := 4) K 0 d_J_init_4 rfl ?_
  refine x_iconst (pc := 5) K (v := nI 2) d_J_init_5 (by decide) ?_
  refine x_anew (pc := 6) K (t := 2) (n9 := 2) (by omega) (Or.inl (by omega)) shA (h2 1) rfl (zmem lk_J_9) K.S.2.2.1 (by decide) (by decide) (by decide) (Nat.le_of_ble_eq_true rfl) (Nat.le_of_ble_eq_true rfl) d_J_init_6 ?_
  refine x_re (cells' := 1) (slots' := 2) (N' := 2) rfl rfl rfl rfl ?_
  refine x_dup (pc := 9) K d_J_init_9 rfl ?_
  refine x_iconst (pc := 10) K (v := nI 0) d_J_init_10 (by decide) ?_
  refine x_new (pc := 11) K uY_B tk_B (by omega) (Or.inl (by omega)) sh2 (h1 2) (h2 2) rfl (fun _ q => zmem (uw_B _ q)) (zmem lk_J_9) (zmem in_B) (zmem ii_B) hfsB (by decide) (by decide) d_J_init_11 ?_
  refine x_re (cells' := 2) (slots' := 4) (N' := 3) rfl rfl rfl rfl ?_
  refine x_dup (pc := 14) K d_J_init_14 rfl ?_
  refine x_callI (pc := 15) K (n0 := 2) hB1 (zcwI K.ts lk_J_11 im_B_init ii_B co_B_init rfl pd_B_init ⟨rfl, rfl⟩ ⟨by decide, by decide⟩) (by omega) (by omega) (Nat.le_of_ble_eq_true rfl) ⟨by decide, by decide⟩ d_J_init_15 ?_
  refine x_re (cells' := 136) (slots' := 760) (N' := 137) rfl rfl rfl rfl ?_
  refine x_aast (pc := 18) K (n := 1) (n' := 2) (j := 0) rfl (by decide) (by decide) shA rfl (by decide) sh2 rfl (by decide) d_J_init_18 ?_
  refine x_dup (pc := 19) K d_J_init_19 rfl ?_
  refine x_iconst (pc := 20) K (v := nI 1) d_J_init_20 (by decide) ?_
  refine x_new (pc := 21) K uY_B tk_B (by omega) (Or.inl (by omega)) sh137 (g1 137 (by omega)) (g2 137 (by omega)) rfl (fun _ q => zmem (uw_B _ q)) (zmem lk_J_9) (zmem in_B) (zmem ii_B) hfsB (by decide) (by decide) d_J_init_21 ?_
  refine x_re (cells' := 137) (slots' := 762) (N' := 138) rfl rfl rfl rfl ?_
  refine x_dup (pc := 24) K d_J_init_24 rfl ?_
  refine x_callI (pc := 25) K (n0 := 137) hB2 (zcwI K.ts lk_J_11 im_B_init ii_B co_B_init rfl pd_B_init ⟨rfl, rfl⟩ ⟨by decide, by decide⟩) (by omega) (by omega) (Nat.le_of_ble_eq_true rfl) ⟨by decide, by decide⟩ d_J_init_25 ?_
  refine x_re (cells' := 271) (slots' := 1518) (N' := 272) rfl rfl rfl rfl ?_
  refine x_aast (pc := 28) K (n := 1) (n' := 137) (j := 1) rfl (by decide) (by decide) shA rfl (by decide) sh137 rfl (by decide) d_J_init_28 ?_
  refine x_putF (pc := 29) K (n := 0) (n' := 1) (k := 0) uY_J tk_J nm_J (by omega) shJ rfl rfl (by decide) (fun _ q => zmem (uw_J _ q)) (zmem lk_J_12) rfl hmn rfl rfl rfl d_J_init_29 ?_
  refine x_aload_n (pc := 32) K 0 d_J_init_32 rfl ?_
  refine x_new (pc := 33) K uY_C tk_C (by omega) (Or.inl (by omega)) shC (k1 272 (by omega)) (k2 272 (by omega)) rfl (fun _ q => zmem (uw_C _ q)) (zmem lk_J_16) (zmem in_C) (zmem ii_C) hfsC (by decide) (by decide) d_J_init_33 ?_
  refine x_re (cells' := 272) (slots' := 1524) (N' := 273) rfl rfl rfl rfl ?_
  refine x_dup (pc := 36) K d_J_init_36 rfl ?_
  refine x_callI (pc := 37) K (n0 := 272) (c_C_init l w (wR (wR Y2 1 1 (some 137)) 0 0 (some 1)) (fun a ha => k1 a (by omega)) (fun a ha => k2 a (by omega))) (zcwI K.ts lk_J_18 im_C_init ii_C co_C_init rfl pd_C_init ⟨rfl, rfl⟩ ⟨by decide, by decide⟩) (by omega) (by omega) (Nat.le_of_ble_eq_true rfl) ⟨by decide, by decide⟩ d_J_init_37 ?_
  refine x_re (cells' := 276) (slots' := 3440) (N' := 277) rfl rfl rfl rfl ?_
  refine x_putF (pc := 40) K (n := 0) (n' := 272) (k := 1) uY_J tk_J nm_J (by omega) shJ rfl rfl (by decide) (fun _ q => zmem (uw_J _ q)) (zmem lk_J_19) rfl hmn rfl rfl rfl d_J_init_40 ?_
  refine x_aload_n (pc := 43) K 0 d_J_init_43 rfl ?_
  refine x_bipush (pc := 44) K (v := nI 14) d_J_init_44 (by decide) ?_
  refine x_newi (pc := 46) K (t := 0) (n9 := 14) (ty := .int) (by omega) (Or.inl (by omega)) shS (show (wR (cC (wR (wR Y2 1 1 (some 137)) 0 0 (some 1))) 0 1 (some 272)).1 277 = fun _ => 0 from k1 277 (by omega)) rfl rfl rfl (fun _ _ h => h) (zmem ac_int) (by decide) (by decide) (by decide) (Nat.le_of_ble_eq_true rfl) (Nat.le_of_ble_eq_true rfl) d_J_init_46 ?_
  refine x_re (cells' := 277) (slots' := 3454) (N' := 278) rfl rfl rfl rfl ?_
  refine x_putF (pc := 48) K (n := 0) (n' := 277) (k := 2) uY_J tk_J nm_J (by omega) shJ rfl rfl (by decide) (fun _ q => zmem (uw_J _ q)) (zmem lk_J_23) rfl hmn rfl rfl rfl d_J_init_48 ?_
  exact x_vret (pc := 51) K rfl rfl d_J_init_51
theorem c_J_init (l : Launch) (w : fl_W) (M : fl_M) (h1 : ∀ a, M.1 a = fun _ => 0) (h2 : ∀ a, M.2 a = fun _ => none) : CN l y_J_init w_J_init rm_J_init w 1 277 3454 [.ref (w.2.2 + 0)] M (cJ M) := by
  have q1 : ∀ a, 136 ≤ a → (cJ1 M).1 a = fun _ => 0 := fun a ha => (cJ1_0 ha).1.trans (h1 a)
  have q2 : ∀ a, 136 ≤ a → (cJ1 M).2 a = fun _ => none := fun a ha => (cJ1_0 ha).2.trans (h2 a)
  have r1 : ∀ a, 271 ≤ a → (cJ2 M).1 a = fun _ => 0 := fun a ha => (cJ2_0 ha).1.trans (h1 a)
  have r2 : ∀ a, 271 ≤ a → (wR (cJ2 M) 0 0 (some 1)).2 a = fun _ => none := fun a ha => by funext k9; exact rdR_ne (by omega) (congrFun ((cJ2_0 ha).2.trans (h2 a)) k9)
  have b1 := c_B_init l w M 2 sh2 (fun a _ => h1 a) (fun a _ => h2 a)
  have b2 := c_B_init l w (cJ1 M) 137 sh137 (fun a ha => q1 a (by omega)) (fun a ha => q2 a (by omega))
  unfold cJ
  unfold cJ2 at r1 r2 ⊢
  unfold cJ1 at q1 q2 r1 r2 b2 ⊢
  generalize cB M 2 = Y1 at *
  generalize cB (wR Y1 1 0 (some 2)) 137 = Y2 at *
  exact c_J_initY l w M Y1 Y2 h1 h2 q1 q2 r1 r2 b1 b2
def cR (M : fl_M) : fl_M := wR (wR (wR (wR (wR (wR (wR (wR (wR (wR (wR (wR (wR (wR (wR (wR M 278 0 (some 279)) 278 1 (some 280)) 278 2 (some 281)) 278 3 (some 282)) 278 4 (some 283)) 278 5 (some 284)) 278 6 (some 285)) 278 7 (some 286)) 278 8 (some 287)) 278 9 (some 288)) 278 10 (some 289)) 278 11 (some 290)) 278 12 (some 291)) 278 13 (some 292)) 278 14 (some 293)) 278 21 (some 294)
set_option maxHeartbeats 4000000 in
set_option maxRecDepth 100000 in
theorem c_R_init (l : Launch) (w : fl_W) (M : fl_M) (h1 : ∀ a, 278 ≤ a → M.1 a = fun _ => 0) : CN l y_R_init w_R_init rm_R_init w 279 16 1418 [.ref (w.2.2 + 278)] M (cR M) := by
  refine CN.of (cc := b_R_init) (own := "CompatibilityJudgeModel") (by decide) rfl rfl rfl (Nat.le_of_ble_eq_true rfl) ?_
  intro p9 e9 s9 m9 ag9 bl9 mt9 c9 K hs0 hmn
  refine x_aload_n (pc := 0) K 0 d_R_init_0 rfl ?_
  refine x_objInit (pc := 1) K (zmem lk_R_1) (zmem im_O_init) (zmem co_O_init) (by decide) (by decide) d_R_init_1 ?_
  refine x_aload_n (pc := 4) K 0 d_R_init_4 rfl ?_
  refine x_bipush (pc := 5) K (v := nI 24) d_R_init_5 (by decide) ?_
  refine x_newi (pc := 7) K (t := 1) (n9 := 24) (ty := .boolean) (by omega) (Or.inl (by omega)) sh279 (show (M).1 279 = fun _ => 0 from h1 279 (by omega)) rfl rfl rfl (fun _ _ h => h) (zmem ac_boolean) (by decide) (by decide) (by decide) (Nat.le_of_ble_eq_true rfl) (Nat.le_of_ble_eq_true rfl) d_R_init_7 ?_
  refine x_re (cells' := 1) (slots' := 24) (N' := 280) rfl rfl rfl rfl ?_
  refine x_putF (pc := 9) K (n := 278) (n' := 279) (k := 0) uY_R tk_R nm_R (by omega) shR rfl rfl (by decide) (fun _ q => zmem (uw_R _ q)) (zmem lk_R_7) rfl hmn rfl rfl rfl d_R_init_9 ?_
  refine x_aload_n (pc := 12) K 0 d_R_init_12 rfl ?_
  refine x_bipush (pc := 13) K (v := nI 24) d_R_init_13 (by decide) ?_
  refine x_newi (pc := 15) K (t := 0) (n9 := 24) (ty := .int) (by omega) (Or.inl (by omega)) sh280 (show (wR M 278 0 (some 279)).1 280 = fun _ => 0 from h1 280 (by omega)) rfl rfl rfl (fun _ _ h => h) (zmem ac_int) (by decide) (by decide) (by decide) (Nat.le_of_ble_eq_true rfl) (Nat.le_of_ble_eq_true rfl) d_R_init_15 ?_
  refine x_re (cells' := 2) (slots' := 48) (N' := 281) rfl rfl rfl rfl ?_
  refine x_putF (pc := 17) K (n := 278) (n' := 280) (k := 1) uY_R tk_R nm_R (by omega) shR rfl rfl (by decide) (fun _ q => zmem (uw_R _ q)) (zmem lk_R_13) rfl hmn rfl rfl rfl d_R_init_17 ?_
  refine x_aload_n (pc := 20) K 0 d_R_init_20 rfl ?_
  refine x_bipush (pc := 21) K (v := nI 24) d_R_init_21 (by decide) ?_
  refine x_newi (pc := 23) K (t := 0) (n9 := 24) (ty := .int) (by omega) (Or.inl (by omega)) sh281 (show (wR (wR M 278 0 (some 279)) 278 1 (some 280)).1 281 = fun _ => 0 from h1 281 (by omega)) rfl rfl rfl (fun _ _ h => h) (zmem ac_int) (by decide) (by decide) (by decide) (Nat.le_of_ble_eq_true rfl) (Nat.le_of_ble_eq_true rfl) d_R_init_23 ?_
  refine x_re (cells' := 3) (slots' := 72) (N' := 282) rfl rfl rfl rfl ?_
  refine x_putF (pc := 25) K (n := 278) (n' := 281) (k := 2) uY_R tk_R nm_R (by omega) shR rfl rfl (by decide) (fun _ q => zmem (uw_R _ q)) (zmem lk_R_17) rfl hmn rfl rfl rfl d_R_init_25 ?_
  refine x_aload_n (pc := 28) K 0 d_R_init_28 rfl ?_
  refine x_bipush (pc := 29) K (v := nI 24) d_R_init_29 (by decide) ?_
  refine x_newi (pc := 31) K (t := 0) (n9 := 24) (ty := .int) (by omega) (Or.inl (by omega)) sh282 (show (wR (wR (wR M 278 0 (some 279)) 278 1 (some 280)) 278 2 (some 281)).1 282 = fun _ => 0 from h1 282 (by omega)) rfl rfl rfl (fun _ _ h => h) (zmem ac_int) (by decide) (by decide) (by decide) (Nat.le_of_ble_eq_true rfl) (Nat.le_of_ble_eq_true rfl) d_R_init_31 ?_
  refine x_re (cells' := 4) (slots' := 96) (N' := 283) rfl rfl rfl rfl ?_
  refine x_putF (pc := 33) K (n := 278) (n' := 282) (k := 3) uY_R tk_R nm_R (by omega) shR rfl rfl (by decide) (fun _ q => zmem (uw_R _ q)) (zmem lk_R_20) rfl hmn rfl rfl rfl d_R_init_33 ?_
  refine x_aload_n (pc := 36) K 0 d_R_init_36 rfl ?_
  refine x_bipush (pc := 37) K (v := nI 24) d_R_init_37 (by decide) ?_
  refine x_newi (pc := 39) K (t := 0) (n9 := 24) (ty := .int) (by omega) (Or.inl (by omega)) sh283 (show (wR (wR (wR (wR M 278 0 (some 279)) 278 1 (some 280)) 278 2 (some 281)) 278 3 (some 282)).1 283 = fun _ => 0 from h1 283 (by omega)) rfl rfl rfl (fun _ _ h => h) (zmem ac_int) (by decide) (by decide) (by decide) (Nat.le_of_ble_eq_true rfl) (Nat.le_of_ble_eq_true rfl) d_R_init_39 ?_
  refine x_re (cells' := 5) (slots' := 120) (N' := 284) rfl rfl rfl rfl ?_
  refine x_putF (pc := 41) K (n := 278) (n' := 283) (k := 4) uY_R tk_R nm_R (by omega) shR rfl rfl (by decide) (fun _ q => zmem (uw_R _ q)) (zmem lk_R_23) rfl hmn rfl rfl rfl d_R_init_41 ?_
  refine x_aload_n (pc := 44) K 0 d_R_init_44 rfl ?_
  refine x_bipush (pc := 45) K (v := nI 72) d_R_init_45 (by decide) ?_
  refine x_newi (pc := 47) K (t := 0) (n9 := 72) (ty := .int) (by omega) (Or.inl (by omega)) sh284 (show (wR (wR (wR (wR (wR M 278 0 (some 279)) 278 1 (some 280)) 278 2 (some 281)) 278 3 (some 282)) 278 4 (some 283)).1 284 = fun _ => 0 from h1 284 (by omega)) rfl rfl rfl (fun _ _ h => h) (zmem ac_int) (by decide) (by decide) (by decide) (Nat.le_of_ble_eq_true rfl) (Nat.le_of_ble_eq_true rfl) d_R_init_47 ?_
  refine x_re (cells' := 6) (slots' := 192) (N' := 285) rfl rfl rfl rfl ?_
  refine x_putF (pc := 49) K (n := 278) (n' := 284) (k := 5) uY_R tk_R nm_R (by omega) shR rfl rfl (by decide) (fun _ q => zmem (uw_R _ q)) (zmem lk_R_26) rfl hmn rfl rfl rfl d_R_init_49 ?_
  refine x_aload_n (pc := 52) K 0 d_R_init_52 rfl ?_
  refine x_bipush (pc := 53) K (v := nI 24) d_R_init_53 (by decide) ?_
  refine x_newi (pc := 55) K (t := 0) (n9 := 24) (ty := .int) (by omega) (Or.inl (by omega)) sh285 (show (wR (wR (wR (wR (wR (wR M 278 0 (some 279)) 278 1 (some 280)) 278 2 (some 281)) 278 3 (some 282)) 278 4 (some 283)) 278 5 (some 284)).1 285 = fun _ => 0 from h1 285 (by omega)) rfl rfl rfl (fun _ _ h => h) (zmem ac_int) (by decide) (by decide) (by decide) (Nat.le_of_ble_eq_true rfl) (Nat.le_of_ble_eq_true rfl) d_R_init_55 ?_
  refine x_re (cells' := 7) (slots' := 216) (N' := 286) rfl rfl rfl rfl ?_
  refine x_putF (pc := 57) K (n := 278) (n' := 285) (k := 6) uY_R tk_R nm_R (by omega) shR rfl rfl (by decide) (fun _ q => zmem (uw_R _ q)) (zmem lk_R_29) rfl hmn rfl rfl rfl d_R_init_57 ?_
  refine x_aload_n (pc := 60) K 0 d_R_init_60 rfl ?_
  refine x_sipush (pc := 61) K (v := nI 192) d_R_init_61 (by decide) ?_
  refine x_newi (pc := 64) K (t := 0) (n9 := 192) (ty := .int) (by omega) (Or.inl (by omega)) sh286 (show (wR (wR (wR (wR (wR (wR (wR M 278 0 (some 279)) 278 1 (some 280)) 278 2 (some 281)) 278 3 (some 282)) 278 4 (some 283)) 278 5 (some 284)) 278 6 (some 285)).1 286 = fun _ => 0 from h1 286 (by omega)) rfl rfl rfl (fun _ _ h => h) (zmem ac_int) (by decide) (by decide) (by decide) (Nat.le_of_ble_eq_true rfl) (Nat.le_of_ble_eq_true rfl) d_R_init_64 ?_
  refine x_re (cells' := 8) (slots' := 408) (N' := 287) rfl rfl rfl rfl ?_
  refine x_putF (pc := 66) K (n := 278) (n' := 286) (k := 7) uY_R tk_R nm_R (by omega) shR rfl rfl (by decide) (fun _ q => zmem (uw_R _ q)) (zmem lk_R_32) rfl hmn rfl rfl rfl d_R_init_66 ?_
  refine x_aload_n (pc := 69) K 0 d_R_init_69 rfl ?_
  refine x_sipush (pc := 70) K (v := nI 192) d_R_init_70 (by decide) ?_
  refine x_newi (pc := 73) K (t := 0) (n9 := 192) (ty := .int) (by omega) (Or.inl (by omega)) sh287 (show (wR (wR (wR (wR (wR (wR (wR (wR M 278 0 (some 279)) 278 1 (some 280)) 278 2 (some 281)) 278 3 (some 282)) 278 4 (some 283)) 278 5 (some 284)) 278 6 (some 285)) 278 7 (some 286)).1 287 = fun _ => 0 from h1 287 (by omega)) rfl rfl rfl (fun _ _ h => h) (zmem ac_int) (by decide) (by decide) (by decide) (Nat.le_of_ble_eq_true rfl) (Nat.le_of_ble_eq_true rfl) d_R_init_73 ?_
  refine x_re (cells' := 9) (slots' := 600) (N' := 288) rfl rfl rfl rfl ?_
  refine x_putF (pc := 75) K (n := 278) (n' := 287) (k := 8) uY_R tk_R nm_R (by omega) shR rfl rfl (by decide) (fun _ q => zmem (uw_R _ q)) (zmem lk_R_35) rfl hmn rfl rfl rfl d_R_init_75 ?_
  refine x_aload_n (pc := 78) K 0 d_R_init_78 rfl ?_
  refine x_sipush (pc := 79) K (v := nI 192) d_R_init_79 (by decide) ?_
  refine x_newi (pc := 82) K (t := 0) (n9 := 192) (ty := .int) (by omega) (Or.inl (by omega)) sh288 (show (wR (wR (wR (wR (wR (wR (wR (wR (wR M 278 0 (some 279)) 278 1 (some 280)) 278 2 (some 281)) 278 3 (some 282)) 278 4 (some 283)) 278 5 (some 284)) 278 6 (some 285)) 278 7 (some 286)) 278 8 (some 287)).1 288 = fun _ => 0 from h1 288 (by omega)) rfl rfl rfl (fun _ _ h => h) (zmem ac_int) (by decide) (by decide) (by decide) (Nat.le_of_ble_eq_true rfl) (Nat.le_of_ble_eq_true rfl) d_R_init_82 ?_
  refine x_re (cells' := 10) (slots' := 792) (N' := 289) rfl rfl rfl rfl ?_
  refine x_putF (pc := 84) K (n := 278) (n' := 288) (k := 9) uY_R tk_R nm_R (by omega) shR rfl rfl (by decide) (fun _ q => zmem (uw_R _ q)) (zmem lk_R_38) rfl hmn rfl rfl rfl d_R_init_84 ?_
  refine x_aload_n (pc := 87) K 0 d_R_init_87 rfl ?_
  refine x_sipush (pc := 88) K (v := nI 192) d_R_init_88 (by decide) ?_
  refine x_newi (pc := 91) K (t := 1) (n9 := 192) (ty := .boolean) (by omega) (Or.inl (by omega)) sh289 (show (wR (wR (wR (wR (wR (wR (wR (wR (wR (wR M 278 0 (some 279)) 278 1 (some 280)) 278 2 (some 281)) 278 3 (some 282)) 278 4 (some 283)) 278 5 (some 284)) 278 6 (some 285)) 278 7 (some 286)) 278 8 (some 287)) 278 9 (some 288)).1 289 = fun _ => 0 from h1 289 (by omega)) rfl rfl rfl (fun _ _ h => h) (zmem ac_boolean) (by decide) (by decide) (by decide) (Nat.le_of_ble_eq_true rfl) (Nat.le_of_ble_eq_true rfl) d_R_init_91 ?_
  refine x_re (cells' := 11) (slots' := 984) (N' := 290) rfl rfl rfl rfl ?_
  refine x_putF (pc := 93) K (n := 278) (n' := 289) (k := 10) uY_R tk_R nm_R (by omega) shR rfl rfl (by decide) (fun _ q => zmem (uw_R _ q)) (zmem lk_R_41) rfl hmn rfl rfl rfl d_R_init_93 ?_
  refine x_aload_n (pc := 96) K 0 d_R_init_96 rfl ?_
  refine x_sipush (pc := 97) K (v := nI 192) d_R_init_97 (by decide) ?_
  refine x_newi (pc := 100) K (t := 0) (n9 := 192) (ty := .int) (by omega) (Or.inl (by omega)) sh290 (show (wR (wR (wR (wR (wR (wR (wR (wR (wR (wR (wR M 278 0 (some 279)) 278 1 (some 280)) 278 2 (some 281)) 278 3 (some 282)) 278 4 (some 283)) 278 5 (some 284)) 278 6 (some 285)) 278 7 (some 286)) 278 8 (some 287)) 278 9 (some 288)) 278 10 (some 289)).1 290 = fun _ => 0 from h1 290 (by omega)) rfl rfl rfl (fun _ _ h => h) (zmem ac_int) (by decide) (by decide) (by decide) (Nat.le_of_ble_eq_true rfl) (Nat.le_of_ble_eq_true rfl) d_R_init_100 ?_
  refine x_re (cells' := 12) (slots' := 1176) (N' := 291) rfl rfl rfl rfl ?_
  refine x_putF (pc := 102) K (n := 278) (n' := 290) (k := 11) uY_R tk_R nm_R (by omega) shR rfl rfl (by decide) (fun _ q => zmem (uw_R _ q)) (zmem lk_R_44) rfl hmn rfl rfl rfl d_R_init_102 ?_
  refine x_aload_n (pc := 105) K 0 d_R_init_105 rfl ?_
  refine x_sipush (pc := 106) K (v := nI 168) d_R_init_106 (by decide) ?_
  refine x_newi (pc := 109) K (t := 1) (n9 := 168) (ty := .boolean) (by omega) (Or.inl (by omega)) sh291 (show (wR (wR (wR (wR (wR (wR (wR (wR (wR (wR (wR (wR M 278 0 (some 279)) 278 1 (some 280)) 278 2 (some 281)) 278 3 (some 282)) 278 4 (some 283)) 278 5 (some 284)) 278 6 (some 285)) 278 7 (some 286)) 278 8 (some 287)) 278 9 (some 288)) 278 10 (some 289)) 278 11 (some 290)).1 291 = fun _ => 0 from h1 291 (by omega)) rfl rfl rfl (fun _ _ h => h) (zmem ac_boolean) (by decide) (by decide) (by decide) (Nat.le_of_ble_eq_true rfl) (Nat.le_of_ble_eq_true rfl) d_R_init_109 ?_
  refine x_re (cells' := 13) (slots' := 1344) (N' := 292) rfl rfl rfl rfl ?_
  refine x_putF (pc := 111) K (n := 278) (n' := 291) (k := 12) uY_R tk_R nm_R (by omega) shR rfl rfl (by decide) (fun _ q => zmem (uw_R _ q)) (zmem lk_R_47) rfl hmn rfl rfl rfl d_R_init_111 ?_
  refine x_aload_n (pc := 114) K 0 d_R_init_114 rfl ?_
  refine x_bipush (pc := 115) K (v := nI 12) d_R_init_115 (by decide) ?_
  refine x_newi (pc := 117) K (t := 1) (n9 := 12) (ty := .boolean) (by omega) (Or.inl (by omega)) sh292 (show (wR (wR (wR (wR (wR (wR (wR (wR (wR (wR (wR (wR (wR M 278 0 (some 279)) 278 1 (some 280)) 278 2 (some 281)) 278 3 (some 282)) 278 4 (some 283)) 278 5 (some 284)) 278 6 (some 285)) 278 7 (some 286)) 278 8 (some 287)) 278 9 (some 288)) 278 10 (some 289)) 278 11 (some 290)) 278 12 (some 291)).1 292 = fun _ => 0 from h1 292 (by omega)) rfl rfl rfl (fun _ _ h => h) (zmem ac_boolean) (by decide) (by decide) (by decide) (Nat.le_of_ble_eq_true rfl) (Nat.le_of_ble_eq_true rfl) d_R_init_117 ?_
  refine x_re (cells' := 14) (slots' := 1356) (N' := 293) rfl rfl rfl rfl ?_
  refine x_putF (pc := 119) K (n := 278) (n' := 292) (k := 13) uY_R tk_R nm_R (by omega) shR rfl rfl (by decide) (fun _ q => zmem (uw_R _ q)) (zmem lk_R_50) rfl hmn rfl rfl rfl d_R_init_119 ?_
  refine x_aload_n (pc := 122) K 0 d_R_init_122 rfl ?_
  refine x_bipush (pc := 123) K (v := nI 48) d_R_init_123 (by decide) ?_
  refine x_newi (pc := 125) K (t := 0) (n9 := 48) (ty := .int) (by omega) (Or.inl (by omega)) sh293 (show (wR (wR (wR (wR (wR (wR (wR (wR (wR (wR (wR (wR (wR (wR M 278 0 (some 279)) 278 1 (some 280)) 278 2 (some 281)) 278 3 (some 282)) 278 4 (some 283)) 278 5 (some 284)) 278 6 (some 285)) 278 7 (some 286)) 278 8 (some 287)) 278 9 (some 288)) 278 10 (some 289)) 278 11 (some 290)) 278 12 (some 291)) 278 13 (some 292)).1 293 = fun _ => 0 from h1 293 (by omega)) rfl rfl rfl (fun _ _ h => h) (zmem ac_int) (by decide) (by decide) (by decide) (Nat.le_of_ble_eq_true rfl) (Nat.le_of_ble_eq_true rfl) d_R_init_125 ?_
  refine x_re (cells' := 15) (slots' := 1404) (N' := 294) rfl rfl rfl rfl ?_
  refine x_putF (pc := 127) K (n := 278) (n' := 293) (k := 14) uY_R tk_R nm_R (by omega) shR rfl rfl (by decide) (fun _ q => zmem (uw_R _ q)) (zmem lk_R_53) rfl hmn rfl rfl rfl d_R_init_127 ?_
  refine x_aload_n (pc := 130) K 0 d_R_init_130 rfl ?_
  refine x_bipush (pc := 131) K (v := nI 14) d_R_init_131 (by decide) ?_
  refine x_newi (pc := 133) K (t := 0) (n9 := 14) (ty := .int) (by omega) (Or.inl (by omega)) sh294 (show (wR (wR (wR (wR (wR (wR (wR (wR (wR (wR (wR (wR (wR (wR (wR M 278 0 (some 279)) 278 1 (some 280)) 278 2 (some 281)) 278 3 (some 282)) 278 4 (some 283)) 278 5 (some 284)) 278 6 (some 285)) 278 7 (some 286)) 278 8 (some 287)) 278 9 (some 288)) 278 10 (some 289)) 278 11 (some 290)) 278 12 (some 291)) 278 13 (some 292)) 278 14 (some 293)).1 294 = fun _ => 0 from h1 294 (by omega)) rfl rfl rfl (fun _ _ h => h) (zmem ac_int) (by decide) (by decide) (by decide) (Nat.le_of_ble_eq_true rfl) (Nat.le_of_ble_eq_true rfl) d_R_init_133 ?_
  refine x_re (cells' := 16) (slots' := 1418) (N' := 295) rfl rfl rfl rfl ?_
  refine x_putF (pc := 135) K (n := 278) (n' := 294) (k := 21) uY_R tk_R nm_R (by omega) shR rfl rfl (by decide) (fun _ q => zmem (uw_R _ q)) (zmem lk_R_56) rfl hmn rfl rfl rfl d_R_init_135 ?_
  exact x_vret (pc := 138) K rfl rfl d_R_init_138
