abbrev rm_M_init : Room := { frames := 1, cells := 0, slots := 0, locals := 12 }
abbrev rm_T_init : Room := { frames := 2, cells := 10, slots := 51, locals := 40 }
abbrev rm_B_init : Room := { frames := 3, cells := 134, slots := 756, locals := 61 }
abbrev rm_C_init : Room := { frames := 1, cells := 4, slots := 1916, locals := 20 }
abbrev rm_J_init : Room := { frames := 4, cells := 277, slots := 3454, locals := 82 }
abbrev rm_R_init : Room := { frames := 1, cells := 16, slots := 1418, locals := 20 }
section XRE
variable {p : Program} {l : Launch} {e : Env} {R : Room} {s : State} {m : MethodId} {args : Array Value} {below : List Frame} {meth : Method} {c : Code} {nL cells slots : Nat} {Q : State → Prop} {w : fl_W} {N : Nat} {M : fl_M} {pc : Nat} {lv : List (Nat × Value)} {st : List Value}
theorem x_re {cells' slots' N' : Nat} {M' : fl_M} (h1 : cells = cells') (h2 : slots = slots') (h3 : N = N') (h4 : M = M') (k : XW p l e R s m args below meth c nL cells' slots' Q w N' M' pc lv st) : XW p l e R s m args below meth c nL cells slots Q w N M pc lv st := by
  subst h1; subst h2; subst h3; subst h4; exact k
theorem zcwI {own : String} {a : Cond} {y : MethodName} {bytes : ByteArray} {maxL index n k ms : Nat} {C : String} {rm : Room} (hts : ∀ t ∈ a :: zG, t.before args s = true) (hl : Cond.methodLink own index y ∈ zG) (hi : Cond.instanceMethod y ∈ zG) (hin : Cond.initialized C ∈ zG) (hco : Cond.code y bytes maxL none ∈ zG) (hyn : y.name = "<init>") (hd : y.cls = C ∧ y.cls ≠ "java/lang/invoke/MethodHandle" ∧ y.cls ≠ "java/lang/invoke/VarHandle" ∧ (parseMethodDescriptor y.desc).map (fun d => d.parameters.length) = some n) (hrc : rm.cells = k ∧ rm.slots = ms) (hR : rm.frames + 1 ≤ R.frames ∧ 8 + (maxL + 11) + rm.locals ≤ R.locals) : CallB R s args own index y bytes maxL none (.code y bytes maxL none :: zG) rm k ms n ∧ y.name = "<init>" ∧ (Cond.instanceMethod y).before args s = true :=
  cwI n hts (zsub hco) rfl hrc.1 hrc.2 (hts _ (by rw [hd.1]; exact zmem hin)) (hts _ (zmem hl)) (hts _ (zmem hi)) hyn hd.2 hR
end XRE
set_option maxHeartbeats 4000000 in
theorem c_M_init (l : Launch) (w : fl_W) (M : fl_M) (N n : Nat) : CN l y_M_init w_M_init rm_M_init w N 0 0 [.ref (w.2.2 + n)] M M := by
  refine CN.of (cc := b_M_init) (own := "CompatibilityJudge$Member") (by decide) rfl rfl rfl (Nat.le_of_ble_eq_true rfl) ?_
  intro p9 e9 s9 m9 ag9 bl9 mt9 c9 K hs0 hmn
  refine x_aload_n (pc := 0) K 0 d_M_init_0 rfl ?_
  refine x_objInit (pc := 1) K (zmem lk_M_3) (zmem im_O_init) (zmem co_O_init) (by decide) (by decide) d_M_init_1 ?_
  exact x_vret (pc := 4) K rfl rfl d_M_init_4
/-- a new type at n: no parent, no superclass; its arrays and members behind it -/
def cTr (M : fl_M) (n i : Nat) : fl_M := (fun a k => M.1 a k, fun a k => if a = n ∧ k = 4 then some (n + 1) else if a = n ∧ k = 6 then some (n + 2) else if a = n + 2 ∧ k < i then some (n + 3 + k) else M.2 a k)
def cT (M : fl_M) (n : Nat) : fl_M := wI (wI (cTr M n 8) n 3 (-1)) n 8 (-1)
theorem cTr_0 {M : fl_M} {n : Nat} : wR (wR M n 4 (some (n + 1))) n 6 (some (n + 2)) = cTr M n 0 := by
  refine Prod.ext rfl ?_
  funext a k
  simp only [wR, cTr, fl_u]
  by_cases h1 : a = n ∧ k = 6
  · rw [if_pos h1, if_neg (by omega), if_pos h1]
  · rw [if_neg h1]
    by_cases h2 : a = n ∧ k = 4
    · rw [if_pos h2, if_pos h2]
    · rw [if_neg h2, if_neg h2, if_neg h1, if_neg (by omega)]
theorem cTr_s {M : fl_M} {n i : Nat} : wR (cTr M n i) (n + 2) i (some (n + 3 + i)) = cTr M n (i + 1) := by
  refine Prod.ext rfl ?_
  funext a k
  simp only [wR, cTr, fl_u]
  by_cases h1 : a = n + 2 ∧ k = i
  · rw [if_pos h1, if_neg (by omega), if_neg (by omega), if_pos (by omega), h1.2]
  · rw [if_neg h1]
    by_cases h2 : a = n ∧ k = 4
    · rw [if_pos h2, if_pos h2]
    · rw [if_neg h2, if_neg h2]
      by_cases h3 : a = n ∧ k = 6
      · rw [if_pos h3, if_pos h3]
      · rw [if_neg h3, if_neg h3]
        by_cases h4 : a = n + 2 ∧ k < i
        · rw [if_pos h4, if_pos (by omega)]
        · rw [if_neg h4, if_neg (by omega)]
theorem hfsM {b : Nat} : ∀ j, j < 5 → defaultValue (uY_M j) = vp_V (fl_fs b (fun _ => 0) (fun _ => none) 0 [false, false, false, false, false]) j := by
  intro j hj
  rcases (show j = 0 ∨ j = 1 ∨ j = 2 ∨ j = 3 ∨ j = 4 by omega) with rfl | rfl | rfl | rfl | rfl <;> rfl
theorem hfsT {b : Nat} : ∀ j, j < 10 → defaultValue (uY_T j) = vp_V (fl_fs b (fun _ => 0) (fun _ => none) 0 [false, false, false, false, true, false, true, false, false, false]) j := by
  intro j hj
  rcases (show j = 0 ∨ j = 1 ∨ j = 2 ∨ j = 3 ∨ j = 4 ∨ j = 5 ∨ j = 6 ∨ j = 7 ∨ j = 8 ∨ j = 9 by omega) with rfl | rfl | rfl | rfl | rfl | rfl | rfl | rfl | rfl | rfl <;> rfl
theorem hfsB {b : Nat} : ∀ j, j < 2 → defaultValue (uY_B j) = vp_V (fl_fs b (fun _ => 0) (fun _ => none) 0 [true, true]) j := by
  intro j hj
  rcases (show j = 0 ∨ j = 1 by omega) with rfl | rfl <;> rfl
theorem hfsC {b : Nat} : ∀ j, j < 6 → defaultValue (uY_C j) = vp_V (fl_fs b (fun _ => 0) (fun _ => none) 0 [true, true, true, false, false, true]) j := by
  intro j hj
  rcases (show j = 0 ∨ j = 1 ∨ j = 2 ∨ j = 3 ∨ j = 4 ∨ j = 5 by omega) with rfl | rfl | rfl | rfl | rfl | rfl <;> rfl
set_option maxHeartbeats 4000000 in
set_option maxRecDepth 100000 in
theorem lp_T_init (l : Launch) (w : fl_W) (M : fl_M) (n : Nat) (hT : zSh n = zsT) (h1 : ∀ a, n ≤ a → M.1 a = fun _ => 0) (h2 : ∀ a, n ≤ a → M.2 a = fun _ => none) {p9 : Program} {e9 : Env} {s9 : State} {m9 : MethodId} {ag9 : Array Value} {bl9 : List Frame} {mt9 : Method} {c9 : Code} (K : XC p9 s9 m9 ag9 mt9 c9 b_T_init 2 none w_T_init "CompatibilityJudge$Type" w) (hs0 : s9.heap.size = w.2.2 + (n + 1)) (hmn : mt9.name = "<init>") : ∀ (k i : Nat), i ≤ 8 → 9 ≤ i + k → XW p9 l e9 rm_T_init s9 m9 ag9 bl9 mt9 c9 2 (2 + i) (11 + 5 * i) (MQ bl9 (CQ w (n + 1 + 10) none (cT M n)) ag9 s9 10 51 (fun q : Nat => w.2.2 ≤ q)) w (n + 3 + i) (cTr M n i) 22 [(1, .int (nI i)), (0, .ref (w.2.2 + n))] [] := by
  intro k
  induction k with
  | zero =>
    intro i hi hk
    exact absurd hk (by omega)
  | succ k ih =>
    intro i hi hk
    refine x_iload_n (pc := 22) K 0 d_T_init_22 rfl ?_
    refine x_bipush (pc := 23) K (v := nI 8) d_T_init_23 (by decide) ?_
    refine x_icmp_ge (pc := 25) K (tgt := 47) d_T_init_25 (by decide) (fun c25 => ?_) (fun c25 => ?_)
    · have hic : i = 8 := by have := (nI_leI (a := 8) (by omega) (by omega)).mp c25; omega
      subst hic
      refine x_aload_n (pc := 47) K 1 d_T_init_47 rfl ?_
      refine x_iconst (pc := 48) K (v := (-1)) d_T_init_48 (by decide) ?_
      refine x_puti (pc := 49) K (n := n) (k := 3) (x := (-1)) uY_T tk_T nm_T (by omega) hT rfl rfl (by decide) (fun _ q => zmem (uw_T _ q)) (zmem lk_T_22) rfl rfl rfl d_T_init_49 ?_
      refine x_aload_n (pc := 52) K 1 d_T_init_52 rfl ?_
      refine x_iconst (pc := 53) K (v := (-1)) d_T_init_53 (by decide) ?_
      refine x_puti (pc := 54) K (n := n) (k := 8) (x := (-1)) uY_T tk_T nm_T (by omega) hT rfl rfl (by decide) (fun _ q => zmem (uw_T _ q)) (zmem lk_T_26) rfl rfl rfl d_T_init_54 ?_
      exact x_vret (pc := 57) K rfl rfl d_T_init_57
    · have hic : i < 8 := Nat.not_le.mp (fun q => c25 (nI_le (a := 8) q (by omega)))
      refine x_aload_n (pc := 28) K 1 d_T_init_28 rfl ?_
      refine x_getr (pc := 29) K (n := n) (n' := n + 2) (k := 6) (by omega) hT rfl (by simp [cTr]) rfl (by decide) (fun _ q => zmem (uw_T _ q)) (zmem lk_T_17) d_T_init_29 ?_
      refine x_iload_n (pc := 32) K 0 d_T_init_32 rfl ?_
      refine x_new (pc := 33) K uY_M tk_M (by omega) (Or.inl (by omega)) (shTm hT hic) (h1 _ (by omega)) (show (cTr M n i).2 (n + 3 + i) = fun _ => none from by funext k9; simp only [cTr]; rw [if_neg (by omega), if_neg (by omega), if_neg (by omega), h2 _ (by omega)]) rfl (fun _ q => zmem (uw_M _ q)) (zmem lk_T_15) (zmem in_M) (zmem ii_M) hfsM (show 2 + i + 1 ≤ 10 by omega) (show 11 + 5 * i + 5 ≤ 51 by omega) d_T_init_33 ?_
      refine x_dup (pc := 36) K d_T_init_36 rfl ?_
      refine x_callIN (pc := 37) K (n0 := n + 3 + i) (c_M_init l w _ _ _) ⟨va_cnB 0 K.ts (zsub co_M_init) rfl rfl rfl K.S.2.1.1 (K.ts _ (zmem ii_M)) pd_M_init.2 ⟨by decide, by decide⟩, rfl, K.ts _ (zmem im_M_init)⟩ (by omega) (by omega) (Nat.le_of_ble_eq_true rfl) ⟨show 2 + i + 1 + 0 ≤ 10 by omega, show 11 + 5 * i + 5 + 0 ≤ 51 by omega⟩ d_T_init_37 ?_
      refine x_aast (pc := 40) K (n := n + 2) (n' := n + 3 + i) (j := i) rfl hic (by omega) (shTa hT) rfl (by omega) (shTm hT hic) rfl (by decide) d_T_init_40 ?_
      refine x_iinc (pc := 41) K (v := nI (i + 1)) (lv' := [(1, .int (nI (i + 1))), (0, .ref (w.2.2 + n))]) 0 d_T_init_41 rfl (nI_1 _) (by decide) rfl ?_
      refine x_goto (pc := 44) K (tgt := 22) d_T_init_44 (by decide) ?_
      refine x_re (cells' := 2 + (i + 1)) (slots' := 11 + 5 * (i + 1)) (N' := n + 3 + (i + 1)) (by omega) (by omega) (by omega) cTr_s ?_
      exact ih (i + 1) (by omega) (by omega)
set_option maxHeartbeats 4000000 in
set_option maxRecDepth 100000 in
theorem c_T_init (l : Launch) (w : fl_W) (M : fl_M) (n : Nat) (hT : zSh n = zsT) (h1 : ∀ a, n ≤ a → M.1 a = fun _ => 0) (h2 : ∀ a, n ≤ a → M.2 a = fun _ => none) : CN l y_T_init w_T_init rm_T_init w (n + 1) 10 51 [.ref (w.2.2 + n)] M (cT M n) := by
  refine CN.of (cc := b_T_init) (own := "CompatibilityJudge$Type") (by decide) rfl rfl rfl (Nat.le_of_ble_eq_true rfl) ?_
  intro p9 e9 s9 m9 ag9 bl9 mt9 c9 K hs0 hmn
  refine x_aload_n (pc := 0) K 0 d_T_init_0 rfl ?_
  refine x_objInit (pc := 1) K (zmem lk_T_3) (zmem im_O_init) (zmem co_O_init) (by decide) (by decide) d_T_init_1 ?_
  refine x_aload_n (pc := 4) K 0 d_T_init_4 rfl ?_
  refine x_iconst (pc := 5) K (v := nI 3) d_T_init_5 (by decide) ?_
  refine x_newi (pc := 6) K (t := 0) (n9 := 3) (ty := .int) (by omega) (Or.inl (by omega)) (shTi hT) (h1 _ (by omega)) rfl rfl rfl (fun _ _ h => h) (zmem ac_int) (by decide) (by decide) (by decide) (Nat.le_of_ble_eq_true rfl) (Nat.le_of_ble_eq_true rfl) d_T_init_6 ?_
  refine x_putF (pc := 8) K (n := n) (n' := n + 1) (k := 4) uY_T tk_T nm_T (by omega) hT rfl rfl (by decide) (fun _ q => zmem (uw_T _ q)) (zmem lk_T_9) rfl hmn rfl rfl rfl d_T_init_8 ?_
  refine x_aload_n (pc := 11) K 0 d_T_init_11 rfl ?_
  refine x_bipush (pc := 12) K (v := nI 8) d_T_init_12 (by decide) ?_
  refine x_anew (pc := 14) K (t := 4) (n9 := 8) (by omega) (Or.inl (by omega)) (shTa hT) (show (wR M n 4 (some (n + 1))).2 (n + 1 + 1) = fun _ => none from by funext k9; exact rdR_ne (by omega) (congrFun (h2 _ (by omega)) k9)) rfl (zmem lk_T_15) K.S.2.2.2.2 (by decide) (by decide) (by decide) (Nat.le_of_ble_eq_true rfl) (Nat.le_of_ble_eq_true rfl) d_T_init_14 ?_
  refine x_putF (pc := 17) K (n := n) (n' := n + 2) (k := 6) uY_T tk_T nm_T (by omega) hT rfl rfl (by decide) (fun _ q => zmem (uw_T _ q)) (zmem lk_T_17) rfl hmn rfl rfl rfl d_T_init_17 ?_
  refine x_iconst (pc := 20) K (v := nI 0) d_T_init_20 (by decide) ?_
  refine x_istore_n (pc := 21) K (lv' := [(1, .int (nI 0)), (0, .ref (w.2.2 + n))]) d_T_init_21 (by decide) rfl ?_
  refine x_re (cells' := 2 + 0) (slots' := 11 + 5 * 0) (N' := n + 3 + 0) (by omega) (by omega) (by omega) cTr_0 ?_
  exact lp_T_init l w M n hT h1 h2 K hs0 hmn 9 0 (by omega) (by omega)
