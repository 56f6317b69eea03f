/-! FLAT MEMORY. Every cell that the law's run makes has a NAME, a number: its address is base + name. A memory M gives each name's ints (M.1 name place) and references by name (M.2 name place); zSh says what kind of cell a name is. -/
abbrev fl_M : Type := (Nat → Nat → Int32) × (Nat → Nat → Option Nat)
abbrev fl_H : Type := (Nat × List Bool) ⊕ (Nat × Nat × Bool)
abbrev fl_W : Type := va_G × (Nat → ClassId) × Nat
def fl_v (b : Nat) (i : Int32) (r : Option Nat) (k : Bool) : Value := match k with
  | true => va_rf (r.map (fun n => b + n))
  | false => .int i
def fl_fs (b : Nat) (fi : Nat → Int32) (fr : Nat → Option Nat) : Nat → List Bool → List Value
  | _, [] => []
  | k, x :: xs => fl_v b (fi k) (fr k) x :: fl_fs b fi fr (k + 1) xs
theorem fl_fs_get (b : Nat) (fi : Nat → Int32) (fr : Nat → Option Nat) : ∀ (bs : List Bool) (k j : Nat), (fl_fs b fi fr k bs)[j]? = (bs[j]?).map (fun x => fl_v b (fi (k + j)) (fr (k + j)) x) := by
  intro bs
  induction bs with
  | nil => intro k j; simp [fl_fs]
  | cons x xs ih =>
    intro k j
    cases j with
    | zero => simp [fl_fs]
    | succ j =>
      simp only [fl_fs, List.getElem?_cons_succ]
      rw [ih (k + 1) j, show k + 1 + j = k + (j + 1) by omega]
theorem fl_fs_len (b : Nat) (fi : Nat → Int32) (fr : Nat → Option Nat) : ∀ (bs : List Bool) (k : Nat), (fl_fs b fi fr k bs).length = bs.length := by
  intro bs
  induction bs with
  | nil => intro k; rfl
  | cons x xs ih => intro k; simp [fl_fs, ih]
theorem fl_fs_set {b : Nat} {fi fi' : Nat → Int32} {fr fr' : Nat → Option Nat} {bs : List Bool} {j : Nat} {v : Value} (h : ∀ i, i ≠ j → fi' i = fi i ∧ fr' i = fr i) (hv : ∀ x, bs[j]? = some x → fl_v b (fi' j) (fr' j) x = v) : (fl_fs b fi fr 0 bs).set j v = fl_fs b fi' fr' 0 bs := by
  apply List.ext_getElem?
  intro i
  rw [List.getElem?_set, fl_fs_len, fl_fs_get, fl_fs_get]
  simp only [Nat.zero_add]
  by_cases h1 : j = i
  · subst h1
    rw [if_pos rfl]
    by_cases h2 : j < bs.length
    · rw [if_pos h2, List.getElem?_eq_getElem h2]
      simp only [Option.map_some]
      rw [hv _ (List.getElem?_eq_getElem h2)]
    · rw [if_neg h2, List.getElem?_eq_none (by omega)]
      rfl
  · rw [if_neg h1, (h i (Ne.symm h1)).1, (h i (Ne.symm h1)).2]
def fl_c (w : fl_W) (sh : fl_H) (fi : Nat → Int32) (fr : Nat → Option Nat) : va_E := match sh with
  | .inl (ci, bs) => .inr (ci, fl_fs w.2.2 fi fr 0 bs)
  | .inr (t, n, false) => .inl (w.2.1 t, n, .inl fi)
  | .inr (t, n, true) => .inl (w.2.1 t, n, .inr (.inr (.inr (.inr (fun i => (fr i).map (fun n => w.2.2 + n))))))
def fl_ws (sh : Nat → fl_H) (w : fl_W) (N : Nat) (M : fl_M) : va_W := (List.range N).map (fun n => (w.2.2 + n, fl_c w (sh n) (M.1 n) (M.2 n)))
theorem fl_ws_len {sh : Nat → fl_H} {w : fl_W} {N : Nat} {M : fl_M} : (fl_ws sh w N M).length = N := by simp [fl_ws]
theorem fl_ws_get {sh : Nat → fl_H} {w : fl_W} {N n : Nat} {M : fl_M} (h : n < N) : (fl_ws sh w N M)[n]? = some (w.2.2 + n, fl_c w (sh n) (M.1 n) (M.2 n)) := by
  simp [fl_ws, h]
theorem fl_ws_at {sh : Nat → fl_H} {w : fl_W} {N n : Nat} {M : fl_M} {q : Nat × va_E} (h : (fl_ws sh w N M)[n]? = some q) : n < N ∧ q = (w.2.2 + n, fl_c w (sh n) (M.1 n) (M.2 n)) := by
  have hl := (List.getElem?_eq_some_iff.mp h).1
  rw [fl_ws_len] at hl
  rw [fl_ws_get hl] at h
  exact ⟨hl, (Option.some.inj h).symm⟩
theorem fl_ws_set {sh : Nat → fl_H} {w : fl_W} {N n : Nat} {M M' : fl_M} {e : va_E} (ho : ∀ k, k ≠ n → M'.1 k = M.1 k ∧ M'.2 k = M.2 k) (he : e = fl_c w (sh n) (M'.1 n) (M'.2 n)) : (fl_ws sh w N M).set n (w.2.2 + n, e) = fl_ws sh w N M' := by
  apply List.ext_getElem?
  intro i
  rw [List.getElem?_set, fl_ws_len]
  by_cases h1 : n = i
  · subst h1
    rw [if_pos rfl]
    by_cases h2 : n < N
    · rw [if_pos h2, fl_ws_get h2, he]
    · rw [if_neg h2, List.getElem?_eq_none (by rw [fl_ws_len]; omega)]
  · rw [if_neg h1]
    by_cases h2 : i < N
    · rw [fl_ws_get h2, fl_ws_get h2, (ho i (Ne.symm h1)).1, (ho i (Ne.symm h1)).2]
    · rw [List.getElem?_eq_none (by rw [fl_ws_len]; omega), List.getElem?_eq_none (by rw [fl_ws_len]; omega)]
theorem fl_ws_D {sh : Nat → fl_H} {w : fl_W} {N : Nat} {M : fl_M} : va_D (fun q : Nat => w.2.2 ≤ q) (fl_ws sh w N M) := by
  refine ⟨fun i j p q hp hq hpq => ?_, fun k q hq => ?_⟩
  · rw [(fl_ws_at hp).2, (fl_ws_at hq).2] at hpq
    dsimp only at hpq
    omega
  · rw [(fl_ws_at hq).2]
    show w.2.2 ≤ w.2.2 + k
    omega
/-- stores -/
def fl_u {α : Type} (f : Nat → Nat → α) (n k : Nat) (v : α) : Nat → Nat → α := fun a b => if a = n ∧ b = k then v else f a b
def wI (M : fl_M) (n k : Nat) (v : Int32) : fl_M := (fl_u M.1 n k v, M.2)
def wR (M : fl_M) (n k : Nat) (r : Option Nat) : fl_M := (M.1, fl_u M.2 n k r)
theorem fl_u_self {α : Type} {f : Nat → Nat → α} {n k : Nat} {v : α} : fl_u f n k v n k = v := if_pos ⟨rfl, rfl⟩
theorem fl_u_row {α : Type} {f : Nat → Nat → α} {n k a : Nat} {v : α} (h : a ≠ n) : fl_u f n k v a = f a := by
  funext b
  exact if_neg fun q => h q.1
theorem fl_u_col {α : Type} {f : Nat → Nat → α} {n k a b : Nat} {v : α} (h : b ≠ k) : fl_u f n k v a b = f a b := if_neg fun q => h q.2
