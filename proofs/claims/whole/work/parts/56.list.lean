/-! THE LISTS OF FINDINGS: what the class lists, and what the reference tells -/
abbrev fnT : Type := Nat × Nat × Int32
def Rep (μ : Nat → Nat → Int32) (L : List fnT) : Prop := μ 272 3 = nI L.length ∧ ∀ (i : Nat) (e : fnT), L[i]? = some e → μ 273 i = nI e.1 ∧ μ 274 i = nI e.2.1 ∧ μ 275 i = e.2.2
def wsf (H : Nat → Int32) (a : Int32) (e : fnT) : Int32 := if H (12 * e.1 + e.2.1) = 0 then (if sev (nI e.1) ≤ a then a else sev (nI e.1)) else a
def ldf (H : Nat → Int32) (r : Nat) (a : Int32) (e : fnT) : Int32 := if H (12 * e.1 + e.2.1) = 0 ∧ e.1 = r then a + 1 else a
def Tol (ν : Nat → Nat → Int32) (d : Int32) (L : List fnT) : Prop := ν 278 15 = d ∧ ν 278 16 = nI L.length ∧ (∀ (i : Nat) (e : fnT), L[i]? = some e → d = nI i → ν 278 17 = nI e.1 ∧ ν 278 18 = nI e.2.1 ∧ ν 278 19 = e.2.2) ∧ ν 278 20 = L.foldl (wsf (ν 291)) 0 ∧ ∀ r, r < 14 → ν 294 r = L.foldl (ldf (ν 291) r) 0
theorem Rep_cg {μ μ' : Nat → Nat → Int32} {L : List fnT} (e3 : μ' 272 3 = μ 272 3) (e : ∀ a i, 273 ≤ a → a ≤ 275 → μ' a i = μ a i) (h : Rep μ L) : Rep μ' L := by
  refine ⟨e3.trans h.1, fun i f hf => ?_⟩
  rw [e 273 i (by omega) (by omega), e 274 i (by omega) (by omega), e 275 i (by omega) (by omega)]
  exact h.2 i f hf
theorem Tol_cg {ν ν' : Nat → Nat → Int32} {d : Int32} {L : List fnT} (e : ∀ a i, (a = 278 ∨ a = 291 ∨ a = 294) → ν' a i = ν a i) (h : Tol ν d L) : Tol ν' d L := by
  have eh : ν' 291 = ν 291 := by
    funext i
    exact e 291 i (by omega)
  obtain ⟨h1, h2, h3, h4, h5⟩ := h
  unfold Tol
  rw [e 278 15 (by omega), e 278 16 (by omega), e 278 17 (by omega), e 278 18 (by omega), e 278 19 (by omega), e 278 20 (by omega), eh]
  refine ⟨h1, h2, h3, h4, fun r hr => ?_⟩
  rw [e 294 r (by omega)]
  exact h5 r hr
theorem snoc_get {L : List fnT} {x e : fnT} {i : Nat} (h : (L ++ [x])[i]? = some e) : (i < L.length ∧ L[i]? = some e) ∨ (i = L.length ∧ e = x) := by
  rcases Nat.lt_or_ge i L.length with q | q
  · rw [List.getElem?_append_left q] at h
    exact Or.inl ⟨q, h⟩
  · rw [List.getElem?_append_right q] at h
    rcases Nat.eq_zero_or_pos (i - L.length) with z | z
    · rw [z] at h
      have h' : some x = some e := h
      exact Or.inr ⟨by omega, (Option.some.inj h').symm⟩
    · rw [List.getElem?_eq_none (show [x].length ≤ i - L.length from z)] at h
      cases h
theorem Rep_add {X : fl_M} {L : List fnT} {r t : Nat} {d : Int32} (h : Rep X.1 L) (hl : L.length < 636) : Rep (cAdd X (nI r) (nI t) d).1 (L ++ [(r, t, d)]) := by
  have hz : cz X.1 = L.length := by
    unfold cz
    rw [h.1, ix_nI (by omega)]
  unfold cAdd
  rw [if_pos (by rw [hz]; exact hl), hz]
  constructor
  · rw [rdI_eq, List.length_append]
    rfl
  · intro i e he
    rcases snoc_get he with ⟨q, hf⟩ | ⟨q, hf⟩
    · rw [rdI_ne (by omega), rdI_ne (by omega), rdI_ne (by omega), rdI_ne (by omega), rdI_ne (by omega), rdI_ne (by omega), rdI_ne (by omega), rdI_ne (by omega), rdI_ne (by omega), rdI_ne (by omega), rdI_ne (by omega), rdI_ne (by omega)]
      exact h.2 i e hf
    · rw [q, hf]
      refine ⟨?_, ?_, ?_⟩
      · rw [rdI_ne (by omega), rdI_ne (by omega), rdI_ne (by omega), rdI_eq]
      · rw [rdI_ne (by omega), rdI_ne (by omega), rdI_eq]
      · rw [rdI_ne (by omega), rdI_eq]
theorem te1_rd {Y : fl_M} {r t a j : Nat} {d : Int32} (h : ¬ (a = 278 ∧ 17 ≤ j ∧ j ≤ 19)) : (te1 Y r t d).1 a j = Y.1 a j := by
  unfold te1
  split
  · rw [rdI_ne (by omega), rdI_ne (by omega), rdI_ne (by omega)]
  · rfl
theorem te4_rd {Z : fl_M} {r a j : Nat} (h : ¬ (a = 278 ∧ j = 20)) : (te4 Z r).1 a j = Z.1 a j := by
  unfold te4
  split
  · rfl
  · rw [rdI_ne (by omega)]
theorem te3_rd {Z : fl_M} {r t a j : Nat} (h : ¬ (a = 278 ∧ j = 20)) (h2 : a ≠ 294) : (te3 Z r t).1 a j = Z.1 a j := by
  unfold te3
  split
  · rw [te4_rd h, rdI_ne (Or.inl h2)]
  · rfl
theorem te3_20 {Z : fl_M} {r t : Nat} : (te3 Z r t).1 278 20 = if Z.1 291 (12 * r + t) = 0 then (if sev (nI r) ≤ Z.1 278 20 then Z.1 278 20 else sev (nI r)) else Z.1 278 20 := by
  unfold te3
  by_cases h : Z.1 291 (12 * r + t) = 0
  · rw [if_pos h, if_pos h]
    have e : (wI Z 294 r (Z.1 294 r + 1)).1 278 20 = Z.1 278 20 := rdI_ne (by omega)
    generalize wI Z 294 r (Z.1 294 r + 1) = W at e ⊢
    unfold te4
    by_cases c : sev (nI r) ≤ Z.1 278 20
    · have c' : sev (nI r) ≤ W.1 278 20 := by rw [e]; exact c
      rw [if_pos c', if_pos c, e]
    · have c' : ¬ sev (nI r) ≤ W.1 278 20 := by rw [e]; exact c
      rw [if_neg c', if_neg c, rdI_eq]
  · rw [if_neg h, if_neg h]
theorem te3_294 {Z : fl_M} {r t j : Nat} : (te3 Z r t).1 294 j = if Z.1 291 (12 * r + t) = 0 ∧ r = j then Z.1 294 j + 1 else Z.1 294 j := by
  unfold te3
  by_cases h : Z.1 291 (12 * r + t) = 0
  · rw [if_pos h, te4_rd (by omega)]
    by_cases q : r = j
    · rw [if_pos ⟨h, q⟩, q, rdI_eq]
    · rw [if_neg (fun z => q z.2), rdI_ne (Or.inr (fun z => q z.symm))]
  · rw [if_neg h, if_neg (fun z => h z.1)]
theorem Tol_add {Y : fl_M} {L : List fnT} {r t : Nat} {d e : Int32} (h : Tol Y.1 d L) (hl : L.length < 636) : Tol (tel Y r t e).1 d (L ++ [(r, t, e)]) := by
  obtain ⟨h1, h2, h3, h4, h5⟩ := h
  have zr : ∀ a j, ¬ (a = 278 ∧ 16 ≤ j ∧ j ≤ 19) → (te2 (te1 Y r t e)).1 a j = Y.1 a j := fun a j q => by
    unfold te2
    rw [rdI_ne (by omega), te1_rd (by omega)]
  have z16 : (te2 (te1 Y r t e)).1 278 16 = nI (L.length + 1) := by
    unfold te2
    rw [rdI_eq, te1_rd (by omega), h2, nI_1]
  have zt : Y.1 278 16 = Y.1 278 15 → (te2 (te1 Y r t e)).1 278 17 = nI r ∧ (te2 (te1 Y r t e)).1 278 18 = nI t ∧ (te2 (te1 Y r t e)).1 278 19 = e := fun q => by
    unfold te2
    rw [rdI_ne (by omega), rdI_ne (by omega), rdI_ne (by omega)]
    unfold te1
    rw [if_pos q]
    refine ⟨?_, ?_, ?_⟩
    · rw [rdI_ne (by omega), rdI_ne (by omega), rdI_eq]
    · rw [rdI_ne (by omega), rdI_eq]
    · rw [rdI_eq]
  have zf : ¬ Y.1 278 16 = Y.1 278 15 → ∀ j, 17 ≤ j → (te2 (te1 Y r t e)).1 278 j = Y.1 278 j := fun q j hj => by
    unfold te2
    rw [rdI_ne (by omega)]
    unfold te1
    rw [if_neg q]
  unfold tel
  generalize te2 (te1 Y r t e) = Z at zr z16 zt zf ⊢
  have hH : (te3 Z r t).1 291 = Y.1 291 := by
    funext j
    rw [te3_rd (by omega) (by omega), zr _ _ (by omega)]
  unfold Tol
  rw [hH, te3_rd (a := 278) (j := 15) (by omega) (by omega), te3_rd (a := 278) (j := 16) (by omega) (by omega), te3_rd (a := 278) (j := 17) (by omega) (by omega), te3_rd (a := 278) (j := 18) (by omega) (by omega), te3_rd (a := 278) (j := 19) (by omega) (by omega)]
  refine ⟨?_, ?_, ?_, ?_, ?_⟩
  · rw [zr _ _ (by omega)]
    exact h1
  · rw [z16, List.length_append]
    rfl
  · intro i f hf hd
    rcases snoc_get hf with ⟨q, hf⟩ | ⟨q, hf⟩
    · have hne : ¬ Y.1 278 16 = Y.1 278 15 := by
        rw [h2, h1, hd]
        intro z
        have := nI_inj (by omega) (by omega) z
        omega
      rw [zf hne 17 (by omega), zf hne 18 (by omega), zf hne 19 (by omega)]
      exact h3 i f hf hd
    · rw [hf]
      exact zt (by rw [h2, h1, hd, q])
  · rw [List.foldl_append, te3_20, zr _ _ (by omega), zr _ _ (by omega), h4]
    rfl
  · intro r' hr'
    rw [List.foldl_append, te3_294, zr _ _ (by omega), zr _ _ (by omega), h5 r' hr']
    rfl
/-- both went on, and both added D -/
def STG (X X' Y Y' : fl_M) (D : List fnT) : Prop := (∀ e ∈ D, e.1 < 14 ∧ e.2.1 < 12) ∧ ∀ L : List fnT, L.length + D.length ≤ 636 → (Rep X.1 L → Rep X'.1 (L ++ D)) ∧ ∀ d, Tol Y.1 d L → Tol Y'.1 d (L ++ D)
theorem STG.tr {X X' X'' Y Y' Y'' : fl_M} {D E : List fnT} (h : STG X X' Y Y' D) (g : STG X' X'' Y' Y'' E) : STG X X'' Y Y'' (D ++ E) := by
  refine ⟨fun e he => (List.mem_append.mp he).elim (h.1 e) (g.1 e), fun L hl => ?_⟩
  rw [List.length_append] at hl
  have h1 := h.2 L (by omega)
  have h2 := g.2 (L ++ D) (by rw [List.length_append]; omega)
  rw [List.append_assoc] at h2
  exact ⟨fun q => h2.1 (h1.1 q), fun d q => h2.2 d (h1.2 d q)⟩
theorem STG.keep {X X' Y Y' : fl_M} (e3 : X'.1 272 3 = X.1 272 3) (e : ∀ a i, 273 ≤ a → a ≤ 275 → X'.1 a i = X.1 a i) (g : ∀ a i, (a = 278 ∨ a = 291 ∨ a = 294) → Y'.1 a i = Y.1 a i) : STG X X' Y Y' [] := by
  refine ⟨fun e he => absurd he (List.not_mem_nil), fun L _ => ?_⟩
  rw [List.append_nil]
  exact ⟨Rep_cg e3 e, fun d => Tol_cg g⟩
theorem STG.nil {X Y : fl_M} : STG X X Y Y [] := STG.keep rfl (fun _ _ _ _ => rfl) (fun _ _ _ => rfl)
theorem STG.mfd {X Y : fl_M} {b t : Nat} {k key : Int32} : STG X X Y (mFd Y b t k key) [] := STG.keep rfl (fun _ _ _ _ => rfl) (fun a i h => mFd_rd (by omega) (by omega))
theorem STG.add {X Y : fl_M} {r t : Nat} {d : Int32} (hr : r < 14) (ht : t < 12) : STG X (cAdd X (nI r) (nI t) d) Y (tel Y r t d) [(r, t, d)] := by
  refine ⟨fun e he => ?_, fun L hl => ?_⟩
  · rw [List.mem_singleton.mp he]
    exact ⟨hr, ht⟩
  · have hl' : L.length + 1 ≤ 636 := hl
    exact ⟨fun h => Rep_add h (by omega), fun d' h => Tol_add h (by omega)⟩
/-- how often -/
noncomputable def ct (P : Nat → Prop) : Nat → Nat → Nat
  | _, 0 => 0
  | i, k + 1 => cIf (P i) 1 0 + ct P (i + 1) k
theorem ct_t {P : Nat → Prop} {i k : Nat} (h : P i) : ct P i (k + 1) = 1 + ct P (i + 1) k := by
  show cIf (P i) 1 0 + ct P (i + 1) k = _
  rw [cIf_t h]
theorem ct_f {P : Nat → Prop} {i k : Nat} (h : ¬ P i) : ct P i (k + 1) = ct P (i + 1) k := by
  show cIf (P i) 1 0 + ct P (i + 1) k = _
  rw [cIf_f h, Nat.zero_add]
theorem cIf_le {P : Prop} : cIf P 1 0 ≤ 1 := by
  by_cases h : P
  · rw [cIf_t h]; exact Nat.le_refl 1
  · rw [cIf_f h]; exact Nat.zero_le 1
theorem ct2 {P Q : Nat → Prop} {c : Nat} (h : ∀ i, i < c → cIf (P i) 1 0 + cIf (Q i) 1 0 ≤ 1) : ∀ (k i : Nat), i + k ≤ c → ct P i k + ct Q i k ≤ k := by
  intro k
  induction k with
  | zero => intro i _; exact Nat.le_refl _
  | succ k ih =>
    intro i hi
    have h1 := h i (by omega)
    have h2 := ih (i + 1) (by omega)
    show cIf (P i) 1 0 + ct P (i + 1) k + (cIf (Q i) 1 0 + ct Q (i + 1) k) ≤ k + 1
    omega
theorem ct7 {P : Nat → Nat → Prop} {c : Nat} (h : ∀ i, i < c → cIf (P 5 i) 1 0 + cIf (P 6 i) 1 0 + cIf (P 7 i) 1 0 + cIf (P 8 i) 1 0 + cIf (P 9 i) 1 0 + cIf (P 10 i) 1 0 + cIf (P 11 i) 1 0 ≤ 4) : ∀ (k i : Nat), i + k ≤ c → ct (P 5) i k + ct (P 6) i k + ct (P 7) i k + ct (P 8) i k + ct (P 9) i k + ct (P 10) i k + ct (P 11) i k ≤ 4 * k := by
  intro k
  induction k with
  | zero => intro i _; exact Nat.le_refl _
  | succ k ih =>
    intro i hi
    have h1 := h i (by omega)
    have h2 := ih (i + 1) (by omega)
    show cIf (P 5 i) 1 0 + ct (P 5) (i + 1) k + (cIf (P 6 i) 1 0 + ct (P 6) (i + 1) k) + (cIf (P 7 i) 1 0 + ct (P 7) (i + 1) k) + (cIf (P 8 i) 1 0 + ct (P 8) (i + 1) k) + (cIf (P 9 i) 1 0 + ct (P 9) (i + 1) k) + (cIf (P 10 i) 1 0 + ct (P 10) (i + 1) k) + (cIf (P 11 i) 1 0 + ct (P 11) (i + 1) k) ≤ 4 * (k + 1)
    omega
