/-! WHAT IS KEPT WHERE THE ROWS ARE, AND SETTLING -/
section KEEP
variable {μ μ' : Nat → Nat → Int32} {b : Nat}
theorem gth_cg {t : Nat} (ht : t < 12) (e : ∀ u k, u < t → μ' (b + 2 + 11 * u) k = μ (b + 2 + 11 * u) k) (e1 : ∀ k, μ' (b + 2 + 11 * t + 1) k = μ (b + 2 + 11 * t + 1) k) : ∀ (k i : Nat) (a : Int32), (∀ j, j < i + k → inL t (μ (b + 2 + 11 * t + 1) j)) → gth μ' b (b + 2 + 11 * t) i k a = gth μ b (b + 2 + 11 * t) i k a := by
  intro k
  induction k with
  | zero => intro i a _; rfl
  | succ k ih =>
    intro i a hj
    unfold gth
    rw [ih (i + 1) _ (fun j h => hj j (by omega)), e1]
    unfold isI tn
    rw [e _ _ (hj i (by omega)).2, e _ _ (hj i (by omega)).2, e _ _ (hj i (by omega)).2]
theorem gat_cg {t : Nat} (ht : t < 12) (hf : ∀ i, i < cI μ (b + 2 + 11 * t) → inL t (μ (b + 2 + 11 * t + 1) i)) (hs : μ (b + 2 + 11 * t) 8 = -1 ∨ inL t (μ (b + 2 + 11 * t) 8)) (e : ∀ u k, u < t → μ' (b + 2 + 11 * u) k = μ (b + 2 + 11 * u) k) (e1 : ∀ k, μ' (b + 2 + 11 * t + 1) k = μ (b + 2 + 11 * t + 1) k) (e8 : μ' (b + 2 + 11 * t) 8 = μ (b + 2 + 11 * t) 8) (e5 : μ' (b + 2 + 11 * t) 5 = μ (b + 2 + 11 * t) 5) : gat μ' b (b + 2 + 11 * t) = gat μ b (b + 2 + 11 * t) := by
  have hc : cI μ' (b + 2 + 11 * t) = cI μ (b + 2 + 11 * t) := by unfold cI; rw [e5]
  unfold gat
  rw [hc, gth_cg ht e e1 _ _ _ (fun j hj => hf j (by omega))]
  congr 1
  unfold gt0
  rw [e8]
  rcases hs with q | q
  · rw [if_pos q, if_pos q]
  · have := inL_m1 (by omega) q
    rw [if_neg this, if_neg this]
    unfold tn
    rw [e _ _ q.2]
theorem isC_cg {y : Int32} (e : ∀ u, u < 12 → μ' (b + 2 + 11 * u) 0 = μ (b + 2 + 11 * u) 0 ∧ μ' (b + 2 + 11 * u) 1 = μ (b + 2 + 11 * u) 1) (hy : y = -1 ∨ inL 12 y) : isC μ' b y ↔ isC μ b y := by
  rcases hy with rfl | hy
  · exact ⟨fun q => absurd q not_isC_m1, fun q => absurd q not_isC_m1⟩
  · unfold isC tn
    rw [(e _ hy.2).1, (e _ hy.2).2]
theorem tL_cg {n : Nat} (hc : tOk μ n) (e : ∀ a k, n ≤ a → a < n + 11 → ¬ (a = n ∧ (k = 8 ∨ k = 9)) → μ' a k = μ a k) (h : tL μ n) : tL μ' n := by
  have h8 := hc.2.2
  obtain ⟨h1, h2, h3, h4, h5⟩ := h
  have r : ∀ k, k ≠ 8 → k ≠ 9 → μ' n k = μ n k := fun k a c => e n k (by omega) (by omega) (by omega)
  unfold tL cM
  rw [r 0 (by omega) (by omega), r 1 (by omega) (by omega), r 2 (by omega) (by omega), r 3 (by omega) (by omega), r 5 (by omega) (by omega), r 7 (by omega) (by omega)]
  refine ⟨h1, h2, h3, h4, fun i hi => ?_⟩
  have hi' : i < cM μ n := hi
  have := h5 i hi'
  unfold mL at this ⊢
  rw [e _ _ (by omega) (by omega) (by omega), e _ _ (by omega) (by omega) (by omega), e _ _ (by omega) (by omega) (by omega)]
  exact this
theorem bG_cg (e : ∀ a k, b ≤ a → a < b + 135 → μ' a k = μ a k) (h : bG μ b) : bG μ' b := by
  refine ⟨⟨bOk_congr (fun t ht k _ _ => e _ _ (by omega) (by omega)) (fun t ht k => e _ _ (by omega) (by omega)) h.1.1, bSk_congr (fun t ht => e _ _ (by omega) (by omega)) h.1.2.1, fun t ht => by rw [e _ _ (by omega) (by omega)]; exact h.1.2.2 t ht⟩, fun t ht => ⟨tL_cg (h.cnt ht) (fun a k h1 h2 _ => e a k (by omega) (by omega)) (h.leg ht), ?_, ?_⟩⟩
  · rw [e _ _ (by omega) (by omega), e _ _ (by omega) (by omega), h.s8 ht]
    have := isC_cg (b := b) (μ := μ) (μ' := μ') (y := μ (b + 2 + 11 * t) 3) (fun u hu => ⟨e _ _ (by omega) (by omega), e _ _ (by omega) (by omega)⟩) ((h.par ht).imp id (fun q => inL_le q (by omega)))
    by_cases hC : isC μ b (μ (b + 2 + 11 * t) 3)
    · rw [if_pos hC, if_pos (this.mpr hC)]
    · rw [if_neg hC, if_neg (fun q => hC (this.mp q))]
  · rw [e _ _ (by omega) (by omega), h.s9 ht, gat_cg ht (h.face ht) (h.sup ht) (fun u k hu => e _ _ (by omega) (by omega)) (fun k => e _ _ (by omega) (by omega)) (e _ _ (by omega) (by omega)) (e _ _ (by omega) (by omega))]
/-- only the scratch row has changed -/
theorem bG_fo (e : ∀ a k, b ≤ a → a < b + 134 → μ' a k = μ a k) (hf : foOk μ' b) (h : bG μ b) : bG μ' b := by
  refine ⟨⟨bOk_congr (fun t ht k _ _ => e _ _ (by omega) (by omega)) (fun t ht k => e _ _ (by omega) (by omega)) h.1.1, bSk_congr (fun t ht => e _ _ (by omega) (by omega)) h.1.2.1, hf⟩, fun t ht => ⟨tL_cg (h.cnt ht) (fun a k h1 h2 _ => e a k (by omega) (by omega)) (h.leg ht), ?_, ?_⟩⟩
  · rw [e _ _ (by omega) (by omega), e _ _ (by omega) (by omega), h.s8 ht]
    have := isC_cg (b := b) (μ := μ) (μ' := μ') (y := μ (b + 2 + 11 * t) 3) (fun u hu => ⟨e _ _ (by omega) (by omega), e _ _ (by omega) (by omega)⟩) ((h.par ht).imp id (fun q => inL_le q (by omega)))
    by_cases hC : isC μ b (μ (b + 2 + 11 * t) 3)
    · rw [if_pos hC, if_pos (this.mpr hC)]
    · rw [if_neg hC, if_neg (fun q => hC (this.mp q))]
  · rw [e _ _ (by omega) (by omega), h.s9 ht, gat_cg ht (h.face ht) (h.sup ht) (fun u k hu => e _ _ (by omega) (by omega)) (fun k => e _ _ (by omega) (by omega)) (e _ _ (by omega) (by omega)) (e _ _ (by omega) (by omega))]
end KEEP
theorem stS_rd {X : fl_M} {b t a k : Nat} (h : ¬ (a = b + 2 + 11 * t ∧ (k = 8 ∨ k = 9))) : (stS X b t).1 a k = X.1 a k := by
  unfold stS
  rw [rdI_ne (by omega), rdI_ne (by omega)]
theorem stl_rd {b a k : Nat} : ∀ (j i : Nat) (X : fl_M), (∀ t, i ≤ t → t < i + j → ¬ (a = b + 2 + 11 * t ∧ (k = 8 ∨ k = 9))) → (stl X b i j).1 a k = X.1 a k := by
  intro j
  induction j with
  | zero => intro i X _; rfl
  | succ j ih =>
    intro i X h
    unfold stl
    rw [ih (i + 1) _ (fun t h1 h2 => h t (by omega) (by omega)), stS_rd (h i (by omega) (by omega))]
theorem stS_S {X : fl_M} {b i : Nat} (hi : i < 12) (hO : bOk X.1 b) : tS (stS X b i).1 b i ∧ bSc (stS X b i).1 b i := by
  have hp := (hO i hi).2.2.2
  have hf := (hO i hi).2.2.1
  have e8 : (stS X b i).1 (b + 2 + 11 * i) 8 = if isC X.1 b (X.1 (b + 2 + 11 * i) 3) then X.1 (b + 2 + 11 * i) 3 else -1 := by
    unfold stS
    rw [rdI_ne (Or.inr (by decide)), rdI_eq]
  have e3 : (stS X b i).1 (b + 2 + 11 * i) 3 = X.1 (b + 2 + 11 * i) 3 := stS_rd (by omega)
  have hC := isC_cg (b := b) (μ := X.1) (μ' := (stS X b i).1) (y := X.1 (b + 2 + 11 * i) 3) (fun u hu => ⟨stS_rd (by omega), stS_rd (by omega)⟩) (hp.imp id (fun q => inL_le q (by omega)))
  have hSc : bSc (stS X b i).1 b i := by
    unfold bSc
    rw [e8]
    by_cases q : isC X.1 b (X.1 (b + 2 + 11 * i) 3)
    · rw [if_pos q]
      exact hp
    · rw [if_neg q]
      exact Or.inl rfl
  refine ⟨⟨?_, ?_⟩, hSc⟩
  · rw [e8, e3]
    by_cases q : isC X.1 b (X.1 (b + 2 + 11 * i) 3)
    · rw [if_pos q, if_pos (hC.mpr q)]
    · rw [if_neg q, if_neg (fun z => q (hC.mp z))]
  · generalize hY : wI X (b + 2 + 11 * i) 8 (if isC X.1 b (X.1 (b + 2 + 11 * i) 3) then X.1 (b + 2 + 11 * i) 3 else -1) = Y
    have hS : stS X b i = wI Y (b + 2 + 11 * i) 9 (gat Y.1 b (b + 2 + 11 * i)) := by unfold stS; rw [hY]
    have hY8 : Y.1 (b + 2 + 11 * i) 8 = (stS X b i).1 (b + 2 + 11 * i) 8 := by rw [hS, rdI_ne (Or.inr (by decide))]
    have hYr : ∀ a k, k ≠ 8 → Y.1 a k = X.1 a k := fun a k q => by rw [← hY, rdI_ne (Or.inr q)]
    rw [hS, rdI_eq]
    refine (gat_cg hi ?_ ?_ ?_ ?_ ?_ ?_).symm
    · intro j hj
      unfold cI at hj
      rw [hYr _ _ (by decide)] at hj
      have := hf j hj
      rw [← hY, rdI_ne (Or.inl (by omega))]
      exact this
    · rw [hY8]
      exact hSc
    · intro u k hu
      rw [rdI_ne (Or.inl (by omega))]
    · intro k
      rw [rdI_ne (Or.inl (by omega))]
    · rw [rdI_ne (Or.inr (by decide))]
    · rw [rdI_ne (Or.inr (by decide))]
theorem stl_S {b : Nat} : ∀ (k i : Nat) (X : fl_M), i + k = 12 → bOk X.1 b → (∀ t, t < i → tS X.1 b t ∧ bSc X.1 b t) → bOk (stl X b i k).1 b ∧ ∀ t, t < 12 → tS (stl X b i k).1 b t ∧ bSc (stl X b i k).1 b t := by
  intro k
  induction k with
  | zero => intro i X hi hO h; exact ⟨hO, fun t ht => h t (by omega)⟩
  | succ k ih =>
    intro i X hi hO h
    unfold stl
    have hO' : bOk (stS X b i).1 b := bOk_congr (fun t ht k h8 h9 => stS_rd (by omega)) (fun t ht k => stS_rd (by omega)) hO
    refine ih (i + 1) _ (by omega) hO' (fun t ht => ?_)
    by_cases hti : t = i
    · subst hti
      exact stS_S (by omega) hO
    · obtain ⟨⟨s8, s9⟩, sc⟩ := h t (by omega)
      have hp := (hO t (by omega)).2.2.2
      have hf := (hO t (by omega)).2.2.1
      refine ⟨⟨?_, ?_⟩, ?_⟩
      · have hC := isC_cg (b := b) (μ := X.1) (μ' := (stS X b i).1) (y := X.1 (b + 2 + 11 * t) 3) (fun u hu => ⟨stS_rd (by omega), stS_rd (by omega)⟩) (hp.imp id (fun q => inL_le q (by omega)))
        rw [stS_rd (by omega), stS_rd (by omega), s8]
        by_cases q : isC X.1 b (X.1 (b + 2 + 11 * t) 3)
        · rw [if_pos q, if_pos (hC.mpr q)]
        · rw [if_neg q, if_neg (fun z => q (hC.mp z))]
      · rw [stS_rd (by omega), s9]
        exact (gat_cg (by omega) hf sc (fun u k hu => stS_rd (by omega)) (fun k => stS_rd (by omega)) (stS_rd (by omega)) (stS_rd (by omega))).symm
      · unfold bSc
        rw [stS_rd (by omega)]
        exact sc
/-- settling makes all of it hold -/
theorem stl_G {X : fl_M} {b : Nat} (hO : bOk X.1 b) (hf : foOk X.1 b) (hL : ∀ t, t < 12 → tL X.1 (b + 2 + 11 * t)) : bG (stl X b 0 12).1 b := by
  obtain ⟨h1, h2⟩ := stl_S 12 0 X rfl hO (fun t ht => absurd ht (by omega))
  refine ⟨⟨h1, fun t ht => (h2 t ht).2, fun t ht => ?_⟩, fun t ht => ⟨?_, (h2 t ht).1⟩⟩
  · rw [stl_rd _ _ _ (fun u h3 h4 => by omega)]
    exact hf t ht
  · exact tL_cg (hO t ht).1 (fun a k h3 h4 h5 => stl_rd _ _ _ (fun u h6 h7 => by omega)) (hL t ht)
