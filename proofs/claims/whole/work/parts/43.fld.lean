/-! LOOKING UP A FIELD: a table of owners W that answers for both -/
def fl1 (μ : Nat → Nat → Int32) (b n : Nat) (W : Nat → Int32) : Nat → Nat → Option Int32
  | _, 0 => none
  | i, k + 1 => if isI μ b (μ (n + 1) i) ∧ ¬ W (ix (μ (n + 1) i)) = 12 then some (W (ix (μ (n + 1) i))) else fl1 μ b n W (i + 1) k
def fz1 (μ : Nat → Nat → Int32) (n : Nat) (W : Nat → Int32) (F : Option Int32) : Int32 := match F with
  | some v => v
  | none => if μ n 8 = -1 then 12 else W (ix (μ n 8))
def ff1 (μ : Nat → Nat → Int32) (b : Nat) (key : Int32) (W : Nat → Int32) (t : Nat) : Int32 := if tOwn μ (b + 2 + 11 * t) 0 key = none then fz1 μ (b + 2 + 11 * t) W (fl1 μ b (b + 2 + 11 * t) W 0 (cI μ (b + 2 + 11 * t))) else nI t
theorem fol_1 {μ : Nat → Nat → Int32} {b n : Nat} : ∀ (k i : Nat), fol μ b n i k = fl1 μ b n (μ (b + 134)) i k := by
  intro k
  induction k with
  | zero => intro i; rfl
  | succ k ih => intro i; unfold fol fl1; rw [ih]
theorem fof_1 {μ : Nat → Nat → Int32} {b t : Nat} {key : Int32} : fof μ b t key = ff1 μ b key (μ (b + 134)) t := by
  unfold fof ff1
  rw [fol_1]
  rfl
section FLDS
variable {μ ν : Nat → Nat → Int32} {b x : Nat} {key : Int32}
theorem cD_face (h : bG μ b) {t i : Nat} (ht : t < 12) (hi : i < cI μ (b + 2 + 11 * t)) (hI : isI μ b (μ (b + 2 + 11 * t + 1) i)) : cD μ b t (ix (μ (b + 2 + 11 * t + 1) i)) := by
  have z := h.face ht i hi
  have z2 := z.2
  refine ⟨ht, by omega, Or.inr ⟨by rw [← z.1]; exact hI, i, hi, z.1⟩⟩
theorem cD_sup (h : bG μ b) {t : Nat} (ht : t < 12) (hs : ¬ μ (b + 2 + 11 * t) 8 = -1) : cD μ b t (ix (μ (b + 2 + 11 * t) 8)) := by
  have z := (h.sup ht).resolve_left hs
  have z2 := z.2
  exact ⟨ht, by omega, Or.inl z.1⟩
theorem fl1_cg (h : bG μ b) {t : Nat} (ht : t < 12) {W W' : Nat → Int32} (e : ∀ u, cD μ b t u → W u = W' u) : ∀ (k i : Nat), i + k ≤ cI μ (b + 2 + 11 * t) → fl1 μ b (b + 2 + 11 * t) W i k = fl1 μ b (b + 2 + 11 * t) W' i k := by
  intro k
  induction k with
  | zero => intro i _; rfl
  | succ k ih =>
    intro i hi
    unfold fl1
    rw [ih (i + 1) (by omega)]
    by_cases hI : isI μ b (μ (b + 2 + 11 * t + 1) i)
    · rw [e _ (cD_face h ht (by omega) hI)]
    · rw [if_neg (fun q => hI q.1), if_neg (fun q => hI q.1)]
theorem ff1_cg (h : bG μ b) {t : Nat} (ht : t < 12) {W W' : Nat → Int32} (e : ∀ u, cD μ b t u → W u = W' u) : ff1 μ b key W t = ff1 μ b key W' t := by
  unfold ff1
  rw [fl1_cg h ht e _ _ (by omega)]
  cases fl1 μ b (b + 2 + 11 * t) W' 0 (cI μ (b + 2 + 11 * t)) with
  | some v => rfl
  | none =>
    unfold fz1
    by_cases hs : μ (b + 2 + 11 * t) 8 = -1
    · simp only [if_pos hs]
    · simp only [if_neg hs]
      rw [e _ (cD_sup h ht hs)]
def owA (μ : Nat → Nat → Int32) (b : Nat) (key : Int32) : Nat → Nat → Int32
  | 0, _ => 12
  | k + 1, t => ff1 μ b key (owA μ b key k) t
theorem owA_eq (h : bG μ b) : ∀ (t k k' : Nat), t < 12 → t < k → t < k' → owA μ b key k t = owA μ b key k' t := by
  intro t
  induction t using Nat.strongRecOn with
  | ind t ih =>
    intro k k' ht hk hk'
    obtain ⟨k, rfl⟩ : ∃ j, k = j + 1 := ⟨k - 1, by omega⟩
    obtain ⟨k', rfl⟩ : ∃ j, k' = j + 1 := ⟨k' - 1, by omega⟩
    unfold owA
    refine ff1_cg h ht (fun u hu => ?_)
    have := cD_lt h hu
    exact ih u this k k' (by omega) (by omega) (by omega)
/-- the owner's number as looking up a field ends, or 12 -/
abbrev oW (μ : Nat → Nat → Int32) (b : Nat) (key : Int32) (t : Nat) : Int32 := owA μ b key 12 t
theorem oW_fix (h : bG μ b) {t : Nat} (ht : t < 12) : oW μ b key t = ff1 μ b key (oW μ b key) t := by
  show ff1 μ b key (owA μ b key 11) t = _
  refine ff1_cg h ht (fun u hu => ?_)
  have := cD_lt h hu
  exact owA_eq h u 11 12 (by omega) (by omega) (by omega)
theorem ff1_ne {t : Nat} {W : Nat → Int32} (hW : ∀ u, W u = 12 ∨ inL 12 (W u)) (ht : t < 12) : ff1 μ b key W t = 12 ∨ inL 12 (ff1 μ b key W t) := by
  unfold ff1
  by_cases ho : tOwn μ (b + 2 + 11 * t) 0 key = none
  · rw [if_pos ho]
    have hf : ∀ (k i : Nat) (v : Int32), fl1 μ b (b + 2 + 11 * t) W i k = some v → inL 12 v := by
      intro k
      induction k with
      | zero => intro i v q; cases q
      | succ k ih =>
        intro i v q
        unfold fl1 at q
        split at q
        · rename_i z
          rw [← Option.some.inj q]
          exact (hW _).resolve_left z.2
        · exact ih _ _ q
    cases hq : fl1 μ b (b + 2 + 11 * t) W 0 (cI μ (b + 2 + 11 * t)) with
    | some v => exact Or.inr (hf _ _ _ hq)
    | none =>
      unfold fz1
      by_cases hs : μ (b + 2 + 11 * t) 8 = -1
      · simp only [if_pos hs]; exact Or.inl trivial
      · simp only [if_neg hs]; exact hW _
  · rw [if_neg ho]
    exact Or.inr (inL_nI (by omega) ht)
/-- the loop of the class -/
theorem sE_rows {ν' : Nat → Nat → Int32} (e : ∀ a k, 279 ≤ a → a ≤ 290 → ν' a k = ν a k) (h : sE μ ν b x) : sE μ ν' b x := by
  intro t ht
  obtain ⟨h1, h2⟩ := h t ht
  refine ⟨by rw [e _ _ (by omega) (by omega)]; exact h1, fun hd => ?_⟩
  obtain ⟨a1, a2, a3, a4, a5, a6, a7⟩ := h2 hd
  refine ⟨by rw [e _ _ (by omega) (by omega)]; exact a1, by rw [e _ _ (by omega) (by omega)]; exact a2, by rw [e _ _ (by omega) (by omega)]; exact a3, by rw [e _ _ (by omega) (by omega)]; exact a4, by rw [e _ _ (by omega) (by omega)]; exact a5, fun i hi => by rw [e _ _ (by omega) (by omega)]; exact a6 i hi, fun i hi => ?_⟩
  obtain ⟨m1, m2, m3, m4, m5⟩ := a7 i hi
  exact ⟨by rw [e _ _ (by omega) (by omega)]; exact m1, by rw [e _ _ (by omega) (by omega)]; exact m2, by rw [e _ _ (by omega) (by omega)]; exact m3, by rw [e _ _ (by omega) (by omega)]; exact m4, fun q => by rw [e _ _ (by omega) (by omega)]; exact m5 q⟩
end FLDS
theorem fl1_rd {μ μ' : Nat → Nat → Int32} {b n : Nat} {W : Nat → Int32} (e : ∀ t k, t < 12 → μ' (b + 2 + 11 * t) k = μ (b + 2 + 11 * t) k) (e1 : ∀ k, μ' (n + 1) k = μ (n + 1) k) : ∀ (k i : Nat), (∀ j, j < i + k → inL 12 (μ (n + 1) j)) → fl1 μ' b n W i k = fl1 μ b n W i k := by
  intro k
  induction k with
  | zero => intro i _; rfl
  | succ k ih =>
    intro i hj
    unfold fl1
    rw [ih (i + 1) (fun j h => hj j (by omega)), e1]
    unfold isI tn
    rw [e _ _ (hj i (by omega)).2, e _ _ (hj i (by omega)).2]
theorem ff1_rd {μ μ' : Nat → Nat → Int32} {b t : Nat} {key : Int32} {W : Nat → Int32} (h : bG μ b) (ht : t < 12) (e : ∀ a k, b ≤ a → a < b + 134 → μ' a k = μ a k) : ff1 μ' b key W t = ff1 μ b key W t := by
  have ho : tOwn μ' (b + 2 + 11 * t) 0 key = tOwn μ (b + 2 + 11 * t) 0 key := by
    unfold tOwn cM
    rw [e _ _ (by omega) (by omega)]
    have h8 := (h.cnt ht).2.2
    exact fnd_congr _ _ (fun j _ hj => by
      have h9 : j < 0 + cM μ (b + 2 + 11 * t) := hj
      rw [e _ _ (by omega) (by omega), e _ _ (by omega) (by omega)])
  unfold ff1
  rw [ho]
  have hc : cI μ' (b + 2 + 11 * t) = cI μ (b + 2 + 11 * t) := by unfold cI; rw [e _ _ (by omega) (by omega)]
  rw [hc, fl1_rd (fun u k hu => e _ _ (by omega) (by omega)) (fun k => e _ _ (by omega) (by omega)) _ _ (fun j hj => inL_le (h.face ht j (by omega)) (by omega))]
  unfold fz1
  rw [e _ _ (by omega) (by omega)]
theorem wfl_W {M : fl_M} {b : Nat} {key set : Int32} (h : bG M.1 b) (hcl : ∀ t u, t < 12 → bt set t = true → cD M.1 b t u → bt set u = true) : ∀ (k i : Nat) (X : fl_M), i + k ≤ 12 → (∀ a j, b ≤ a → a < b + 134 → X.1 a j = M.1 a j) → (∀ u, u < i → bt set u = true → X.1 (b + 134) u = oW M.1 b key u) → ∀ u, u < i + k → bt set u = true → (wfl X b key set i k).1 (b + 134) u = oW M.1 b key u := by
  intro k
  induction k with
  | zero => intro i X _ _ hu u h1 h2; exact hu u (by omega) h2
  | succ k ih =>
    intro i X hik hX hu u h1 h2
    unfold wfl
    refine ih (i + 1) _ (by omega) ?_ ?_ u (by omega) h2
    · intro a j ha hb
      split
      · rw [rdI_ne (Or.inl (by omega))]; exact hX a j ha hb
      · exact hX a j ha hb
    · intro v hv hb
      have hcn := b_cn (x := set) (s := i) (by omega)
      by_cases hi : bt set i = true
      · rw [if_pos (hcn.mpr hi)]
        by_cases hvi : v = i
        · subst hvi
          rw [rdI_eq, fof_1, ff1_rd h (by omega) hX, oW_fix h (by omega)]
          refine ff1_cg h (by omega) (fun w hw => ?_)
          exact hu w (cD_lt h hw) (hcl v w (by omega) hi hw)
        · rw [rdI_ne (Or.inr hvi)]
          exact hu v (by omega) hb
      · rw [if_neg (fun z => hi (hcn.mp z))]
        by_cases hvi : v = i
        · subst hvi; exact absurd hb hi
        · exact hu v (by omega) hb
theorem wfM_W {M : fl_M} {b f : Nat} {key : Int32} (h : bG M.1 b) (hf : f < 12) : (wfM M b f key).1 (b + 134) f = oW M.1 b key f := by
  have hset : ∀ s, s < 32 → (bt (wfS M.1 b f) s = true ↔ TG (cD M.1 b) f s ∨ s = f) := by
    intro s hs
    unfold wfS
    rw [b_or, b_one (by omega) hs]
    simp only [Bool.or_eq_true, decide_eq_true_eq]
    rw [cls_bt h hs f hf]
  refine wfl_W h (fun t u ht h1 h2 => ?_) (f + 1) 0 M (by omega) (fun _ _ _ _ => rfl) (fun u hu => absurd hu (by omega)) f (by omega) ((hset f (by omega)).mpr (Or.inr rfl))
  have hlt := cD_lt h h2
  rw [hset u (by omega)]
  rcases (hset t (by omega)).mp h1 with q | q
  · exact Or.inl (TG_snoc q h2)
  · rw [q] at h2; exact Or.inl (TG_one h2)
