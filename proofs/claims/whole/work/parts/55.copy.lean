/-! COPY, SWAP -/
/-- a row of the class moved, and one of the reference -/
def cpT (μ μ' : Nat → Nat → Int32) (n n2 : Nat) : Prop := (∀ k, k ≤ 9 → k ≠ 4 → k ≠ 6 → μ' n k = μ n2 k) ∧ (∀ i, i < 3 → μ' (n + 1) i = μ (n2 + 1) i) ∧ ∀ i, i < cM μ n2 → ∀ k, k < 5 → μ' (n + 3 + i) k = μ (n2 + 3 + i) k
def RM (r r' : Nat) (ν ν' : Nat → Nat → Int32) : Prop := (∀ a, 279 ≤ a → a ≤ 285 → a ≠ 284 → ν' a r' = ν a r) ∧ (∀ i, i < 3 → ν' 284 (3 * r' + i) = ν 284 (3 * r + i)) ∧ ∀ a i, 286 ≤ a → a ≤ 290 → i < 8 → ν' a (8 * r' + i) = ν a (8 * r + i)
section MV
variable {μ μ' ν ν' : Nat → Nat → Int32} {n n2 r r' b b2 : Nat}
theorem rE_mv (hc : tOk μ n2) (c : cpT μ μ' n n2) (k : RM r r' ν ν') (h : rE μ ν n2 r) : rE μ' ν' n r' := by
  have h8 := hc.2.2
  have h3 := hc.1.2
  obtain ⟨q, qi, qm⟩ := c
  obtain ⟨k1, k2, k3⟩ := k
  unfold rE cI cM
  rw [q 0 (by omega) (by omega) (by omega), q 1 (by omega) (by omega) (by omega), q 2 (by omega) (by omega) (by omega), q 3 (by omega) (by omega) (by omega), q 5 (by omega) (by omega) (by omega), q 7 (by omega) (by omega) (by omega), k1 279 (by omega) (by omega) (by omega), k1 280 (by omega) (by omega) (by omega), k1 281 (by omega) (by omega) (by omega), k1 282 (by omega) (by omega) (by omega), k1 283 (by omega) (by omega) (by omega), k1 285 (by omega) (by omega) (by omega)]
  refine ⟨h.1, fun hd => ?_⟩
  obtain ⟨a1, a2, a3, a4, a5, a6, a7⟩ := h.2 hd
  refine ⟨a1, a2, a3, a4, a5, fun i hi => ?_, fun i hi => ?_⟩
  · have hi' : i < cI μ n2 := hi
    rw [k2 i (by omega), qi i (by omega)]
    exact a6 i hi
  · have hi' : i < cM μ n2 := hi
    obtain ⟨m1, m2, m3, m4, m5⟩ := a7 i hi
    unfold mE
    rw [k3 286 i (by omega) (by omega) (by omega), k3 287 i (by omega) (by omega) (by omega), k3 288 i (by omega) (by omega) (by omega), k3 289 i (by omega) (by omega) (by omega), k3 290 i (by omega) (by omega) (by omega), qm i hi' 0 (by omega), qm i hi' 1 (by omega), qm i hi' 2 (by omega), qm i hi' 3 (by omega), qm i hi' 4 (by omega)]
    exact ⟨m1, m2, m3, m4, m5⟩
theorem rI_mv {x x' t : Nat} (k : RM (12 * x + t) (12 * x' + t) ν ν') (h : rI ν x t) : rI ν' x' t := by
  obtain ⟨k1, k2, k3⟩ := k
  obtain ⟨⟨⟨a1, a2⟩, a3, a4⟩, a5, a6, a7⟩ := h
  unfold rI rC qF qM
  rw [k1 279 (by omega) (by omega) (by omega), k1 282 (by omega) (by omega) (by omega), k1 283 (by omega) (by omega) (by omega), k1 285 (by omega) (by omega) (by omega)]
  refine ⟨⟨⟨a1, a2⟩, a3, a4⟩, a5, fun hd => ⟨(a6 hd).1, fun i hi => ?_⟩, fun i hi => ?_⟩
  · have hi' : i < qF ν (12 * x + t) := hi
    rw [k2 i (by omega)]
    exact (a6 hd).2 i hi
  · rw [k3 289 i (by omega) (by omega) hi]
    exact a7 i hi
theorem gth_mv (e : ∀ u k, u < 12 → (k = 0 ∨ k = 1 ∨ k = 9) → μ' (b + 2 + 11 * u) k = μ (b2 + 2 + 11 * u) k) (e1 : ∀ i, i < 3 → μ' (n + 1) i = μ (n2 + 1) i) : ∀ (k i : Nat) (a : Int32), i + k ≤ 3 → (∀ j, j < i + k → inL 12 (μ (n2 + 1) j)) → gth μ' b n i k a = gth μ b2 n2 i k a := by
  intro k
  induction k with
  | zero => intro i a _ _; rfl
  | succ k ih =>
    intro i a h3 hj
    have hi := (hj i (by omega)).2
    unfold gth
    rw [ih (i + 1) _ (by omega) (fun j h => hj j (by omega)), e1 i (by omega)]
    unfold isI tn
    rw [e _ 0 hi (by omega), e _ 1 hi (by omega), e _ 9 hi (by omega)]
theorem gat_mv (e : ∀ u k, u < 12 → (k = 0 ∨ k = 1 ∨ k = 9) → μ' (b + 2 + 11 * u) k = μ (b2 + 2 + 11 * u) k) (hc : tOk μ n2) (hf : ∀ i, i < cI μ n2 → inL 12 (μ (n2 + 1) i)) (hs : μ n2 8 = -1 ∨ inL 12 (μ n2 8)) (c : cpT μ μ' n n2) : gat μ' b n = gat μ b2 n2 := by
  have h3 := hc.1.2
  have hci : cI μ' n = cI μ n2 := by unfold cI; rw [c.1 5 (by omega) (by omega) (by omega)]
  unfold gat
  rw [hci, gth_mv e c.2.1 _ _ _ (by omega) (fun j hj => hf j (by omega))]
  congr 1
  unfold gt0
  rw [c.1 8 (by omega) (by omega) (by omega)]
  rcases hs with q | q
  · rw [if_pos q, if_pos q]
  · have := inL_m1 (by omega) q
    rw [if_neg this, if_neg this]
    unfold tn
    rw [e _ 9 q.2 (by omega)]
/-- a baseline copied whole -/
theorem bG_mv (c : ∀ t, t < 12 → cpT μ μ' (b + 2 + 11 * t) (b2 + 2 + 11 * t)) (hf : foOk μ' b) (h : bG μ b2) : bG μ' b := by
  have hr : ∀ t, t < 12 → ∀ k, k ≤ 9 → k ≠ 4 → k ≠ 6 → μ' (b + 2 + 11 * t) k = μ (b2 + 2 + 11 * t) k := fun t ht => (c t ht).1
  have hci : ∀ t, t < 12 → cI μ' (b + 2 + 11 * t) = cI μ (b2 + 2 + 11 * t) := fun t ht => by unfold cI; rw [hr t ht 5 (by omega) (by omega) (by omega)]
  have hcm : ∀ t, t < 12 → cM μ' (b + 2 + 11 * t) = cM μ (b2 + 2 + 11 * t) := fun t ht => by unfold cM; rw [hr t ht 7 (by omega) (by omega) (by omega)]
  refine ⟨⟨fun t ht => ?_, fun t ht => ?_, hf⟩, fun t ht => ⟨?_, ?_, ?_⟩⟩
  · obtain ⟨⟨⟨t1, t2⟩, t3, t4⟩, z, f, p⟩ := h.1.1 t ht
    unfold bTy tOk
    rw [hci t ht, hcm t ht, hr t ht 5 (by omega) (by omega) (by omega), hr t ht 7 (by omega) (by omega) (by omega), hr t ht 0 (by omega) (by omega) (by omega), hr t ht 3 (by omega) (by omega) (by omega)]
    refine ⟨⟨⟨t1, t2⟩, t3, t4⟩, z, fun i hi => ?_, p⟩
    rw [(c t ht).2.1 i (by omega)]
    exact f i hi
  · unfold bSc
    rw [hr t ht 8 (by omega) (by omega) (by omega)]
    exact h.1.2.1 t ht
  · obtain ⟨l1, l2, l3, l4, l5⟩ := h.leg ht
    unfold tL
    rw [hcm t ht, hr t ht 0 (by omega) (by omega) (by omega), hr t ht 1 (by omega) (by omega) (by omega), hr t ht 2 (by omega) (by omega) (by omega), hr t ht 3 (by omega) (by omega) (by omega), hr t ht 5 (by omega) (by omega) (by omega), hr t ht 7 (by omega) (by omega) (by omega)]
    refine ⟨l1, l2, l3, l4, fun i hi => ?_⟩
    have := l5 i hi
    unfold mL at this ⊢
    rw [(c t ht).2.2 i hi 0 (by omega), (c t ht).2.2 i hi 2 (by omega), (c t ht).2.2 i hi 3 (by omega)]
    exact this
  · rw [hr t ht 8 (by omega) (by omega) (by omega), hr t ht 3 (by omega) (by omega) (by omega), h.s8 ht]
    have hC : isC μ' b (μ (b2 + 2 + 11 * t) 3) ↔ isC μ b2 (μ (b2 + 2 + 11 * t) 3) := by
      rcases h.par ht with q | q
      · rw [q]
        exact ⟨fun z => absurd z not_isC_m1, fun z => absurd z not_isC_m1⟩
      · unfold isC tn
        rw [hr _ (by have := q.2; omega) 0 (by omega) (by omega) (by omega), hr _ (by have := q.2; omega) 1 (by omega) (by omega) (by omega)]
    by_cases q : isC μ b2 (μ (b2 + 2 + 11 * t) 3)
    · rw [if_pos q, if_pos (hC.mpr q)]
    · rw [if_neg q, if_neg (fun z => q (hC.mp z))]
  · rw [hr t ht 9 (by omega) (by omega) (by omega), h.s9 ht]
    exact (gat_mv (fun u k hu hk => hr u hu k (by omega) (by omega) (by omega)) (h.cnt ht) (fun i hi => inL_le (h.face ht i hi) (by omega)) ((h.sup ht).imp id (fun q => inL_le q (by omega))) (c t ht)).symm
end MV
/-! the class's copying, cell by cell -/
theorem mc1_rd {X : fl_M} {n n2 k a j : Nat} : (mCp1 X n n2 k).1 a j = if a = n ∧ j = k then X.1 n2 k else X.1 a j := by
  unfold mCp1
  by_cases h : a = n ∧ j = k
  · rw [if_pos h, h.1, h.2, rdI_eq]
  · rw [if_neg h, rdI_ne (by omega)]
theorem mc1_n {X : fl_M} {ρ : Nat → Int32} {n n2 k : Nat} (hne : n2 ≠ n) (P : ∀ j, X.1 n2 j = ρ j) : (∀ j, (mCp1 X n n2 k).1 n2 j = ρ j) ∧ (∀ j, (mCp1 X n n2 k).1 n j = if j = k then ρ k else X.1 n j) ∧ ∀ a j, a ≠ n → (mCp1 X n n2 k).1 a j = X.1 a j := by
  refine ⟨fun j => ?_, fun j => ?_, fun a j h => ?_⟩
  · rw [mc1_rd, if_neg (fun q => hne q.1)]
    exact P j
  · rw [mc1_rd]
    by_cases h : j = k
    · rw [if_pos ⟨rfl, h⟩, if_pos h, P]
    · rw [if_neg (fun q => h q.2), if_neg h]
  · rw [mc1_rd, if_neg (fun q => h q.1)]
theorem tbl_eq {n n2 : Nat} (hne : n2 + 11 ≤ n ∨ n + 11 ≤ n2) : ∀ (k i : Nat) (M : fl_M), i + k ≤ 8 → (∀ u, i ≤ u → u < i + k → ∀ j, j < 5 → (tbl M n n2 i k).1 (n + 3 + u) j = M.1 (n2 + 3 + u) j) ∧ ∀ a j, ¬ (n + 3 + i ≤ a ∧ a < n + 3 + i + k) → (tbl M n n2 i k).1 a j = M.1 a j := by
  intro k
  induction k with
  | zero => intro i M _; exact ⟨fun u h1 h2 => absurd h1 (by omega), fun a j _ => rfl⟩
  | succ k ih =>
    intro i M hk
    unfold tbl
    obtain ⟨h1, h2⟩ := ih (i + 1) (mCp M (n + 3 + i) (n2 + 3 + i)) (by omega)
    refine ⟨fun u hu1 hu2 j hj => ?_, fun a j ha => ?_⟩
    · by_cases hui : u = i
      · rw [hui, h2 _ _ (by omega), mCp_rd, if_pos ⟨rfl, hj⟩]
      · rw [h1 u (by omega) (by omega) j hj, mCp_rd, if_neg (by omega)]
    · rw [h2 a j (by omega), mCp_rd, if_neg (by omega)]
theorem tBec_cp {M : fl_M} {n n2 : Nat} (hne : n2 + 11 ≤ n ∨ n + 11 ≤ n2) (h8 : cM M.1 n2 ≤ 8) : cpT M.1 (tBec M n n2).1 n n2 := by
  have d : n2 ≠ n := by omega
  obtain ⟨a1, a2, a3⟩ := mc1_n (X := M) (ρ := M.1 n2) (k := 0) d (fun _ => rfl)
  obtain ⟨b1, b2, b3⟩ := mc1_n (k := 1) d a1
  obtain ⟨c1, c2, c3⟩ := mc1_n (k := 2) d b1
  obtain ⟨d1, d2, d3⟩ := mc1_n (k := 3) d c1
  have hX : tBc1 M n n2 = mCp1 (mCp1 (mCp1 (mCp1 M n n2 0) n n2 1) n n2 2) n n2 3 := rfl
  rw [← hX] at d1 d2 d3
  have dd : ∀ a j, a ≠ n → (tBc1 M n n2).1 a j = M.1 a j := fun a j h => by rw [d3 a j h, c3 a j h, b3 a j h, a3 a j h]
  have w1 : ∀ j, (wA (tBc1 M n n2) (n + 1) (va_cpy ((tBc1 M n n2).1 (n2 + 1)) ((tBc1 M n n2).1 (n + 1)) 0 0 3)).1 n2 j = M.1 n2 j := fun j => by rw [rdA_ne (by omega), d1]
  obtain ⟨e1, e2, e3⟩ := mc1_n (k := 5) d w1
  have hY : tBc2 M n n2 = mCp1 (wA (tBc1 M n n2) (n + 1) (va_cpy ((tBc1 M n n2).1 (n2 + 1)) ((tBc1 M n n2).1 (n + 1)) 0 0 3)) n n2 5 := rfl
  rw [← hY] at e1 e2 e3
  have y1 : ∀ i, i < 3 → (tBc2 M n n2).1 (n + 1) i = M.1 (n2 + 1) i := fun i hi => by
    rw [e3 _ _ (by omega), rdA_eq]
    unfold va_cpy
    rw [if_pos (by omega), dd _ _ (by omega)]
    exact congrArg (M.1 (n2 + 1)) (by omega)
  have yn : ∀ j, (tBc2 M n n2).1 n j = if j = 5 then M.1 n2 5 else if j = 3 then M.1 n2 3 else if j = 2 then M.1 n2 2 else if j = 1 then M.1 n2 1 else if j = 0 then M.1 n2 0 else M.1 n j := fun j => by
    rw [e2, rdA_ne (by omega), d2, c2, b2, a2]
  obtain ⟨t1, t2⟩ := tbl_eq hne (cM M.1 n2) 0 (tBc2 M n n2) (by omega)
  have hB : tBec M n n2 = mCp1 (mCp1 (mCp1 (tbl (tBc2 M n n2) n n2 0 (cM M.1 n2)) n n2 7) n n2 8) n n2 9 := rfl
  have z1 : ∀ j, (tbl (tBc2 M n n2) n n2 0 (cM M.1 n2)).1 n2 j = M.1 n2 j := fun j => by rw [t2 _ _ (by omega), e1]
  obtain ⟨f1, f2, f3⟩ := mc1_n (k := 7) d z1
  obtain ⟨g1, g2, g3⟩ := mc1_n (k := 8) d f1
  obtain ⟨h1, h2, h3⟩ := mc1_n (k := 9) d g1
  rw [← hB] at h1 h2 h3
  refine ⟨fun k h9 h4 h6 => ?_, fun i hi => ?_, fun i hi k hk => ?_⟩
  · rw [h2, g2, f2, t2 _ _ (by omega), yn]
    rcases (show k = 0 ∨ k = 1 ∨ k = 2 ∨ k = 3 ∨ k = 5 ∨ k = 7 ∨ k = 8 ∨ k = 9 by omega) with rfl | rfl | rfl | rfl | rfl | rfl | rfl | rfl <;> rfl
  · rw [h3 _ _ (by omega), g3 _ _ (by omega), f3 _ _ (by omega), t2 _ _ (by omega), y1 i hi]
  · rw [h3 _ _ (by omega), g3 _ _ (by omega), f3 _ _ (by omega), t1 i (by omega) (by omega) k hk, tBc2_rd (by omega) (by omega)]
theorem cpT_cg {μ μ1 μ' μ2 : Nat → Nat → Int32} {n n2 : Nat} (h8 : cM μ n2 ≤ 8) (e : ∀ a k, n2 ≤ a → a < n2 + 11 → μ1 a k = μ a k) (e2 : ∀ a k, n ≤ a → a < n + 11 → μ2 a k = μ' a k) (h : cpT μ1 μ' n n2) : cpT μ μ2 n n2 := by
  have hc : cM μ1 n2 = cM μ n2 := by unfold cM; rw [e _ _ (by omega) (by omega)]
  obtain ⟨h1, h2, h3⟩ := h
  refine ⟨fun k a b c => ?_, fun i hi => ?_, fun i hi k hk => ?_⟩
  · rw [e2 _ _ (by omega) (by omega), h1 k a b c, e _ _ (by omega) (by omega)]
  · rw [e2 _ _ (by omega) (by omega), h2 i hi, e _ _ (by omega) (by omega)]
  · rw [e2 _ _ (by omega) (by omega), h3 i (by rw [hc]; exact hi) k hk, e _ _ (by omega) (by omega)]
theorem bec_cp {b b2 : Nat} (hd : b2 + 135 ≤ b ∨ b + 135 ≤ b2) (hT : ∀ u, u < 12 → zSh (b + 2 + 11 * u) = zsT) (hT2 : ∀ u, u < 12 → zSh (b2 + 2 + 11 * u) = zsT) : ∀ (k t : Nat) (M : fl_M), t + k = 12 → (∀ u, u < 12 → cM M.1 (b2 + 2 + 11 * u) ≤ 8) → zM3 M.1 → (∀ u, t ≤ u → u < 12 → cpT M.1 (bec M b b2 t k).1 (b + 2 + 11 * u) (b2 + 2 + 11 * u)) ∧ (∀ a j, ¬ (b + 2 + 11 * t ≤ a ∧ a < b + 134) → (bec M b b2 t k).1 a j = M.1 a j) ∧ zM3 (bec M b b2 t k).1 := by
  intro k
  induction k with
  | zero => intro t M ht _ hz; exact ⟨fun u h1 h2 => absurd h1 (by omega), fun a j _ => rfl, hz⟩
  | succ k ih =>
    intro t M ht h8 hz
    have ho : ∀ a j, (a < b + 2 + 11 * t ∨ b + 2 + 11 * t + 11 ≤ a) → (tBec M (b + 2 + 11 * t) (b2 + 2 + 11 * t)).1 a j = M.1 a j := fun a j h => tBec_out (h8 t (by omega)) h
    have hc := tBec_cp (M := M) (n := b + 2 + 11 * t) (n2 := b2 + 2 + 11 * t) (by omega) (h8 t (by omega))
    have hz' := zM3_bec (hT t (by omega)) (hT2 t (by omega)) (h8 t (by omega)) hz
    unfold bec
    generalize tBec M (b + 2 + 11 * t) (b2 + 2 + 11 * t) = M1 at ho hc hz' ⊢
    obtain ⟨i1, i2, i3⟩ := ih (t + 1) M1 (by omega) (fun u hu => by unfold cM; rw [ho _ _ (by omega)]; exact h8 u hu) hz'
    refine ⟨fun u h1 h2 => ?_, fun a j h => ?_, i3⟩
    · by_cases hu : u = t
      · rw [hu]
        exact cpT_cg (h8 t (by omega)) (fun a k _ _ => rfl) (fun a k q1 q2 => i2 a k (by omega)) hc
      · exact cpT_cg (h8 u h2) (fun a k q1 q2 => ho a k (by omega)) (fun a k _ _ => rfl) (i1 u (by omega) h2)
    · rw [i2 a j (by omega), ho a j (by omega)]
/-! the reference's copying -/
theorem cr1_eq {f g : Nat} (hfg : f ≠ g) : ∀ (k i : Nat) (M : fl_M), i + k ≤ 3 → (∀ u, i ≤ u → u < i + k → (cr1 M f g i k).1 284 (3 * g + u) = M.1 284 (3 * f + u)) ∧ ∀ a j, ¬ (a = 284 ∧ 3 * g + i ≤ j ∧ j < 3 * g + i + k) → (cr1 M f g i k).1 a j = M.1 a j := by
  intro k
  induction k with
  | zero => intro i M _; exact ⟨fun u h1 h2 => absurd h1 (by omega), fun a j _ => rfl⟩
  | succ k ih =>
    intro i M hk
    unfold cr1
    obtain ⟨h1, h2⟩ := ih (i + 1) (wI M 284 (3 * g + i) (M.1 284 (3 * f + i))) (by omega)
    refine ⟨fun u hu1 hu2 => ?_, fun a j ha => ?_⟩
    · by_cases hui : u = i
      · rw [hui, h2 _ _ (by omega), rdI_eq]
      · rw [h1 u (by omega) (by omega), rdI_ne (by omega)]
    · rw [h2 a j (by omega), rdI_ne (by omega)]
theorem cr2_eq {f g : Nat} (hfg : f ≠ g) : ∀ (k i : Nat) (M : fl_M), i + k ≤ 8 → (∀ u a, i ≤ u → u < i + k → 286 ≤ a → a ≤ 290 → (cr2 M f g i k).1 a (8 * g + u) = M.1 a (8 * f + u)) ∧ ∀ a j, ¬ ((286 ≤ a ∧ a ≤ 290) ∧ 8 * g + i ≤ j ∧ j < 8 * g + i + k) → (cr2 M f g i k).1 a j = M.1 a j := by
  intro k
  induction k with
  | zero => intro i M _; exact ⟨fun u a h1 h2 => absurd h1 (by omega), fun a j _ => rfl⟩
  | succ k ih =>
    intro i M hk
    unfold cr2
    obtain ⟨h1, h2⟩ := ih (i + 1) (cCp M (8 * f + i) (8 * g + i)) (by omega)
    refine ⟨fun u a hu1 hu2 ha1 ha2 => ?_, fun a j ha => ?_⟩
    · by_cases hui : u = i
      · rw [hui, h2 _ _ (by omega), cCp_rd, if_pos ⟨ha1, ha2, rfl⟩]
      · rw [h1 u a (by omega) (by omega) ha1 ha2, cCp_rd, if_neg (by omega)]
    · rw [h2 a j (by omega), cCp_rd, if_neg (by omega)]
theorem cRw_eq {M : fl_M} {f g : Nat} (hfg : f ≠ g) : RM f g M.1 (cRw M f g).1 ∧ ∀ a j, ¬ ((279 ≤ a ∧ a ≤ 285 ∧ a ≠ 284 ∧ j = g) ∨ (a = 284 ∧ 3 * g ≤ j ∧ j < 3 * g + 3) ∨ (286 ≤ a ∧ a ≤ 290 ∧ 8 * g ≤ j ∧ j < 8 * g + 8)) → (cRw M f g).1 a j = M.1 a j := by
  have h := cHd_rd M f g
  have hR : cRw M f g = cr2 (cr1 (cHd M f g) f g 0 3) f g 0 8 := rfl
  obtain ⟨p1, p2⟩ := cr1_eq hfg 3 0 (cHd M f g) (by omega)
  generalize cr1 (cHd M f g) f g 0 3 = P at hR p1 p2
  obtain ⟨q1, q2⟩ := cr2_eq hfg 8 0 P (by omega)
  rw [← hR] at q1 q2
  refine ⟨⟨fun a h1 h2 h3 => ?_, fun i hi => ?_, fun a i h1 h2 h3 => ?_⟩, fun a j hn => ?_⟩
  · rw [q2 _ _ (by omega), p2 _ _ (by omega), h, if_pos (by omega)]
  · rw [q2 _ _ (by omega), p1 i (by omega) (by omega), h, if_neg (by omega)]
  · rw [q1 i a (by omega) (by omega) h1 h2, p2 _ _ (by omega), h, if_neg (by omega)]
  · rw [q2 _ _ (by omega), p2 _ _ (by omega), h, if_neg (by omega)]
theorem RM_cg {ν ν1 ν' ν2 : Nat → Nat → Int32} {r r' : Nat} (e : RK r ν ν1) (e2 : RK r' ν' ν2) (h : RM r r' ν1 ν') : RM r r' ν ν2 := by
  obtain ⟨h1, h2, h3⟩ := h
  refine ⟨fun a q1 q2 q3 => ?_, fun i hi => ?_, fun a i q1 q2 q3 => ?_⟩
  · rw [e2.1 a q1 q2 q3, h1 a q1 q2 q3, e.1 a q1 q2 q3]
  · rw [e2.2.1 i hi, h2 i hi, e.2.1 i hi]
  · rw [e2.2.2 a i q1 q2 q3, h3 a i q1 q2 q3, e.2.2 a i q1 q2 q3]
theorem cpl_eq : ∀ (k t : Nat) (M : fl_M), t + k = 12 → (∀ u, t ≤ u → u < 12 → RM u (12 + u) M.1 (cpl M t k).1) ∧ (∀ a j, ¬ ((279 ≤ a ∧ a ≤ 285 ∧ a ≠ 284 ∧ 12 + t ≤ j) ∨ (a = 284 ∧ 36 + 3 * t ≤ j) ∨ (286 ≤ a ∧ a ≤ 290 ∧ 96 + 8 * t ≤ j)) → (cpl M t k).1 a j = M.1 a j) ∧ (cpl M t k).2 = M.2 := by
  intro k
  induction k with
  | zero => intro t M _; exact ⟨fun u h1 h2 => absurd h1 (by omega), fun a j _ => rfl, rfl⟩
  | succ k ih =>
    intro t M ht
    unfold cpl
    obtain ⟨c1, c2⟩ := cRw_eq (M := M) (f := t) (g := 12 + t) (by omega)
    have c3 := cRw_2 (M := M) (f := t) (g := 12 + t)
    generalize cRw M t (12 + t) = M1 at c1 c2 c3 ⊢
    obtain ⟨i1, i2, i3⟩ := ih (t + 1) M1 (by omega)
    refine ⟨fun u h1 h2 => ?_, fun a j h => ?_, i3.trans c3⟩
    · by_cases hu : u = t
      · rw [hu]
        exact RM_cg RK.rf ⟨fun a q1 q2 q3 => i2 _ _ (by omega), fun i hi => i2 _ _ (by omega), fun a i q1 q2 q3 => i2 _ _ (by omega)⟩ c1
      · exact RM_cg ⟨fun a q1 q2 q3 => c2 _ _ (by omega), fun i hi => c2 _ _ (by omega), fun a i q1 q2 q3 => c2 _ _ (by omega)⟩ RK.rf (i1 u (by omega) h2)
    · rw [i2 a j (by omega), c2 a j (by omega)]
theorem op_copy {o : Nat} {M A B : fl_M} (hI : INV o M) (hA : A = xCp M o) (hB : B = cpl A 0 12) : (CIv o A ∧ RIv A.1 ∧ INV o B) ∧ tct A.1 (zb o 1) 0 12 0 = vCn B.1 1 := by
  have ho := hI.1.1.oo
  have hd := zb_d ho (x := 0) (y := 1) (by omega) (by omega) (by omega)
  have hz1 := zb_2 ho (x := 1) (by omega)
  have hz0 := zb_2 ho (x := 0) (by omega)
  have hB1 := hI.1.1.shb (x := 1) (by omega)
  have hB0 := hI.1.1.shb (x := 0) (by omega)
  have hG0 := hI.1.2.1 0 (by omega)
  obtain ⟨c1, c2, c3⟩ := bec_cp (b := zb o 1) (b2 := zb o 0) (by omega) (fun u hu => shBt hB1 hu) (fun u hu => shBt hB0 hu) 12 0 M rfl (fun u hu => (hG0.cnt hu).2.2) hI.1.2.2.1
  have c4 := bec_2 (b := zb o 1) (b2 := zb o 0) 12 0 M
  unfold xCp at hA
  generalize bec M (zb o 1) (zb o 0) 0 12 = Y at hA c1 c2 c3 c4
  have hGY : bG Y.1 (zb o 1) := bG_mv (fun t ht => c1 t (by omega) ht) (fun t ht => by rw [c2 _ _ (by omega)]; exact (hI.1.2.1 1 (by omega)).1.2.2 t ht) hG0
  obtain ⟨s1, s2, s3⟩ := stale_CIv (x0 := 1) (by omega) hI.1 c4 hGY (fun a k q => c2 a k (by omega)) c3
  rw [← hA] at s1 s2 s3
  have rA : ∀ a k, a < 272 → A.1 a k = Y.1 a k := fun a k q => by rw [hA, rdI_ne (by omega)]
  obtain ⟨p1, p2, p3⟩ := cpl_eq 12 0 A rfl
  rw [← hB] at p1 p2 p3
  have hR : RIv A.1 := RIv_cg (fun a k q1 q2 => s3 a k (by omega)) hI.2.2.1
  have hSM : SIv o M.1 A.1 := SIv_ref (fun a k q1 q2 => s3 a k (by omega)) hI.2.2.2.1
  have hRB : RIv B.1 := by
    intro x t hx ht
    rcases (show x = 0 ∨ x = 1 by omega) with rfl | rfl
    · exact rI_cg ⟨fun a q1 q2 q3 => p2 _ _ (by omega), fun i hi => p2 _ _ (by omega), fun a i q1 q2 q3 => p2 _ _ (by omega)⟩ (hR 0 t hx ht)
    · have := p1 t (by omega) ht
      exact rI_mv (x := 0) (x' := 1) (by rw [show 12 * 0 + t = t by omega, show 12 * 1 + t = 12 + t by omega]; exact this) (hR 0 t (by omega) ht)
  have hSB : SIv o A.1 B.1 := by
    intro x hx t ht
    rcases (show x = 0 ∨ x = 1 by omega) with rfl | rfl
    · exact rE_cg (hG0.cnt ht) (fun a k q1 q2 _ => by rw [rA _ _ (by omega), c2 _ _ (by omega)]) ⟨fun a q1 q2 q3 => p2 _ _ (by omega), fun i hi => p2 _ _ (by omega), fun a i q1 q2 q3 => p2 _ _ (by omega)⟩ (hSM 0 hx t ht)
    · have h1 := p1 t (by omega) ht
      exact rE_mv (r := 12 * 0 + t) (hG0.cnt ht) (cpT_cg (hG0.cnt ht).2.2 (fun a k _ _ => rfl) (fun a k q1 q2 => rA a k (by omega)) (c1 t (by omega) ht)) (by rw [show 12 * 0 + t = t by omega, show 12 * 1 + t = 12 + t by omega]; exact h1) (hSM 0 (by omega) t ht)
  have hHB : hE A.1 B.1 := hE_cg (fun k => by rw [hA, rdI_ne (by omega), c2 _ _ (by omega)]) (fun k => by rw [p2 _ _ (by omega), s3 _ _ (by omega)]) hI.2.2.2.2
  exact ⟨⟨s1, hR, INV_of s1 s2 ⟨fun a k q => p2 a k (by omega), p3⟩ hRB hSB hHB⟩, (cnt_eq s1.2.1 hSB hHB).1 1 (by omega)⟩
/-! swap -/
def swl (S : fl_M → Nat → fl_M) (M : fl_M) : Nat → Nat → fl_M
  | _, 0 => M
  | t, k + 1 => swl S (S M t) (t + 1) k
theorem swl_rd {S : fl_M → Nat → fl_M} {H : Nat → Prop} {c : Nat} (h1 : ∀ M t a, H a → t < c → (S M t).1 a t = M.1 a (c + t) ∧ (S M t).1 a (c + t) = M.1 a t ∧ ∀ j, j ≠ t → j ≠ c + t → (S M t).1 a j = M.1 a j) (h2 : ∀ M t a j, ¬ H a → (S M t).1 a j = M.1 a j) : ∀ (k t : Nat) (M : fl_M), t + k ≤ c → (∀ a, H a → (∀ u, t ≤ u → u < t + k → (swl S M t k).1 a u = M.1 a (c + u) ∧ (swl S M t k).1 a (c + u) = M.1 a u) ∧ ∀ j, ¬ (t ≤ j ∧ j < t + k) → ¬ (c + t ≤ j ∧ j < c + t + k) → (swl S M t k).1 a j = M.1 a j) ∧ ∀ a j, ¬ H a → (swl S M t k).1 a j = M.1 a j := by
  intro k
  induction k with
  | zero => intro t M _; exact ⟨fun a _ => ⟨fun u q1 q2 => absurd q1 (by omega), fun j _ _ => rfl⟩, fun a j _ => rfl⟩
  | succ k ih =>
    intro t M hk
    unfold swl
    obtain ⟨i1, i2⟩ := ih (t + 1) (S M t) (by omega)
    refine ⟨fun a ha => ⟨fun u q1 q2 => ?_, fun j q1 q2 => ?_⟩, fun a j ha => ?_⟩
    · obtain ⟨s1, s2, s3⟩ := h1 M t a ha (by omega)
      by_cases hu : u = t
      · rw [hu, (i1 a ha).2 t (by omega) (by omega), (i1 a ha).2 (c + t) (by omega) (by omega)]
        exact ⟨s1, s2⟩
      · obtain ⟨v1, v2⟩ := (i1 a ha).1 u (by omega) (by omega)
        rw [v1, v2, s3 _ (by omega) (by omega), s3 _ (by omega) (by omega)]
        exact ⟨rfl, rfl⟩
    · rw [(i1 a ha).2 j (by omega) (by omega), (h1 M t a ha (by omega)).2.2 j (by omega) (by omega)]
    · rw [i2 a j ha, h2 M t a j ha]
theorem swl_2 {S : fl_M → Nat → fl_M} (h : ∀ M t, (S M t).2 = M.2) : ∀ (k t : Nat) (M : fl_M), (swl S M t k).2 = M.2 := by
  intro k
  induction k with
  | zero => intro t M; rfl
  | succ k ih =>
    intro t M
    unfold swl
    rw [ih, h]
theorem sw1_l : ∀ (k t : Nat) (M : fl_M), sw1 M t k = swl sH M t k := by
  intro k
  induction k with
  | zero => intro t M; rfl
  | succ k ih => intro t M; unfold sw1 swl; exact ih _ _
theorem sw2_l : ∀ (k t : Nat) (M : fl_M), sw2 M t k = swl sF M t k := by
  intro k
  induction k with
  | zero => intro t M; rfl
  | succ k ih => intro t M; unfold sw2 swl; exact ih _ _
def sC2 (X : fl_M) (u : Nat) : fl_M := sCl X u (96 + u)
theorem sC2_rd (M : fl_M) (t a j : Nat) : (sC2 M t).1 a j = if 286 ≤ a ∧ a ≤ 290 then (if j = t then M.1 a (96 + t) else if j = 96 + t then M.1 a t else M.1 a j) else M.1 a j := sCl_rd M (f := t) (g := 96 + t) (by omega) a j
theorem sw3_l : ∀ (k t : Nat) (M : fl_M), sw3 M t k = swl sC2 M t k := by
  intro k
  induction k with
  | zero => intro t M; rfl
  | succ k ih => intro t M; unfold sw3 swl; exact ih _ _
theorem sF_rd (M : fl_M) (t a j : Nat) : (sF M t).1 a j = if a = 284 then (if j = t then M.1 a (36 + t) else if j = 36 + t then M.1 a t else M.1 a j) else M.1 a j := by
  unfold sF
  by_cases ha : a = 284
  · rw [if_pos ha, ha]
    by_cases h1 : j = t
    · rw [if_pos h1, h1, rdI_ne (by omega), rdI_eq]
    · rw [if_neg h1]
      by_cases h2 : j = 36 + t
      · rw [if_pos h2, h2, rdI_eq]
      · rw [if_neg h2, rdI_ne (by omega), rdI_ne (by omega)]
  · rw [if_neg ha, rdI_ne (by omega), rdI_ne (by omega)]
theorem xSW_rd (M : fl_M) : (∀ x t, x < 2 → t < 12 → RM (12 * x + t) (12 * (1 - x) + t) M.1 (xSW M).1) ∧ (∀ a j, (a < 279 ∨ 290 < a) → (xSW M).1 a j = M.1 a j) ∧ (xSW M).2 = M.2 := by
  have e : xSW M = swl sC2 (swl sF (swl sH M 0 12) 0 36) 0 96 := by
    unfold xSW
    rw [sw1_l, sw2_l, sw3_l]
  obtain ⟨a1, a2⟩ := swl_rd (S := sH) (H := fun a => 279 ≤ a ∧ a ≤ 283 ∨ a = 285) (c := 12) (fun M t a ha ht => by
    have h := sH_rd M t a
    refine ⟨by rw [h, if_pos ha, if_pos rfl], by rw [h, if_pos ha, if_neg (by omega), if_pos rfl], fun j q1 q2 => by rw [h, if_pos ha, if_neg q1, if_neg q2]⟩) (fun M t a j ha => by rw [sH_rd, if_neg ha]) 12 0 M (by omega)
  have a3 := swl_2 (S := sH) (fun M t => rfl) 12 0 M
  generalize swl sH M 0 12 = P at e a1 a2 a3
  obtain ⟨b1, b2⟩ := swl_rd (S := sF) (H := fun a => a = 284) (c := 36) (fun M t a ha ht => by
    have h := sF_rd M t a
    refine ⟨by rw [h, if_pos ha, if_pos rfl], by rw [h, if_pos ha, if_neg (by omega), if_pos rfl], fun j q1 q2 => by rw [h, if_pos ha, if_neg q1, if_neg q2]⟩) (fun M t a j ha => by rw [sF_rd, if_neg ha]) 36 0 P (by omega)
  have b3 := swl_2 (S := sF) (fun M t => rfl) 36 0 P
  generalize swl sF P 0 36 = Q at e b1 b2 b3
  obtain ⟨c1, c2⟩ := swl_rd (S := sC2) (H := fun a => 286 ≤ a ∧ a ≤ 290) (c := 96) (fun M t a ha ht => by
    have h := sC2_rd M t a
    refine ⟨by rw [h, if_pos ha, if_pos rfl], by rw [h, if_pos ha, if_neg (by omega), if_pos rfl], fun j q1 q2 => by rw [h, if_pos ha, if_neg q1, if_neg q2]⟩) (fun M t a j ha => by rw [sC2_rd, if_neg ha]) 96 0 Q (by omega)
  have c3 := swl_2 (S := sC2) (fun M t => rfl) 96 0 Q
  rw [← e] at c1 c2 c3
  refine ⟨fun x t hx ht => ⟨fun a h1 h2 h3 => ?_, fun i hi => ?_, fun a i h1 h2 h3 => ?_⟩, fun a j h => ?_, by rw [c3, b3, a3]⟩
  · rw [c2 a _ (by omega), b2 a _ (by omega)]
    obtain ⟨v1, v2⟩ := (a1 a (by omega)).1 t (by omega) (by omega)
    rcases (show x = 0 ∨ x = 1 by omega) with rfl | rfl
    · rw [show 12 * (1 - 0) + t = 12 + t by omega, show 12 * 0 + t = t by omega]
      exact v2
    · rw [show 12 * (1 - 1) + t = t by omega, show 12 * 1 + t = 12 + t by omega]
      exact v1
  · rw [c2 284 _ (by omega)]
    obtain ⟨v1, v2⟩ := (b1 284 rfl).1 (3 * t + i) (by omega) (by omega)
    rcases (show x = 0 ∨ x = 1 by omega) with rfl | rfl
    · rw [show 3 * (12 * (1 - 0) + t) + i = 36 + (3 * t + i) by omega, show 3 * (12 * 0 + t) + i = 3 * t + i by omega, v2, a2 284 _ (by omega)]
    · rw [show 3 * (12 * (1 - 1) + t) + i = 3 * t + i by omega, show 3 * (12 * 1 + t) + i = 36 + (3 * t + i) by omega, v1, a2 284 _ (by omega)]
  · obtain ⟨v1, v2⟩ := (c1 a ⟨h1, h2⟩).1 (8 * t + i) (by omega) (by omega)
    rcases (show x = 0 ∨ x = 1 by omega) with rfl | rfl
    · rw [show 8 * (12 * (1 - 0) + t) + i = 96 + (8 * t + i) by omega, show 8 * (12 * 0 + t) + i = 8 * t + i by omega, v2, b2 a _ (by omega), a2 a _ (by omega)]
    · rw [show 8 * (12 * (1 - 1) + t) + i = 8 * t + i by omega, show 8 * (12 * 1 + t) + i = 96 + (8 * t + i) by omega, v1, b2 a _ (by omega), a2 a _ (by omega)]
  · rw [c2 a j (by omega), b2 a j (by omega), a2 a j (by omega)]
theorem zb_sw {o x : Nat} (ho : o = 2 ∨ o = 137) (hx : x < 2) : zb (139 - o) x = zb o (1 - x) := by
  rcases (show x = 0 ∨ x = 1 by omega) with rfl | rfl <;> rcases ho with rfl | rfl <;> rfl
theorem zRf_sw {o : Nat} {r : Nat → Nat → Option Nat} (h : zRf o r) : zRf (139 - o) (fl_u (fl_u r 1 0 (some (zb o 1))) 1 1 (some (zb o 0))) := by
  obtain ⟨h0, ⟨a1, a2, a3, a4, a5⟩, hb, ht, ⟨c1, c2, c3, c4⟩, hr, hr2⟩ := h
  have e : ∀ a j, a ≠ 1 → fl_u (fl_u r 1 0 (some (zb o 1))) 1 1 (some (zb o 0)) a j = r a j := fun a j ha => by
    rw [congrFun (fl_u_row ha) j, congrFun (fl_u_row ha) j]
  have nb : ∀ b, zSh b = zsB → b ≠ 1 ∧ b + 1 ≠ 1 := fun b hb => ⟨by rintro rfl; exact absurd hb (by decide +kernel), by intro q; have h9 : b = 0 := (by omega); rw [h9] at hb; exact absurd hb (by decide +kernel)⟩
  have nt : ∀ b, zSh b = zsT → b ≠ 1 ∧ b + 2 ≠ 1 := fun b hb => ⟨by rintro rfl; exact absurd hb (by decide +kernel), by omega⟩
  refine ⟨by omega, ⟨?_, ?_, ?_, ?_, ?_⟩, fun b hb9 => ?_, fun n hn => ?_, ⟨?_, ?_, ?_, ?_⟩, fun k hk => ?_, ?_⟩
  · rw [e _ _ (by decide)]; exact a1
  · rw [e _ _ (by decide)]; exact a2
  · rw [e _ _ (by decide)]; exact a3
  · rw [fl_u_col (by decide), fl_u_self]
    rcases h0 with rfl | rfl <;> rfl
  · rw [fl_u_self]
    rcases h0 with rfl | rfl <;> rfl
  · rw [e _ _ (nb b hb9).1, e _ _ (nb b hb9).1]
    refine ⟨(hb b hb9).1, (hb b hb9).2.1, fun t ht9 => ?_⟩
    rw [e _ _ (nb b hb9).2]
    exact (hb b hb9).2.2 t ht9
  · rw [e _ _ (nt n hn).1, e _ _ (nt n hn).1]
    refine ⟨(ht n hn).1, (ht n hn).2.1, fun i hi => ?_⟩
    rw [e _ _ (nt n hn).2]
    exact (ht n hn).2.2 i hi
  · rw [e _ _ (by decide)]; exact c1
  · rw [e _ _ (by decide)]; exact c2
  · rw [e _ _ (by decide)]; exact c3
  · rw [e _ _ (by decide)]; exact c4
  · rw [e _ _ (by decide)]; exact hr k hk
  · rw [e _ _ (by decide)]; exact hr2
theorem op_swap {o : Nat} {M A B : fl_M} (hI : INV o M) (hA : A = xSw M o) (hB : B = xSW A) : CIv (139 - o) A ∧ RIv A.1 ∧ INV (139 - o) B := by
  have ho := hI.1.1.oo
  obtain ⟨h1, h2, h3, h4, h5⟩ := hI.1
  have rA : ∀ a k, a ≠ 272 ∨ k ≠ 4 → A.1 a k = M.1 a k := fun a k q => by
    rw [hA]
    exact rdI_ne (M := wR (wR M 1 0 (some (zb o 1))) 1 1 (some (zb o 0))) q
  have e2 : zRf (139 - o) A.2 := by
    rw [hA]
    exact zRf_sw h1
  have hC : CIv (139 - o) A := by
    refine ⟨e2, fun x hx => ?_, zM3_cg (fun a ha => rA _ _ (by omega)) h3, ?_, lOk_cg (rA _ _ (by omega)) (fun k => rA _ _ (by omega)) (fun k => rA _ _ (by omega)) h5⟩
    · rw [zb_sw ho hx]
      have := zb_2 ho (x := 1 - x) (by omega)
      exact bG_cg (fun a k q1 q2 => rA _ _ (by omega)) (h2 (1 - x) (by omega))
    · unfold zOk cz
      rw [rA _ _ (by omega)]
      exact h4
  have hF : Fr (139 - o) A := Or.inl (by
    rw [hA]
    unfold xSw
    rw [rdI_eq]
    decide)
  obtain ⟨p1, p2, p3⟩ := xSW_rd A
  rw [← hB] at p1 p2 p3
  have hR : RIv A.1 := RIv_cg (fun a k q1 q2 => rA a k (by omega)) hI.2.2.1
  have hSM : SIv o M.1 A.1 := SIv_ref (fun a k q1 q2 => rA a k (by omega)) hI.2.2.2.1
  refine ⟨hC, hR, INV_of hC hF ⟨fun a k q => p2 a k (by omega), p3⟩ ?_ ?_ (hE_cg (fun k => rA _ _ (by omega)) (fun k => by rw [p2 _ _ (by omega), rA _ _ (by omega)]) hI.2.2.2.2)⟩
  · intro x t hx ht
    have := p1 (1 - x) t (by omega) ht
    rw [show 1 - (1 - x) = x by omega] at this
    exact rI_mv this (hR (1 - x) t (by omega) ht)
  · intro x hx t ht
    have := p1 (1 - x) t (by omega) ht
    rw [show 1 - (1 - x) = x by omega] at this
    rw [zb_sw ho hx]
    have hz := zb_2 ho (x := 1 - x) (by omega)
    exact rE_mv ((h2 (1 - x) (by omega)).cnt ht) ⟨fun k _ _ _ => rA _ _ (by omega), fun i _ => rA _ _ (by omega), fun i hi k _ => by
      have h9 := ((h2 (1 - x) (by omega)).cnt ht).2.2
      exact rA _ _ (by omega)⟩ this (hSM (1 - x) (by omega) t ht)
