/-! THE INVARIANT, ROW BY ROW -/
def hE (μ ν : Nat → Nat → Int32) : Prop := ∀ r, r < 14 → (∀ t, t < 12 → isZ (ν 291 (12 * r + t)) ∧ (bt (μ 277 r) t = true ↔ ¬ ν 291 (12 * r + t) = 0)) ∧ ∀ i, 12 ≤ i → bt (μ 277 r) i = false
def CIv (o : Nat) (M : fl_M) : Prop := zRf o M.2 ∧ (∀ x, x < 2 → bG M.1 (zb o x)) ∧ zM3 M.1 ∧ zOk M.1 ∧ lOk M.1
def rI (ν : Nat → Nat → Int32) (b t : Nat) : Prop := rC ν (12 * b + t) ∧ isZ (ν 279 (12 * b + t)) ∧ (¬ ν 279 (12 * b + t) = 0 → (ν 282 (12 * b + t) = -1 ∨ inL t (ν 282 (12 * b + t))) ∧ ∀ i, i < qF ν (12 * b + t) → inL t (ν 284 (3 * (12 * b + t) + i))) ∧ ∀ i, i < 8 → isZ (ν 289 (8 * (12 * b + t) + i))
def RIv (ν : Nat → Nat → Int32) : Prop := ∀ b t, b < 2 → t < 12 → rI ν b t
def SIv (o : Nat) (μ ν : Nat → Nat → Int32) : Prop := ∀ x, x < 2 → sE μ ν (zb o x) x
/-- a row is kept -/
def CK (n : Nat) (μ μ' : Nat → Nat → Int32) : Prop := ∀ a k, n ≤ a → a < n + 11 → ¬ (a = n ∧ (k = 8 ∨ k = 9)) → μ' a k = μ a k
def RK (r : Nat) (ν ν' : Nat → Nat → Int32) : Prop := (∀ a, 279 ≤ a → a ≤ 285 → a ≠ 284 → ν' a r = ν a r) ∧ (∀ i, i < 3 → ν' 284 (3 * r + i) = ν 284 (3 * r + i)) ∧ ∀ a i, 286 ≤ a → a ≤ 290 → i < 8 → ν' a (8 * r + i) = ν a (8 * r + i)
section INVS
variable {μ μ' ν ν' : Nat → Nat → Int32} {o b x t n r : Nat}
theorem RIv.rCs (h : RIv ν) : rCs ν := fun r hr => by
  have := (h (r / 12) (r % 12) (by omega) (by omega)).1
  rwa [show 12 * (r / 12) + r % 12 = r by omega] at this
theorem RIv.rP (h : RIv ν) {b : Nat} (hb : b < 2) : rP ν b := fun t ht hd => (h b t hb ht).2.2.1 hd
theorem RIv.zDf (h : RIv ν) : zDf ν := fun r hr => by
  have := (h (r / 12) (r % 12) (by omega) (by omega)).2.1
  rwa [show 12 * (r / 12) + r % 12 = r by omega] at this
theorem RIv.zFx (h : RIv ν) : zFx ν := fun c hc => by
  have := (h (c / 8 / 12) (c / 8 % 12) (by omega) (by omega)).2.2.2 (c % 8) (by omega)
  rwa [show 8 * (12 * (c / 8 / 12) + c / 8 % 12) + c % 8 = c by omega] at this
theorem CK.rf : CK n μ μ := fun _ _ _ _ _ => rfl
theorem RK.rf : RK r ν ν := ⟨fun _ _ _ _ => rfl, fun _ _ => rfl, fun _ _ _ _ _ => rfl⟩
theorem rE_cg (hc : tOk μ n) (c : CK n μ μ') (k : RK r ν ν') (h : rE μ ν n r) : rE μ' ν' n r := by
  have h8 := hc.2.2
  have h3 := hc.1.2
  have q : ∀ k, k ≠ 8 → k ≠ 9 → μ' n k = μ n k := fun k a d => c n k (by omega) (by omega) (by omega)
  obtain ⟨k1, k2, k3⟩ := k
  unfold rE cI cM
  rw [q 0 (by omega) (by omega), q 1 (by omega) (by omega), q 2 (by omega) (by omega), q 3 (by omega) (by omega), q 5 (by omega) (by omega), q 7 (by omega) (by omega), k1 279 (by omega) (by omega) (by omega), k1 280 (by omega) (by omega) (by omega), k1 281 (by omega) (by omega) (by omega), k1 282 (by omega) (by omega) (by omega), k1 283 (by omega) (by omega) (by omega), k1 285 (by omega) (by omega) (by omega)]
  refine ⟨h.1, fun hd => ?_⟩
  obtain ⟨a1, a2, a3, a4, a5, a6, a7⟩ := h.2 hd
  refine ⟨a1, a2, a3, a4, a5, fun i hi => ?_, fun i hi => ?_⟩
  · have hi' : i < cI μ n := hi
    rw [k2 i (by omega), c (n + 1) i (by omega) (by omega) (by omega)]
    exact a6 i hi
  · have hi' : i < cM μ n := hi
    obtain ⟨m1, m2, m3, m4, m5⟩ := a7 i hi
    unfold mE
    rw [k3 286 i (by omega) (by omega) (by omega), k3 287 i (by omega) (by omega) (by omega), k3 288 i (by omega) (by omega) (by omega), k3 289 i (by omega) (by omega) (by omega), k3 290 i (by omega) (by omega) (by omega), c (n + 3 + i) 0 (by omega) (by omega) (by omega), c (n + 3 + i) 1 (by omega) (by omega) (by omega), c (n + 3 + i) 2 (by omega) (by omega) (by omega), c (n + 3 + i) 3 (by omega) (by omega) (by omega), c (n + 3 + i) 4 (by omega) (by omega) (by omega)]
    exact ⟨m1, m2, m3, m4, m5⟩
theorem rI_cg (k : RK (12 * b + t) ν ν') (h : rI ν b t) : rI ν' b t := by
  obtain ⟨k1, k2, k3⟩ := k
  obtain ⟨⟨⟨a1, a2⟩, a3, a4⟩, a5, a6, a7⟩ := h
  unfold rI rC qF qM
  rw [k1 279 (by omega) (by omega) (by omega), k1 282 (by omega) (by omega) (by omega), k1 283 (by omega) (by omega) (by omega), k1 285 (by omega) (by omega) (by omega)]
  refine ⟨⟨⟨a1, a2⟩, a3, a4⟩, a5, fun hd => ⟨(a6 hd).1, fun i hi => ?_⟩, fun i hi => ?_⟩
  · have hi' : i < qF ν (12 * b + t) := hi
    rw [k2 i (by omega)]
    exact (a6 hd).2 i hi
  · rw [k3 289 i (by omega) (by omega) hi]
    exact a7 i hi
/-- one row changes -/
theorem one_row {x0 t0 : Nat} (hG : ∀ x, x < 2 → bG μ (zb o x)) (hS : SIv o μ ν) (hR : RIv ν) (hC : ∀ x t, x < 2 → t < 12 → ¬ (x = x0 ∧ t = t0) → CK (zb o x + 2 + 11 * t) μ μ' ∧ RK (12 * x + t) ν ν') (h1 : rE μ' ν' (zb o x0 + 2 + 11 * t0) (12 * x0 + t0)) (h2 : rI ν' x0 t0) : SIv o μ' ν' ∧ RIv ν' := by
  constructor
  · intro x hx t ht
    by_cases h : x = x0 ∧ t = t0
    · rw [h.1, h.2]; exact h1
    · obtain ⟨c, k⟩ := hC x t hx ht h
      exact rE_cg ((hG x hx).cnt ht) c k (hS x hx t ht)
  · intro x t hx ht
    by_cases h : x = x0 ∧ t = t0
    · rw [h.1, h.2]; exact h2
    · exact rI_cg (hC x t hx ht h).2 (hR x t hx ht)
theorem zb_2 (ho : o = 2 ∨ o = 137) (hx : x < 2) : zb o x = 2 ∨ zb o x = 137 := by
  unfold zb
  split <;> omega
theorem zb_d (ho : o = 2 ∨ o = 137) {x y : Nat} (hx : x < 2) (hy : y < 2) (h : x ≠ y) : zb o x + 135 ≤ zb o y ∨ zb o y + 135 ≤ zb o x := by
  unfold zb
  split <;> split <;> omega
end INVS
/-- the list is that of the baselines, or it is stale -/
def Fr (o : Nat) (M : fl_M) : Prop := ¬ M.1 272 4 = 0 ∨ ∃ M0 : fl_M, CIv o M0 ∧ ¬ M0.1 272 4 = 0 ∧ (∀ x, x < 2 → ∀ a k, zb o x ≤ a → a < zb o x + 134 → M0.1 a k = M.1 a k) ∧ M.1 272 3 = (but M0 (zb o 0) (zb o 1)).1 272 3 ∧ ∀ a i, 273 ≤ a → a ≤ 275 → M.1 a i = (but M0 (zb o 0) (zb o 1)).1 a i
def INV (o : Nat) (M : fl_M) : Prop := CIv o M ∧ Fr o M ∧ RIv M.1 ∧ SIv o M.1 M.1 ∧ hE M.1 M.1
/-- what a call of the class, and one of the reference, keep -/
def cF (M M' : fl_M) : Prop := ∀ a k, 278 ≤ a → M'.1 a k = M.1 a k
def kF (M M' : fl_M) : Prop := (∀ a k, a < 278 → M'.1 a k = M.1 a k) ∧ M'.2 = M.2
theorem cF.rf {M : fl_M} : cF M M := fun _ _ _ => rfl
theorem kF.rf {M : fl_M} : kF M M := ⟨fun _ _ _ => rfl, rfl⟩
theorem zsM_lt {a : Nat} (h : zSh a = zsM) : a < 272 := by
  have := zlt h
  rcases Nat.lt_or_ge a 272 with q | q
  · exact q
  · have h9 : zN = 295 := rfl
    rcases (show a = 272 ∨ a = 273 ∨ a = 274 ∨ a = 275 ∨ a = 276 ∨ a = 277 ∨ a = 278 ∨ a = 279 ∨ a = 280 ∨ a = 281 ∨ a = 282 ∨ a = 283 ∨ a = 284 ∨ a = 285 ∨ a = 286 ∨ a = 287 ∨ a = 288 ∨ a = 289 ∨ a = 290 ∨ a = 291 ∨ a = 292 ∨ a = 293 ∨ a = 294 by omega) with rfl | rfl | rfl | rfl | rfl | rfl | rfl | rfl | rfl | rfl | rfl | rfl | rfl | rfl | rfl | rfl | rfl | rfl | rfl | rfl | rfl | rfl | rfl <;> exact absurd h (by decide +kernel)
theorem zM3_cg {μ μ' : Nat → Nat → Int32} (e : ∀ a, a < 272 → μ' a 3 = μ a 3) (h : zM3 μ) : zM3 μ' := fun a ha => by rw [e a (zsM_lt ha)]; exact h a ha
theorem CIv_cg {o : Nat} {M M' : fl_M} (e : ∀ a k, a < 276 → M'.1 a k = M.1 a k) (e2 : M'.2 = M.2) (h : CIv o M) : CIv o M' := by
  obtain ⟨h1, h2, h3, h4, h5⟩ := h
  refine ⟨by rw [e2]; exact h1, fun x hx => bG_cg (fun a k _ q => e a k (by have := zb_2 h1.oo hx; omega)) (h2 x hx), zM3_cg (fun a ha => e _ _ (by omega)) h3, ?_, lOk_kept (fun a k _ q => e a k (by omega)) h5⟩
  unfold zOk cz
  rw [e _ _ (by omega)]
  exact h4
theorem Fr_cg {o : Nat} {M M' : fl_M} (ho : o = 2 ∨ o = 137) (e : ∀ a k, a < 276 → M'.1 a k = M.1 a k) (h : Fr o M) : Fr o M' := by
  rcases h with h | ⟨M0, h1, h2, h3, h4, h5⟩
  · exact Or.inl (by rw [e _ _ (by omega)]; exact h)
  · refine Or.inr ⟨M0, h1, h2, fun x hx a k q1 q2 => ?_, by rw [e _ _ (by omega)]; exact h4, fun a i q1 q2 => by rw [e _ _ (by omega)]; exact h5 a i q1 q2⟩
    have := zb_2 ho hx
    rw [e _ _ (by omega)]
    exact h3 x hx a k q1 q2
theorem SIv_cls {o : Nat} {μ μ' ν : Nat → Nat → Int32} (ho : o = 2 ∨ o = 137) (hG : ∀ x, x < 2 → bG μ (zb o x)) (e : ∀ a k, a < 272 → μ' a k = μ a k) (h : SIv o μ ν) : SIv o μ' ν := by
  intro x hx t ht
  have := zb_2 ho hx
  exact rE_cg ((hG x hx).cnt ht) (fun a k h1 h2 _ => e a k (by omega)) RK.rf (h x hx t ht)
theorem SIv_ref {o : Nat} {μ ν ν' : Nat → Nat → Int32} (e : ∀ a k, 279 ≤ a → a ≤ 290 → ν' a k = ν a k) (h : SIv o μ ν) : SIv o μ ν' := fun x hx => sE_rows e (h x hx)
theorem RIv_cg {ν ν' : Nat → Nat → Int32} (e : ∀ a k, 279 ≤ a → a ≤ 290 → ν' a k = ν a k) (h : RIv ν) : RIv ν' := fun b t hb ht => rI_cg ⟨fun a h1 h2 _ => e _ _ (by omega) (by omega), fun i _ => e _ _ (by omega) (by omega), fun a i h1 h2 _ => e _ _ (by omega) (by omega)⟩ (h b t hb ht)
theorem hE_cg {μ μ' ν ν' : Nat → Nat → Int32} (e : ∀ k, μ' 277 k = μ 277 k) (e2 : ∀ k, ν' 291 k = ν 291 k) (h : hE μ ν) : hE μ' ν' := by
  intro r hr
  rw [e]
  refine ⟨fun t ht => ?_, (h r hr).2⟩
  rw [e2]
  exact (h r hr).1 t ht
/-- behind both calls -/
theorem INV_of {o : Nat} {A B : fl_M} (hC : CIv o A) (hF : Fr o A) (f : kF A B) (hR : RIv B.1) (hS : SIv o A.1 B.1) (hH : hE A.1 B.1) : INV o B :=
  ⟨CIv_cg (fun a k h => f.1 a k (by omega)) f.2 hC, Fr_cg hC.1.oo (fun a k h => f.1 a k (by omega)) hF, hR, SIv_cls hC.1.oo hC.2.1 (fun a k h => f.1 a k (by omega)) hS, hE_cg (fun k => f.1 _ _ (by omega)) (fun _ => rfl) hH⟩
