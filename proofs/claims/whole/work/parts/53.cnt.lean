/-! COUNTS -/
section CNT
variable {μ ν : Nat → Nat → Int32} {b x : Nat}
theorem tct_eq (hE : sE μ ν b x) : ∀ (k i : Nat) (a : Int32) (q : Nat), q < 2 → i + k ≤ 12 → tct μ b i k a = ccl ν q x i k a := by
  intro k
  induction k with
  | zero => intro i a q _ _; rfl
  | succ k ih =>
    intro i a q hq hi
    unfold tct ccl
    have h4 : ¬ 4 ≤ q := by omega
    rw [if_neg h4, if_pos hq, (hE i (by omega)).1]
    exact ih (i + 1) _ q hq (by omega)
theorem mct_eq (hG : bG μ b) (hE : sE μ ν b x) : ∀ (k i : Nat) (a : Int32) (q : Nat), 2 ≤ q → q < 4 → i + k ≤ 12 → mct μ b i k a = ccl ν q x i k a := by
  intro k
  induction k with
  | zero => intro i a q _ _ _; rfl
  | succ k ih =>
    intro i a q hq hq4 hi
    unfold mct ccl
    have h4 : ¬ 4 ≤ q := by omega
    have h2 : ¬ q < 2 := by omega
    rw [if_neg h4, if_neg h2, (hE i (by omega)).1]
    by_cases hd : μ (b + 2 + 11 * i) 0 = 0
    · rw [if_pos hd, ((hG.leg (by omega)).2.2.2.1 hd).2.2.2.2, Int32.add_zero]
      exact ih (i + 1) _ q hq hq4 (by omega)
    · rw [if_neg hd, ((hE i (by omega)).2 hd).2.2.2.2.1]
      exact ih (i + 1) _ q hq hq4 (by omega)
def cb (y : Int32) : Nat → Nat → Int32 → Int32
  | _, 0, a => a
  | i, k + 1, a => cb y (i + 1) k (if bt y i = true then a + 1 else a)
theorem cb_add {y : Int32} : ∀ (k i : Nat) (a c : Int32), cb y i k (a + c) = a + cb y i k c := by
  intro k
  induction k with
  | zero => intro i a c; rfl
  | succ k ih =>
    intro i a c
    unfold cb
    by_cases h : bt y i = true
    · rw [if_pos h, if_pos h, Int32.add_assoc, ih]
    · rw [if_neg h, if_neg h, ih]
theorem bC_cb2 : ∀ m, m < 64 → ∀ n, n < 64 → bC (nI (64 * m + n)) = cb (nI (64 * m + n)) 0 12 0 := by decide +kernel
theorem bC_cb (m : Nat) (h : m < 4096) : bC (nI m) = cb (nI m) 0 12 0 := by
  have := bC_cb2 (m / 64) (by omega) (m % 64) (by omega)
  rwa [show 64 * (m / 64) + m % 64 = m by omega] at this
theorem b_small {y : Int32} (h : ∀ i, 12 ≤ i → bt y i = false) : ∃ m, m < 4096 ∧ y = nI m := by
  refine ⟨y.toBitVec.toNat, ?_, ?_⟩
  · exact Nat.lt_pow_two_of_testBit _ (fun i hi => by
      have := h i hi
      unfold bt at this
      rwa [BitVec.getLsbD] at this)
  · apply Int32.toBitVec_inj.mp
    show y.toBitVec = BitVec.ofNat 32 y.toBitVec.toNat
    rw [BitVec.ofNat_toNat, BitVec.setWidth_eq]
theorem hcl_app : ∀ (j i k : Nat) (a : Int32), hcl ν i (j + k) a = hcl ν (i + j) k (hcl ν i j a) := by
  intro j
  induction j with
  | zero => intro i k a; rw [Nat.zero_add]; rfl
  | succ j ih =>
    intro i k a
    rw [show j + 1 + k = (j + k) + 1 by omega]
    show hcl ν (i + 1) (j + k) (if ν 291 i = 0 then a else a + 1) = hcl ν (i + (j + 1)) k (hcl ν (i + 1) j (if ν 291 i = 0 then a else a + 1))
    rw [ih (i + 1) k, show i + 1 + j = i + (j + 1) by omega]
theorem hcl_cb {r : Nat} {y : Int32} (h : ∀ t, t < 12 → (bt y t = true ↔ ¬ ν 291 (12 * r + t) = 0)) : ∀ (k i : Nat) (a : Int32), i + k ≤ 12 → hcl ν (12 * r + i) k a = cb y i k a := by
  intro k
  induction k with
  | zero => intro i a _; rfl
  | succ k ih =>
    intro i a hi
    unfold hcl cb
    have hb := h i (by omega)
    by_cases q : ν 291 (12 * r + i) = 0
    · rw [if_pos q, if_neg (fun z => hb.mp z q)]
      exact ih (i + 1) a (by omega)
    · rw [if_neg q, if_pos (hb.mpr q)]
      exact ih (i + 1) (a + 1) (by omega)
theorem scl_eq (h : hE μ ν) : ∀ (k r : Nat) (a : Int32), r + k ≤ 14 → scl μ r k a = hcl ν (12 * r) (12 * k) a := by
  intro k
  induction k with
  | zero => intro r a _; rfl
  | succ k ih =>
    intro r a hr
    rw [show 12 * (k + 1) = 12 + 12 * k by omega, hcl_app, show 12 * r + 12 = 12 * (r + 1) by omega]
    obtain ⟨h1, h2⟩ := h r (by omega)
    have e := hcl_cb (r := r) (y := μ 277 r) (fun t ht => (h1 t ht).2) 12 0 a (by omega)
    rw [Nat.add_zero] at e
    rw [e]
    unfold scl
    rw [ih (r + 1) _ (by omega)]
    obtain ⟨m, hm, em⟩ := b_small h2
    congr 1
    rw [em, bC_cb m hm, ← cb_add, Int32.add_zero]
end CNT
/-- how many types and members -/
theorem cnt_eq {o : Nat} {μ ν : Nat → Nat → Int32} (hG : ∀ x, x < 2 → bG μ (zb o x)) (hS : SIv o μ ν) (hH : hE μ ν) : (∀ x, x < 2 → tct μ (zb o x) 0 12 0 = vCn ν x) ∧ (∀ x, x < 2 → mct μ (zb o x) 0 12 0 = vCn ν (2 + x)) ∧ scl μ 0 14 0 = vCn ν 4 := by
  refine ⟨fun x hx => ?_, fun x hx => ?_, ?_⟩
  · unfold vCn
    rw [if_neg (by omega), show x % 2 = x by omega]
    exact tct_eq (hS x hx) 12 0 0 x hx (by omega)
  · unfold vCn
    rw [if_neg (by omega), show (2 + x) % 2 = x by omega]
    exact mct_eq (hG x hx) (hS x hx) 12 0 0 (2 + x) (by omega) (by omega) (by omega)
  · unfold vCn
    rw [if_pos rfl]
    have e : ∀ (k i : Nat) (a : Int32), ccl ν 4 (4 % 2) i k a = a := by
      intro k
      cases k with
      | zero => intro i a; rfl
      | succ k => intro i a; unfold ccl; rw [if_pos (by omega)]
    rw [e]
    exact scl_eq hH 14 0 0 (by omega)
