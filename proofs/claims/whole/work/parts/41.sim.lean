/-! THE CLASS'S ROWS AND THE REFERENCE'S: what holds of a baseline, and when both say the same -/
def mE (μ ν : Nat → Nat → Int32) (a c : Nat) : Prop := ν 286 c = μ a 0 ∧ ν 287 c = μ a 1 ∧ ν 288 c = μ a 2 ∧ ν 289 c = μ a 3 ∧ (¬ μ a 3 = 0 → ν 290 c = μ a 4)
def rE (μ ν : Nat → Nat → Int32) (n r : Nat) : Prop := ν 279 r = μ n 0 ∧ (¬ μ n 0 = 0 → ν 280 r = μ n 1 ∧ ν 281 r = μ n 2 ∧ ν 282 r = μ n 3 ∧ ν 283 r = μ n 5 ∧ ν 285 r = μ n 7 ∧ (∀ i, i < cI μ n → ν 284 (3 * r + i) = μ (n + 1) i) ∧ ∀ i, i < cM μ n → mE μ ν (n + 3 + i) (8 * r + i))
def sE (μ ν : Nat → Nat → Int32) (b x : Nat) : Prop := ∀ t, t < 12 → rE μ ν (b + 2 + 11 * t) (12 * x + t)
/-- what is allowed -/
def mL (μ : Nat → Nat → Int32) (a : Nat) : Prop := (μ a 0 = 0 ∨ μ a 0 = 1 ∨ μ a 0 = 2) ∧ okMb (μ a 0) (μ a 2) ∧ isZ (μ a 3) ∧ (¬ μ a 3 = 0 → μ a 0 = 0)
def tL (μ : Nat → Nat → Int32) (n : Nat) : Prop := isZ (μ n 0) ∧ isZ (μ n 1) ∧ okTy (μ n 1) (μ n 2) (μ n 3) ∧ (μ n 0 = 0 → μ n 1 = 0 ∧ μ n 2 = 0 ∧ μ n 3 = -1 ∧ μ n 5 = 0 ∧ μ n 7 = 0) ∧ ∀ i, i < cM μ n → mL μ (n + 3 + i)
/-- settled -/
def tS (μ : Nat → Nat → Int32) (b t : Nat) : Prop := μ (b + 2 + 11 * t) 8 = (if isC μ b (μ (b + 2 + 11 * t) 3) then μ (b + 2 + 11 * t) 3 else -1) ∧ μ (b + 2 + 11 * t) 9 = gat μ b (b + 2 + 11 * t)
/-- all that holds of a baseline of the class -/
def bG (μ : Nat → Nat → Int32) (b : Nat) : Prop := bAll μ b ∧ ∀ t, t < 12 → tL μ (b + 2 + 11 * t) ∧ tS μ b t
section BG
variable {μ ν : Nat → Nat → Int32} {b x t : Nat}
theorem bG.cnt (h : bG μ b) (ht : t < 12) : tOk μ (b + 2 + 11 * t) := (h.1.1 t ht).1
theorem bG.face (h : bG μ b) (ht : t < 12) : ∀ i, i < cI μ (b + 2 + 11 * t) → inL t (μ (b + 2 + 11 * t + 1) i) := (h.1.1 t ht).2.2.1
theorem bG.par (h : bG μ b) (ht : t < 12) : μ (b + 2 + 11 * t) 3 = -1 ∨ inL t (μ (b + 2 + 11 * t) 3) := (h.1.1 t ht).2.2.2
theorem bG.sup (h : bG μ b) (ht : t < 12) : μ (b + 2 + 11 * t) 8 = -1 ∨ inL t (μ (b + 2 + 11 * t) 8) := h.1.2.1 t ht
theorem bG.leg (h : bG μ b) (ht : t < 12) : tL μ (b + 2 + 11 * t) := (h.2 t ht).1
theorem bG.s8 (h : bG μ b) (ht : t < 12) : μ (b + 2 + 11 * t) 8 = (if isC μ b (μ (b + 2 + 11 * t) 3) then μ (b + 2 + 11 * t) 3 else -1) := (h.2 t ht).2.1
theorem bG.s9 (h : bG μ b) (ht : t < 12) : μ (b + 2 + 11 * t) 9 = gat μ b (b + 2 + 11 * t) := (h.2 t ht).2.2
theorem nI_lt0 {n : Nat} (h : n < 2 ^ 31) : ¬ nI n < 0 := nI_pos h
theorem nI_inj {m n : Nat} (hm : m < 2 ^ 31) (hn : n < 2 ^ 31) (h : nI m = nI n) : m = n := by
  have := congrArg ix h
  rwa [ix_nI hm, ix_nI hn] at this
theorem inL_ix {L : Nat} {x : Int32} (h : inL L x) : x = nI (ix x) := h.1
theorem m1_nI {n : Nat} (h : n < 2 ^ 31) : ¬ nI n = -1 := by
  intro q
  have := nI_lt0 h
  rw [q] at this
  exact this (by decide)
theorem inL_m1 {L : Nat} {x : Int32} (hL : L ≤ 2 ^ 31) (h : inL L x) : ¬ x = -1 := by
  rw [h.1]
  exact m1_nI (by have := h.2; omega)
theorem inL_lt0 {L : Nat} {x : Int32} (hL : L ≤ 2 ^ 31) (h : inL L x) : ¬ x < 0 := by
  rw [h.1]
  exact nI_lt0 (by have := h.2; omega)
/-- is a class, of a number in range -/
theorem isC_nI {s : Nat} (hs : s < 12) : isC μ b (nI s) ↔ ¬ μ (b + 2 + 11 * s) 0 = 0 ∧ μ (b + 2 + 11 * s) 1 = 0 := by
  have h1 : ix (nI s) = s := ix_nI (by omega)
  have h2 : ¬ (12 : Int32) ≤ nI s := (by decide +kernel : ∀ s, s < 12 → ¬ (12 : Int32) ≤ nI s) s hs
  unfold isC tn
  rw [h1]
  exact ⟨fun h => h.2, fun h => ⟨⟨nI_lt0 (by omega), h2⟩, h⟩⟩
theorem isI_nI {s : Nat} (hs : s < 12) : isI μ b (nI s) ↔ ¬ μ (b + 2 + 11 * s) 0 = 0 ∧ μ (b + 2 + 11 * s) 1 = 1 := by
  unfold isI tn
  rw [ix_nI (by omega)]
theorem not_isC_m1 : ¬ isC μ b (-1) := fun h => h.1.1 (by decide)
/-- the own member, on both sides -/
theorem fnd_congr {p q : Nat → Prop} [DecidablePred p] [DecidablePred q] : ∀ (k i : Nat), (∀ j, i ≤ j → j < i + k → (p j ↔ q j)) → fnd p i k = fnd q i k := by
  intro k
  induction k with
  | zero => intro i _; rfl
  | succ k ih =>
    intro i h
    unfold fnd
    by_cases hp : p i
    · rw [if_pos hp, if_pos ((h i (by omega) (by omega)).mp hp)]
    · rw [if_neg hp, if_neg (fun z => hp ((h i (by omega) (by omega)).mpr z))]
      exact ih (i + 1) (fun j h1 h2 => h j (by omega) (by omega))
theorem tOwn_0 {n : Nat} {a c : Int32} (h : μ n 7 = 0) : tOwn μ n a c = none := by
  unfold tOwn cM
  rw [h]
  rfl
theorem E_own {n r : Nat} (hE : rE μ ν n r) (hL : tL μ n) (a c : Int32) : qOwn ν r a c = cell r (tOwn μ n a c) := by
  unfold qOwn
  by_cases hd : μ n 0 = 0
  · rw [if_pos (hE.1.trans hd), tOwn_0 (hL.2.2.2.1 hd).2.2.2.2]
    rfl
  · rw [if_neg (fun q => hd (hE.1.symm.trans q))]
    obtain ⟨_, _, _, _, e7, _, em⟩ := hE.2 hd
    unfold qOwnF tOwn qM
    rw [e7]
    exact congrArg (cell r) (fnd_congr _ _ (fun j _ h2 => by
      obtain ⟨k1, k2, _⟩ := em j (by have h9 : j < 0 + cM μ n := h2; omega)
      rw [k1, k2]))
theorem cell_neg {r : Nat} (hr : r < 24) {F : Option Nat} (hF : ∀ i, F = some i → i < 8) : cell r F < 0 ↔ F = none := by
  cases F with
  | none => exact ⟨fun _ => rfl, fun _ => (show (-1 : Int32) < 0 from by decide)⟩
  | some i =>
    have := hF i rfl
    exact ⟨fun h => absurd h (nI_lt0 (by omega)), fun h => by cases h⟩
theorem tOwn_lt {n : Nat} {a c : Int32} (hc : tOk μ n) {i : Nat} (h : tOwn μ n a c = some i) : i < 8 ∧ i < cM μ n := by
  have := fnd_lt h
  have := hc.2.2
  omega
theorem E_neg {n r : Nat} (hr : r < 24) (hE : rE μ ν n r) (hL : tL μ n) (hc : tOk μ n) (a c : Int32) : qOwn ν r a c < 0 ↔ tOwn μ n a c = none := by
  rw [E_own hE hL]
  exact cell_neg hr (fun i h => (tOwn_lt hc h).1)
theorem E_is (hE : sE μ ν b x) (hG : bG μ b) {s : Nat} (hs : s < 12) (k : Int32) : qIs ν x (nI s) k ↔ ¬ μ (b + 2 + 11 * s) 0 = 0 ∧ μ (b + 2 + 11 * s) 1 = k := by
  unfold qIs
  rw [ix_nI (by omega), (hE s hs).1]
  constructor
  · rintro ⟨_, h1, h2⟩
    exact ⟨h1, ((hE s hs).2 h1).1.symm.trans h2⟩
  · rintro ⟨h1, h2⟩
    exact ⟨nI_lt0 (by omega), h1, ((hE s hs).2 h1).1.trans h2⟩
end BG
