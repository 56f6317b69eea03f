/-! THE STATE'S SHAPE: which name is which cell. Judge 0, its array of baselines 1, baselines 2 and 137 (their array of types +1, type t at +2 + 11 t with interfaces, members' array and 8 members behind it, the field owners +134), comparison 272 .. 276, suppressed 277; the reference 278, its arrays 279 .. 294. -/
abbrev zsJ : fl_H := .inl (0, [true, true, true])
abbrev zsB : fl_H := .inl (1, [true, true])
abbrev zsC : fl_H := .inl (2, [true, true, true, false, false, true])
abbrev zsT : fl_H := .inl (3, [false, false, false, false, true, false, true, false, false, false])
abbrev zsM : fl_H := .inl (4, [false, false, false, false, false])
abbrev zsR : fl_H := .inl (5, [true, true, true, true, true, true, true, true, true, true, true, true, true, true, true, false, false, false, false, false, false, true])
abbrev zaI (n : Nat) : fl_H := .inr (0, n, false)
abbrev zaZ (n : Nat) : fl_H := .inr (1, n, false)
abbrev zaB : fl_H := .inr (2, 2, true)
abbrev zaT : fl_H := .inr (3, 12, true)
abbrev zaM : fl_H := .inr (4, 8, true)
def zlT : List fl_H := [zsT, zaI 3, zaM, zsM, zsM, zsM, zsM, zsM, zsM, zsM, zsM]
def zlB : List fl_H := [zsB, zaT] ++ (zlT ++ zlT ++ zlT ++ zlT ++ zlT ++ zlT ++ zlT ++ zlT ++ zlT ++ zlT ++ zlT ++ zlT) ++ [zaI 12]
def zlR : List fl_H := [zsR, zaZ 24, zaI 24, zaI 24, zaI 24, zaI 24, zaI 72, zaI 24, zaI 192, zaI 192, zaI 192, zaZ 192, zaI 192, zaZ 168, zaZ 12, zaI 48, zaI 14]
def zlA : List fl_H := [zsJ, zaB] ++ zlB ++ zlB ++ [zsC, zaI 636, zaI 636, zaI 636, zaM, zaI 14] ++ zlR
def zSh (n : Nat) : fl_H := zlA.getD n (.inl (9, []))
abbrev zN : Nat := 295
theorem zlA_len : zlA.length = 295 := by decide +kernel
theorem zSh_lt {n : Nat} (h : zSh n ≠ .inl (9, [])) : n < zN := by
  rcases Nat.lt_or_ge n 295 with q | q
  · exact q
  · exact absurd (by unfold zSh; rw [List.getD_eq_getElem?_getD, List.getElem?_eq_none (by rw [zlA_len]; exact q)]; rfl) h
abbrev zTy (w : fl_W) : List (ClassId × FieldType) := [(w.2.1 0, .int), (w.2.1 1, .boolean), (w.2.1 2, .object "CompatibilityJudge$Baseline"), (w.2.1 3, .object "CompatibilityJudge$Type"), (w.2.1 4, .object "CompatibilityJudge$Member")]
/-- the class's two constant arrays -/
def zKL (j : Nat) : Int32 := [64, 512, 8].getD j 0
def zSV (j : Nat) : Int32 := [3, 3, 2, 2, 3, 3, 3, 3, 2, 1, 3, 2, 2, 1].getD j 0
def zS1 (w : fl_W) (U : State) (H : Heap) : Prop := ∃ t1 t2 : Nat, va_Z "CompatibilityJudge" "KEY_LIMITS" "[I" (.ref t1) (fun q : Nat => w.2.2 ≤ q) U H ∧ va_T .int t1 3 (fun j => .int (zKL j)) (fun q : Nat => w.2.2 ≤ q) U H ∧ va_Z "CompatibilityJudge" "SEVERITIES" "[I" (.ref t2) (fun q : Nat => w.2.2 ≤ q) U H ∧ va_T .int t2 14 (fun j => .int (zSV j)) (fun q : Nat => w.2.2 ≤ q) U H
/-- the words that the tables keep in another way: calls of nest mates, arrays of objects -/
def zS2 (U : State) : Prop := (va_Nw (.methodLinkNest "CompatibilityJudge$Type" 21 y_M_init "CompatibilityJudge") U ∧ va_Nw (.methodLinkNest "CompatibilityJudge$Baseline" 60 y_J_isWithin "CompatibilityJudge") U ∧ va_Nw (.methodLinkNest "CompatibilityJudge$Baseline" 78 y_J_contains "CompatibilityJudge") U ∧ va_Nw (.methodLinkNest "CompatibilityJudge$Comparison" 79 y_J_contains "CompatibilityJudge") U) ∧ va_AO "CompatibilityJudge$Baseline" U ∧ va_AO "CompatibilityJudge$Type" U ∧ va_AO "CompatibilityJudge$Member" U
def zS (w : fl_W) (U : State) (H : Heap) : Prop := zS1 w U H ∧ zS2 U
theorem zS.warm {w : fl_W} {u U : State} {H : Heap} (hW : u.WarmedH U.vm) (h : zS w u H) : zS w U H := by
  obtain ⟨⟨t1, t2, a, b, c, d⟩, ⟨n1, n2, n3, n4⟩, a1, a2, a3⟩ := h
  exact ⟨⟨t1, t2, a.moved hW.alike, b.moved hW.alike, c.moved hW.alike, d.moved hW.alike⟩, ⟨n1.warmM hW, n2.warmM hW, n3.warmM hW, n4.warmM hW⟩, a1.moved hW.alike, a2.moved hW.alike, a3.moved hW.alike⟩
theorem zS.same {w : fl_W} {u U : State} {H : Heap} (hv : u.vm = U.vm) (h : zS w u H) : zS w U H := by
  obtain ⟨⟨t1, t2, a, b, c, d⟩, ⟨n1, n2, n3, n4⟩, a1, a2, a3⟩ := h
  have hA : u.vm.Alike U.vm := by rw [hv]; exact Vm.Alike.refl _
  exact ⟨⟨t1, t2, a.moved hA, b.moved hA, c.moved hA, d.moved hA⟩, ⟨va_tabs rfl hv n1, va_tabs rfl hv n2, va_tabs rfl hv n3, va_tabs rfl hv n4⟩, a1.moved hA, a2.moved hA, a3.moved hA⟩
theorem zS.kept {w : fl_W} {U : State} {H H1 : Heap} (h : zS w U H) (hq : ∀ a : Nat, a < H.size → ¬ w.2.2 ≤ a → H1[a]? = H[a]?) : zS w U H1 := by
  obtain ⟨⟨t1, t2, a, b, c, d⟩, h2⟩ := h
  exact ⟨⟨t1, t2, a.kept hq, b.kept hq, c.kept hq, d.kept hq⟩, h2⟩
/-- truth as an int -/
def bI (P : Prop) [Decidable P] : Int32 := if P then 1 else 0
theorem bI_t {P : Prop} [Decidable P] (h : P) : bI P = 1 := if_pos h
theorem bI_f {P : Prop} [Decidable P] (h : ¬ P) : bI P = 0 := if_neg h
theorem bI_e {P : Prop} [Decidable P] : bI P = 0 ↔ ¬ P := by
  unfold bI
  by_cases h : P
  · simp [h]
  · simp [h]
theorem bI_n {P : Prop} [Decidable P] : narrow .boolean (.int (bI P)) = .int (bI P) := by
  unfold bI
  by_cases h : P
  · rw [if_pos h]; rfl
  · rw [if_neg h]; rfl
theorem bI_ft {P : Prop} [Decidable P] : fits .boolean (.int (bI P)) = true := by
  unfold bI
  by_cases h : P
  · rw [if_pos h]; rfl
  · rw [if_neg h]; rfl
theorem bI_c {P Q : Prop} [Decidable P] [Decidable Q] (h : P ↔ Q) : bI P = bI Q := by
  unfold bI
  by_cases p : P
  · rw [if_pos p, if_pos (h.mp p)]
  · rw [if_neg p, if_neg (fun q => p (h.mpr q))]
/-- a truth that is kept -/
def isZ (x : Int32) : Prop := x = 0 ∨ x = 1
theorem isZ_n {x : Int32} (h : isZ x) : narrow .boolean (.int x) = .int x := by rcases h with rfl | rfl <;> rfl
theorem isZ_ft {x : Int32} (h : isZ x) : fits .boolean (.int x) = true := by rcases h with rfl | rfl <;> rfl
theorem isZ_v {x : Int32} (h : isZ x) : vp_nar .boolean x = x := by rcases h with rfl | rfl <;> rfl
theorem isZ_b {P : Prop} [Decidable P] : isZ (bI P) := by
  unfold bI
  by_cases h : P
  · rw [if_pos h]; exact Or.inr rfl
  · rw [if_neg h]; exact Or.inl rfl
