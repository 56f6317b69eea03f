/-! SUPERTYPES: both numbers have the bits of the transitive closure -/
abbrev TG (D : Nat → Nat → Prop) (t s : Nat) : Prop := Relation.TransGen D t s
theorem TG_one {D : Nat → Nat → Prop} {t s : Nat} (h : D t s) : TG D t s := Relation.TransGen.single h
theorem TG_snoc {D : Nat → Nat → Prop} {t u s : Nat} (h : TG D t u) (g : D u s) : TG D t s := Relation.TransGen.tail h g
theorem TG_step {D : Nat → Nat → Prop} {t d s : Nat} (a : D t d) (h : TG D d s) : TG D t s := by
  induction h with
  | single g => exact TG_snoc (TG_one a) g
  | tail _ g ih => exact TG_snoc ih g
theorem TG_last {D : Nat → Nat → Prop} {t s : Nat} (h : TG D t s) : D t s ∨ ∃ u, TG D t u ∧ D u s := by
  cases h with
  | single a => exact Or.inl a
  | tail a g => exact Or.inr ⟨_, a, g⟩
theorem TG_first {D : Nat → Nat → Prop} {t s : Nat} (h : TG D t s) : D t s ∨ ∃ d, D t d ∧ TG D d s := by
  induction h with
  | single a => exact Or.inl a
  | tail _ g ih =>
    rcases ih with q | ⟨d, q1, q2⟩
    · exact Or.inr ⟨_, q, TG_one g⟩
    · exact Or.inr ⟨d, q1, TG_snoc q2 g⟩
theorem TG_lt {D : Nat → Nat → Prop} (hD : ∀ t s, D t s → s < t) {t s : Nat} (h : TG D t s) : s < t := by
  induction h with
  | single a => exact hD _ _ a
  | tail _ g ih => have := hD _ _ g; omega
def cD (μ : Nat → Nat → Int32) (b t s : Nat) : Prop := t < 12 ∧ s < 12 ∧ (μ (b + 2 + 11 * t) 8 = nI s ∨ (isI μ b (nI s) ∧ ∃ i, i < cI μ (b + 2 + 11 * t) ∧ μ (b + 2 + 11 * t + 1) i = nI s))
section SUPS
variable {μ ν : Nat → Nat → Int32} {b x : Nat}
theorem cD_lt (h : bG μ b) {t s : Nat} (g : cD μ b t s) : s < t := by
  obtain ⟨ht, hs, q | ⟨_, i, hi, q⟩⟩ := g
  · rcases h.sup ht with z | z
    · rw [q] at z; exact absurd z (m1_nI (by omega))
    · rw [q] at z
      have := z.2
      rwa [ix_nI (by omega)] at this
  · have z := h.face ht i hi
    rw [q] at z
    have := z.2
    rwa [ix_nI (by omega)] at this
theorem gth_bt (h : bG μ b) {t s : Nat} (ht : t < 12) (hs : s < 32) : ∀ (k i : Nat) (a : Int32), i + k ≤ cI μ (b + 2 + 11 * t) → (bt (gth μ b (b + 2 + 11 * t) i k a) s = true ↔ bt a s = true ∨ ∃ j d, i ≤ j ∧ j < i + k ∧ d < 12 ∧ μ (b + 2 + 11 * t + 1) j = nI d ∧ isI μ b (nI d) ∧ (d = s ∨ bt (μ (b + 2 + 11 * d) 9) s = true)) := by
  intro k
  induction k with
  | zero => intro i a _; exact ⟨fun q => Or.inl q, fun q => q.elim id (fun ⟨j, d, h1, h2, _⟩ => absurd h2 (by omega))⟩
  | succ k ih =>
    intro i a hi
    unfold gth
    rw [ih (i + 1) _ (by omega)]
    have hf := h.face ht i (by omega)
    have hd : ix (μ (b + 2 + 11 * t + 1) i) < 12 := by have := hf.2; omega
    have he := hf.1
    generalize ix (μ (b + 2 + 11 * t + 1) i) = d at hd he
    rw [he]
    have hx : tn b (nI d) = b + 2 + 11 * d := by unfold tn; rw [ix_nI (by omega)]
    by_cases hI : isI μ b (nI d)
    · rw [if_pos hI, b_or, b_or, b_one (by omega) hs, hx]
      simp only [Bool.or_eq_true, decide_eq_true_eq]
      constructor
      · rintro (((q | q) | q) | ⟨j, d', q1, q2, q3⟩)
        · exact Or.inl q
        · exact Or.inr ⟨i, d, by omega, by omega, hd, he, hI, Or.inl q.symm⟩
        · exact Or.inr ⟨i, d, by omega, by omega, hd, he, hI, Or.inr q⟩
        · exact Or.inr ⟨j, d', by omega, by omega, q3⟩
      · rintro (q | ⟨j, d', q1, q2, q3, q4, q5, q6⟩)
        · exact Or.inl (Or.inl (Or.inl q))
        · by_cases hj : j = i
          · subst hj
            have : d' = d := nI_inj (by omega) (by omega) (q4.symm.trans he)
            subst this
            rcases q6 with q6 | q6
            · exact Or.inl (Or.inl (Or.inr q6.symm))
            · exact Or.inl (Or.inr q6)
          · exact Or.inr ⟨j, d', by omega, by omega, q3, q4, q5, q6⟩
    · rw [if_neg hI]
      constructor
      · rintro (q | ⟨j, d', q1, q2, q3⟩)
        · exact Or.inl q
        · exact Or.inr ⟨j, d', by omega, by omega, q3⟩
      · rintro (q | ⟨j, d', q1, q2, q3, q4, q5, q6⟩)
        · exact Or.inl q
        · by_cases hj : j = i
          · subst hj
            have : d' = d := nI_inj (by omega) (by omega) (q4.symm.trans he)
            subst this
            exact absurd q5 hI
          · exact Or.inr ⟨j, d', by omega, by omega, q3, q4, q5, q6⟩
theorem gat_bt (h : bG μ b) {t s : Nat} (ht : t < 12) (hs : s < 32) : bt (μ (b + 2 + 11 * t) 9) s = true ↔ ∃ d, cD μ b t d ∧ (d = s ∨ bt (μ (b + 2 + 11 * d) 9) s = true) := by
  rw [h.s9 ht]
  unfold gat
  rw [gth_bt h ht hs _ _ _ (by omega)]
  constructor
  · rintro (q | ⟨j, d, q1, q2, q3, q4, q5, q6⟩)
    · unfold gt0 at q
      rcases h.sup ht with z | z
      · rw [if_pos z, b_0] at q; cases q
      · rw [if_neg (inL_m1 (by omega) z)] at q
        have h12 := z.2
        have he := z.1
        generalize ix (μ (b + 2 + 11 * t) 8) = d at h12 he
        rw [he, b_or, b_one (by omega) hs, show tn b (nI d) = b + 2 + 11 * d by unfold tn; rw [ix_nI (by omega)]] at q
        simp only [Bool.or_eq_true, decide_eq_true_eq] at q
        exact ⟨d, ⟨ht, by omega, Or.inl he⟩, q.imp Eq.symm id⟩
    · exact ⟨d, ⟨ht, q3, Or.inr ⟨q5, j, by omega, q4⟩⟩, q6⟩
  · rintro ⟨d, ⟨_, hd, q | ⟨q5, j, q2, q4⟩⟩, q6⟩
    · refine Or.inl ?_
      unfold gt0
      rw [q, if_neg (m1_nI (by omega)), b_or, b_one (by omega) hs, show tn b (nI d) = b + 2 + 11 * d by unfold tn; rw [ix_nI (by omega)]]
      simp only [Bool.or_eq_true, decide_eq_true_eq]
      exact q6.imp Eq.symm id
    · exact Or.inr ⟨j, d, by omega, by omega, hd, q4, q5, q6⟩
theorem cls_bt (h : bG μ b) {s : Nat} (hs : s < 32) : ∀ t, t < 12 → (bt (μ (b + 2 + 11 * t) 9) s = true ↔ TG (cD μ b) t s) := by
  intro t
  induction t using Nat.strongRecOn with
  | ind t ih =>
    intro ht
    rw [gat_bt h ht hs]
    constructor
    · rintro ⟨d, q, rfl | z⟩
      · exact TG_one q
      · have := cD_lt h q
        exact TG_step q ((ih d this (by omega)).mp z)
    · intro q
      rcases TG_first q with a | ⟨_, a, g⟩
      · exact ⟨s, a, Or.inl rfl⟩
      · exact ⟨_, a, Or.inr ((ih _ (cD_lt h a) (by have := cD_lt h a; omega)).mpr g)⟩
theorem E_dir (hE : sE μ ν b x) (h : bG μ b) {t s : Nat} (ht : t < 12) (hs : s < 12) : qDir ν x t s ↔ cD μ b t s := by
  have hx : ix (nI s) = s := ix_nI (by omega)
  unfold qDir
  rw [(hE t ht).1, (hE s hs).1]
  constructor
  · rintro ⟨hdt, hds, q⟩
    obtain ⟨_, _, e3, e5, _, ef, _⟩ := (hE t ht).2 hdt
    obtain ⟨e1, _⟩ := (hE s hs).2 hds
    rw [e1] at q
    refine ⟨ht, hs, ?_⟩
    by_cases hk : μ (b + 2 + 11 * s) 1 = 0
    · rw [if_pos hk, e3] at q
      refine Or.inl ?_
      rw [h.s8 ht, q, if_pos ((isC_nI hs).mpr ⟨hds, hk⟩)]
    · rw [if_neg hk] at q
      refine Or.inr ⟨(isI_nI hs).mpr ⟨hds, ((h.leg hs).2.1).resolve_left hk⟩, ?_⟩
      unfold qFc qF at q
      rw [e5] at q
      cases hf : fnd (fun i => ν 284 (3 * (12 * x + t) + i) = nI s) 0 (ix (μ (b + 2 + 11 * t) 5)) with
      | none => exact absurd hf q
      | some i =>
        have := fnd_lt hf
        have hi : i < cI μ (b + 2 + 11 * t) := by have h9 : i < 0 + cI μ (b + 2 + 11 * t) := this.2.1; omega
        exact ⟨i, hi, (ef i hi).symm.trans this.2.2⟩
  · rintro ⟨_, _, q⟩
    have hdt : ¬ μ (b + 2 + 11 * t) 0 = 0 := by
      intro z
      obtain ⟨_, _, z3, z5, _⟩ := (h.leg ht).2.2.2.1 z
      rcases q with q | ⟨_, i, hi, _⟩
      · rw [h.s8 ht, z3, if_neg not_isC_m1] at q
        exact m1_nI (by omega) q.symm
      · unfold cI at hi
        rw [z5] at hi
        rw [show ix (0 : Int32) = 0 by decide] at hi
        exact absurd hi (Nat.not_lt_zero i)
    obtain ⟨_, _, e3, e5, _, ef, _⟩ := (hE t ht).2 hdt
    rcases q with q | ⟨hI, i, hi, q⟩
    · rw [h.s8 ht] at q
      by_cases hC : isC μ b (μ (b + 2 + 11 * t) 3)
      · rw [if_pos hC] at q
        rw [q] at hC
        obtain ⟨c1, c2⟩ := (isC_nI hs).mp hC
        refine ⟨hdt, c1, ?_⟩
        rw [((hE s hs).2 c1).1, if_pos c2, e3, q]
      · rw [if_neg hC] at q
        exact absurd q.symm (m1_nI (by omega))
    · obtain ⟨c1, c2⟩ := (isI_nI hs).mp hI
      refine ⟨hdt, c1, ?_⟩
      rw [((hE s hs).2 c1).1, if_neg (by rw [c2]; decide)]
      unfold qFc qF
      rw [e5, fnd_none]
      intro z
      exact z i (by omega) (by show i < 0 + cI μ (b + 2 + 11 * t); omega) ((ef i hi).trans q)
theorem sil_ne {s : Nat} {all : Int32} : ∀ (k u : Nat) (a : Int32), isZ a → u + k ≤ 32 → (isZ (sil ν x s all u k a) ∧ (¬ sil ν x s all u k a = 0 ↔ (¬ a = 0 ∨ ∃ v, u ≤ v ∧ v < u + k ∧ bt all v = true ∧ qDir ν x v s))) := by
  intro k
  induction k with
  | zero => intro u a ha _; exact ⟨ha, fun q => Or.inl q, fun q => q.elim id (fun ⟨v, h1, h2, _⟩ => absurd h2 (by omega))⟩
  | succ k ih =>
    intro u a ha hu
    unfold sil
    have hcn := b_cn (x := all) (s := u) (by omega)
    by_cases hq : bt all u = true ∧ qDir ν x u s
    · rw [if_pos ⟨hcn.mpr hq.1, hq.2⟩]
      obtain ⟨i1, i2⟩ := ih (u + 1) 1 (Or.inr rfl) (by omega)
      refine ⟨i1, ?_⟩
      rw [i2]
      exact ⟨fun _ => Or.inr ⟨u, by omega, by omega, hq⟩, fun _ => Or.inl (by decide)⟩
    · rw [if_neg (fun z => hq ⟨hcn.mp z.1, z.2⟩)]
      obtain ⟨i1, i2⟩ := ih (u + 1) a ha (by omega)
      refine ⟨i1, ?_⟩
      rw [i2]
      constructor
      · rintro (q | ⟨v, h1, h2, h3⟩)
        · exact Or.inl q
        · exact Or.inr ⟨v, by omega, by omega, h3⟩
      · rintro (q | ⟨v, h1, h2, h3⟩)
        · exact Or.inl q
        · by_cases hv : v = u
          · subst hv; exact absurd h3 hq
          · exact Or.inr ⟨v, by omega, by omega, h3⟩
theorem sol_bt (hE : sE μ ν b x) (h : bG μ b) {t : Nat} (ht : t < 12) : ∀ (j : Nat) (all : Int32), j ≤ t → (∀ s, s < 32 → (bt all s = true ↔ j ≤ s ∧ TG (cD μ b) t s)) → ∀ s, s < 32 → (bt (sol ν x t j all) s = true ↔ TG (cD μ b) t s) := by
  intro j
  induction j with
  | zero => intro all _ ha s hs; exact (ha s hs).trans ⟨fun q => q.2, fun q => ⟨by omega, q⟩⟩
  | succ j ih =>
    intro all hj ha
    unfold sol
    refine ih _ (by omega) (fun s hs => ?_)
    have hin := (sil_ne (ν := ν) (x := x) (s := j) (all := all) (t - (j + 1)) (j + 1) (bI (qDir ν x t j)) isZ_b (by omega)).2
    have hj2 : ¬ sil ν x j all (j + 1) (t - (j + 1)) (bI (qDir ν x t j)) = 0 ↔ TG (cD μ b) t j := by
      rw [hin, bI_e, Classical.not_not]
      constructor
      · rintro (q | ⟨v, h1, h2, h3, h4⟩)
        · exact TG_one ((E_dir hE h ht (by omega)).mp q)
        · exact TG_snoc (((ha v (by omega)).mp h3).2) ((E_dir hE h (by omega) (by omega)).mp h4)
      · intro q
        rcases TG_last q with z | ⟨u, z1, z2⟩
        · exact Or.inl ((E_dir hE h ht (by omega)).mpr z)
        · have l1 := TG_lt (fun _ _ => cD_lt h) z1
          have l2 := cD_lt h z2
          exact Or.inr ⟨u, by omega, by omega, (ha u (by omega)).mpr ⟨by omega, z1⟩, (E_dir hE h (by omega) (by omega)).mpr z2⟩
    by_cases hc : sil ν x j all (j + 1) (t - (j + 1)) (bI (qDir ν x t j)) = 0
    · rw [if_pos hc, ha s hs]
      have : ¬ TG (cD μ b) t j := fun q => (hj2.mpr q) hc
      constructor
      · rintro ⟨q1, q2⟩; exact ⟨by omega, q2⟩
      · rintro ⟨q1, q2⟩
        by_cases hsj : s = j
        · subst hsj; exact absurd q2 this
        · exact ⟨by omega, q2⟩
    · rw [if_neg hc, b_or, b_one (by omega) hs]
      simp only [Bool.or_eq_true, decide_eq_true_eq]
      rw [ha s hs]
      have := hj2.mp hc
      constructor
      · rintro (⟨q1, q2⟩ | rfl)
        · exact ⟨by omega, q2⟩
        · exact ⟨by omega, this⟩
      · rintro ⟨q1, q2⟩
        by_cases hsj : s = j
        · exact Or.inr hsj
        · exact Or.inl ⟨by omega, q2⟩
/-- the supertypes are the same number -/
theorem E_set (hE : sE μ ν b x) (h : bG μ b) {t : Nat} (ht : t < 12) : qSet ν x t = μ (b + 2 + 11 * t) 9 := by
  apply b_ext
  intro i hi
  have h1 := sol_bt hE h ht t 0 (Nat.le_refl t) (fun s hs => by
    rw [b_0]
    exact ⟨(fun q => by cases q), fun q => absurd (TG_lt (fun _ _ => cD_lt h) q.2) (by omega)⟩) i hi
  have h2 := cls_bt h hi t ht
  rw [Bool.eq_iff_iff]
  exact h1.trans h2.symm
theorem sup_lt (h : bG μ b) {t s : Nat} (ht : t < 12) (hs : s < 32) (q : bt (μ (b + 2 + 11 * t) 9) s = true) : s < t := TG_lt (fun _ _ => cD_lt h) ((cls_bt h hs t ht).mp q)
theorem E_ab (hE : sE μ ν b x) (h : bG μ b) {t s : Nat} (ht : t < 12) (hs : s < 32) : qAb ν x t s ↔ bt (μ (b + 2 + 11 * t) 9) s = true := by
  unfold qAb
  rw [E_set hE h ht, b_cn hs]
/-- a supertype is defined -/
theorem TG_def (h : bG μ b) {t s : Nat} (q : TG (cD μ b) t s) : s < 12 ∧ ¬ μ (b + 2 + 11 * s) 0 = 0 := by
  have : ∀ t s, cD μ b t s → s < 12 ∧ ¬ μ (b + 2 + 11 * s) 0 = 0 := by
    rintro t s ⟨ht, hs, z | ⟨z, _⟩⟩
    · rw [h.s8 ht] at z
      by_cases hC : isC μ b (μ (b + 2 + 11 * t) 3)
      · rw [if_pos hC] at z
        rw [z] at hC
        exact ⟨hs, ((isC_nI hs).mp hC).1⟩
      · rw [if_neg hC] at z
        exact absurd z.symm (m1_nI (by omega))
    · exact ⟨hs, ((isI_nI hs).mp z).1⟩
  induction q with
  | single a => exact this _ _ a
  | tail _ g _ => exact this _ _ g
end SUPS
