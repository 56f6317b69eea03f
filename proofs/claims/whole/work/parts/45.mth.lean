/-! LOOKING UP A METHOD -/
section MTH
variable {μ ν : Nat → Nat → Int32} {b x : Nat} {key : Int32}
def AO (μ : Nat → Nat → Int32) (b x : Nat) (key : Int32) (F G : Option Int32) : Prop := (F = none ∧ G = none) ∨ ∃ v c, F = some v ∧ G = some c ∧ ¬ v = 12 ∧ AF μ b x 1 key v c
theorem qml_neg {k : Nat} {y : Int32} (h : y < 0) : qml ν x key k y = none := by
  cases k with
  | zero => rfl
  | succ k => unfold qml; rw [if_pos h]
theorem wml_m1 {k : Nat} : wml μ b key k (-1) = none := by
  cases k with
  | zero => rfl
  | succ k => unfold wml; rw [if_pos rfl]
theorem nI_12 {j : Nat} (hj : j < 12) : ¬ nI j = 12 := fun q => absurd (nI_inj (m := j) (n := 12) (by omega) (by omega) q) (by omega)
theorem mth_chain (hx : x < 2) (hE : sE μ ν b x) (h : bG μ b) : ∀ (j k k' : Nat), j < 12 → j < k → j < k' → ¬ μ (b + 2 + 11 * j) 0 = 0 → AO μ b x key (wml μ b key k (nI j)) (qml ν x key k' (nI j)) := by
  intro j
  induction j using Nat.strongRecOn with
  | ind j ih =>
    intro k k' hj hk hk' hd
    obtain ⟨k, rfl⟩ : ∃ i, k = i + 1 := ⟨k - 1, by omega⟩
    obtain ⟨k', rfl⟩ : ∃ i, k' = i + 1 := ⟨k' - 1, by omega⟩
    unfold wml qml
    have hix : ix (nI j) = j := ix_nI (by omega)
    rw [if_neg (m1_nI (by omega)), if_neg (nI_lt0 (by omega)), hix, show tn b (nI j) = b + 2 + 11 * j by unfold tn; rw [hix]]
    have hneg := E_neg (by omega) (hE j hj) (h.leg hj) (h.cnt hj) 1 key
    by_cases ho : tOwn μ (b + 2 + 11 * j) 1 key = none
    · rw [if_pos ho, if_pos (hneg.mpr ho)]
      obtain ⟨e1, _, e3, _⟩ := (hE j hj).2 hd
      have hs8 := h.s8 hj
      have hk := (h.leg hj).2.2.1
      have hup : qup ν (12 * x + j) = μ (b + 2 + 11 * j) 3 := by
        unfold qup
        rw [e1, e3]
        by_cases h0 : μ (b + 2 + 11 * j) 1 = 0
        · rw [if_pos h0]
        · rw [if_neg h0]
          have h1 := ((h.leg hj).2.1).resolve_left h0
          unfold okTy at hk
          rw [if_pos h1] at hk
          exact hk.2.2.symm
      rw [hup]
      by_cases hm : μ (b + 2 + 11 * j) 3 = -1
      · rw [hm, if_neg not_isC_m1] at hs8
        rw [hs8, hm, if_neg (fun q => q.1 (by decide)), wml_m1, qml_neg (by decide)]
        exact Or.inl ⟨rfl, rfl⟩
      · have hin := (h.par hj).resolve_left hm
        have hlt := hin.2
        have hq : qIs ν x (μ (b + 2 + 11 * j) 3) 0 ↔ isC μ b (μ (b + 2 + 11 * j) 3) := by
          rw [hin.1, E_is hE h (by omega), isC_nI (by omega)]
        by_cases hC : isC μ b (μ (b + 2 + 11 * j) 3)
        · rw [if_pos (hq.mpr hC)]
          rw [if_pos hC] at hs8
          rw [hs8, hin.1]
          exact ih _ hlt k k' (by omega) (by omega) (by omega) hC.2.1
        · rw [if_neg (fun q => hC (hq.mp q))]
          rw [if_neg hC] at hs8
          rw [hs8, wml_m1, qml_neg (by decide)]
          exact Or.inl ⟨rfl, rfl⟩
    · rw [if_neg ho, if_neg (fun q => ho (hneg.mp q))]
      have := AF_own (key := key) hE h hj (k := 1)
      rw [if_neg ho] at this
      exact Or.inr ⟨_, _, rfl, rfl, nI_12 hj, this⟩
/-- the interfaces -/
theorem AF_neg {k v c : Int32} (hx : x < 2) (h : AF μ b x k key v c) (hc : ∀ j, j < 12 → tOk μ (b + 2 + 11 * j)) : c < 0 ↔ v = 12 := by
  rcases h with ⟨rfl, rfl⟩ | ⟨j, i, hj, rfl, ho, rfl, _⟩
  · exact ⟨fun _ => rfl, fun _ => by decide⟩
  · have := tOwn_lt (hc j hj) ho
    exact ⟨fun q => absurd q (nI_lt0 (by omega)), fun q => absurd q (nI_12 hj)⟩
theorem mth_face (hx : x < 2) (hE : sE μ ν b x) (h : bG μ b) {t : Nat} (ht : t < 12) : ∀ (k k' s : Nat) (a c : Int32), s + k' = t → s + k = 12 → AF μ b x 1 key a c → AF μ b x 1 key (wil μ b key (μ (b + 2 + 11 * t) 9) s k a) (qil ν x t key s k' c) := by
  intro k
  induction k with
  | zero => intro k' s a c h1 h2 hA; exact absurd h1 (by omega)
  | succ k ih =>
    intro k' s a c h1 h2 hA
    have hs : s < 12 := by omega
    have hcn := b_cn (x := μ (b + 2 + 11 * t) 9) (s := s) (by omega)
    cases k' with
    | zero =>
      have hend : ∀ (k s : Nat) (a : Int32), t ≤ s → s + k ≤ 12 → wil μ b key (μ (b + 2 + 11 * t) 9) s k a = a := by
        intro k
        induction k with
        | zero => intro s a _ _; rfl
        | succ k ih2 =>
          intro s a h3 h4
          unfold wil
          have : ¬ bt (μ (b + 2 + 11 * t) 9) s = true := fun q => absurd (sup_lt h ht (by omega) q) (by omega)
          rw [if_neg (fun q => this ((b_cn (by omega)).mp q.1))]
          exact ih2 (s + 1) a (by omega) (by omega)
      rw [hend _ _ _ (by omega) (by omega)]
      exact hA
    | succ k' =>
      unfold wil qil
      have hneg := E_neg (by omega) (hE s hs) (h.leg hs) (h.cnt hs) 1 key
      have hab := E_ab hE h ht (s := s) (by omega)
      have his := E_is hE h hs 1
      by_cases hb : bt (μ (b + 2 + 11 * t) 9) s = true
      · have hdef : ¬ μ (b + 2 + 11 * s) 0 = 0 := (TG_def h ((cls_bt h (by omega) t ht).mp hb)).2
        by_cases hk : μ (b + 2 + 11 * s) 1 = 1
        · rw [if_pos ⟨hcn.mpr hb, hk⟩]
          cases ho : tOwn μ (b + 2 + 11 * s) 1 key with
          | none =>
            rw [if_pos (Or.inl (hneg.mpr ho))]
            exact ih k' (s + 1) a c (by omega) (by omega) hA
          | some i =>
            have hi := tOwn_lt (h.cnt hs) ho
            have hR : ¬ (qOwn ν (12 * x + s) 1 key < 0 ∨ ¬ qIs ν x (nI s) 1 ∨ ¬ qAb ν x t s) := by
              rintro (q | q | q)
              · have := hneg.mp q; rw [ho] at this; cases this
              · exact q (his.mpr ⟨hdef, hk⟩)
              · exact q (hab.mpr hb)
            rw [if_neg hR]
            dsimp only
            have hqo : qOwn ν (12 * x + s) 1 key = nI (8 * (12 * x + s) + i) := by rw [E_own (hE s hs) (h.leg hs), ho]; rfl
            have hfl : ν 288 (ix (qOwn ν (12 * x + s) 1 key)) = μ (b + 2 + 11 * s + 3 + i) 2 := by
              rw [hqo, ix_nI (by omega)]
              exact (((hE s hs).2 hdef).2.2.2.2.2.2 i hi.2).2.2.1
            rw [hfl]
            have hmb := ((h.leg hs).2.2.2.2 i hi.2).2.1.1
            have hAs : AF μ b x 1 key (nI s) (qOwn ν (12 * x + s) 1 key) := Or.inr ⟨s, i, hs, rfl, ho, hqo, hdef⟩
            have hac := AF_neg hx hA (fun j hj => h.cnt hj)
            generalize μ (b + 2 + 11 * s + 3 + i) 2 = f at hmb ⊢
            have b20 : f &&& 20 = 0 ↔ f &&& 4 = 0 ∧ f &&& 16 = 0 := by
              rw [show (20 : Int32) = 4 ||| 16 by decide]
              constructor
              · intro q
                constructor
                · apply b_ext; intro j hj
                  have := congrArg (fun z => bt z j) q
                  simp only [b_and, b_or, b_0] at this ⊢
                  cases h4 : bt 4 j <;> simp_all
                · apply b_ext; intro j hj
                  have := congrArg (fun z => bt z j) q
                  simp only [b_and, b_or, b_0] at this ⊢
                  cases h4 : bt 16 j <;> simp_all
              · rintro ⟨q1, q2⟩
                apply b_ext; intro j hj
                have a1 := congrArg (fun z => bt z j) q1
                have a2 := congrArg (fun z => bt z j) q2
                simp only [b_and, b_or, b_0] at a1 a2 ⊢
                cases hf : bt f j <;> simp_all
            have b12 : f &&& 12 = 0 → f &&& 4 = 0 := by
              rw [show (12 : Int32) = 4 ||| 8 by decide]
              intro q
              apply b_ext; intro j hj
              have := congrArg (fun z => bt z j) q
              simp only [b_and, b_or, b_0] at this ⊢
              cases h4 : bt 4 j <;> simp_all
            by_cases c1 : (¬ f &&& 4 = 0) ∨ f &&& 3 = 0
            · have g1 : ¬ (f &&& 20 = 0 ∧ ¬ f &&& 3 = 0) := fun q => c1.elim (fun z => z (b20.mp q.1).1) q.2
              have g2 : ¬ (¬ f &&& 16 = 0 ∧ c < 0) := fun q => by
                obtain ⟨_, z1, z2⟩ := hmb q.1
                exact c1.elim (fun z => z (b12 z1)) z2
              rw [if_pos c1, if_neg g1, if_neg g2]
              exact ih k' (s + 1) a c (by omega) (by omega) hA
            · rw [if_neg c1]
              have d4 : f &&& 4 = 0 := Classical.byContradiction (fun z => c1 (Or.inl z))
              have d3 : ¬ f &&& 3 = 0 := fun z => c1 (Or.inr z)
              by_cases c2 : f &&& 16 = 0
              · have g3 : ¬ ¬ f &&& 16 = 0 := fun z => z c2
                rw [if_neg g3, if_pos ⟨b20.mpr ⟨d4, c2⟩, d3⟩]
                exact hAs
              · have g1 : ¬ (f &&& 20 = 0 ∧ ¬ f &&& 3 = 0) := fun q => c2 (b20.mp q.1).2
                rw [if_pos c2, if_neg g1]
                refine ih k' (s + 1) _ _ (by omega) (by omega) ?_
                by_cases ha : a = 12
                · rw [if_pos ha, if_pos ⟨c2, hac.mpr ha⟩]
                  exact hAs
                · have g4 : ¬ (¬ f &&& 16 = 0 ∧ c < 0) := fun q => ha (hac.mp q.2)
                  rw [if_neg ha, if_neg g4]
                  exact hA
        · have hL : ¬ ((¬ (μ (b + 2 + 11 * t) 9 >>> (nI s &&& 31)) &&& 1 = 0) ∧ μ (b + 2 + 11 * s) 1 = 1) := fun q => hk q.2
          rw [if_neg hL, if_pos (Or.inr (Or.inl (fun q => hk (his.mp q).2)))]
          exact ih k' (s + 1) a c (by omega) (by omega) hA
      · have hL : ¬ ((¬ (μ (b + 2 + 11 * t) 9 >>> (nI s &&& 31)) &&& 1 = 0) ∧ μ (b + 2 + 11 * s) 1 = 1) := fun q => hb (hcn.mp q.1)
        rw [if_neg hL, if_pos (Or.inr (Or.inr (fun q => hb (hab.mp q))))]
        exact ih k' (s + 1) a c (by omega) (by omega) hA
theorem mth_AF (hx : x < 2) (hE : sE μ ν b x) (h : bG μ b) {t : Nat} (ht : t < 12) (hd : ¬ μ (b + 2 + 11 * t) 0 = 0) : AF μ b x 1 key (wim μ b t key) (qMth ν x t key) := by
  unfold wim qMth
  rcases mth_chain (key := key) hx hE h t 12 13 ht (by omega) (by omega) hd with ⟨e1, e2⟩ | ⟨v, c, e1, e2, _, hA⟩
  · rw [e1, e2]
    exact mth_face hx hE h ht 12 t 0 12 (-1) (by omega) (by omega) (Or.inl ⟨rfl, rfl⟩)
  · rw [e1, e2]
    exact hA
end MTH
