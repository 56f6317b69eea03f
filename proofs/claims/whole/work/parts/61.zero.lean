/-! THE MEMORY BEHIND THE TWO CONSTRUCTORS -/
theorem cT_4 {M : fl_M} {n : Nat} : (cT M n).2 n 4 = some (n + 1) := by
  show (if n = n ∧ 4 = 4 then some (n + 1) else if n = n ∧ 4 = 6 then some (n + 2) else if n = n + 2 ∧ 4 < 8 then some (n + 3 + 4) else M.2 n 4) = some (n + 1)
  rw [if_pos ⟨rfl, rfl⟩]
theorem cT_6 {M : fl_M} {n : Nat} : (cT M n).2 n 6 = some (n + 2) := by
  show (if n = n ∧ 6 = 4 then some (n + 1) else if n = n ∧ 6 = 6 then some (n + 2) else if n = n + 2 ∧ 6 < 8 then some (n + 3 + 6) else M.2 n 6) = some (n + 2)
  rw [if_neg (by omega), if_pos ⟨rfl, rfl⟩]
theorem cT_m {M : fl_M} {n i : Nat} (hi : i < 8) : (cT M n).2 (n + 2) i = some (n + 3 + i) := by
  show (if n + 2 = n ∧ i = 4 then some (n + 1) else if n + 2 = n ∧ i = 6 then some (n + 2) else if n + 2 = n + 2 ∧ i < 8 then some (n + 3 + i) else M.2 (n + 2) i) = some (n + 3 + i)
  rw [if_neg (by omega), if_neg (by omega), if_pos ⟨rfl, hi⟩]
theorem cT_r {M : fl_M} {n k : Nat} : (cT M n).1 n k = if k = 3 ∨ k = 8 then -1 else M.1 n k := by
  show (wI (wI (cTr M n 8) n 3 (-1)) n 8 (-1)).1 n k = _
  by_cases h8 : k = 8
  · rw [h8, rdI_eq, if_pos (Or.inr rfl)]
  · rw [rdI_ne (Or.inr h8)]
    by_cases h3 : k = 3
    · rw [h3, rdI_eq, if_pos (Or.inl rfl)]
    · rw [rdI_ne (Or.inr h3), if_neg (by omega)]
      rfl
section ZER
variable {M : fl_M} {b : Nat}
theorem cBi_o : ∀ (i a : Nat), (∀ t, t < i → a ≠ b + 2 + 11 * t) → (cBi M b i).1 a = M.1 a := by
  intro i
  induction i with
  | zero => intro a _; rfl
  | succ i ih =>
    intro a h
    show (cT (cBi M b i) (b + 2 + 11 * i)).1 a = M.1 a
    rw [cT_1 (h i (by omega)), ih a (fun t ht => h t (by omega))]
theorem cBi_n {k : Nat} : ∀ (i t : Nat), t < i → (cBi M b i).1 (b + 2 + 11 * t) k = if k = 3 ∨ k = 8 then -1 else M.1 (b + 2 + 11 * t) k := by
  intro i
  induction i with
  | zero => intro t h; omega
  | succ i ih =>
    intro t h
    show (cT (cBi M b i) (b + 2 + 11 * i)).1 (b + 2 + 11 * t) k = _
    by_cases ht : t = i
    · rw [ht, cT_r, cBi_o i _ (fun u hu => by omega)]
    · rw [cT_1 (by omega), ih t (by omega)]
theorem cBi_lo : ∀ (i a : Nat), a < b → (cBi M b i).2 a = M.2 a := by
  intro i
  induction i with
  | zero => intro a h; exact fl_u_row (by omega)
  | succ i ih =>
    intro a h
    show fl_u (cT (cBi M b i) (b + 2 + 11 * i)).2 (b + 1) i _ a = M.2 a
    rw [fl_u_row (by omega), cT_2 (by omega) (by omega), ih a h]
theorem cBi_T : ∀ (i t : Nat), t < i → ((cBi M b i).2 (b + 2 + 11 * t) 4 = some (b + 2 + 11 * t + 1) ∧ (cBi M b i).2 (b + 2 + 11 * t) 6 = some (b + 2 + 11 * t + 2) ∧ ∀ j, j < 8 → (cBi M b i).2 (b + 2 + 11 * t + 2) j = some (b + 2 + 11 * t + 3 + j)) ∧ (cBi M b i).2 (b + 1) t = some (b + 2 + 11 * t) := by
  intro i
  induction i with
  | zero => intro t h; omega
  | succ i ih =>
    intro t h
    have e : ∀ a, a ≠ b + 1 → (cBi M b (i + 1)).2 a = (cT (cBi M b i) (b + 2 + 11 * i)).2 a := fun a ha => fl_u_row ha
    by_cases ht : t = i
    · rw [ht, e _ (by omega), e _ (by omega)]
      exact ⟨⟨cT_4, cT_6, fun j hj => cT_m hj⟩, fl_u_self⟩
    · obtain ⟨⟨h1, h2, h3⟩, h4⟩ := ih t (by omega)
      rw [e _ (by omega), e _ (by omega), cT_2 (by omega) (by omega), cT_2 (by omega) (by omega)]
      refine ⟨⟨h1, h2, h3⟩, ?_⟩
      show fl_u (cT (cBi M b i) (b + 2 + 11 * i)).2 (b + 1) i _ (b + 1) t = _
      rw [fl_u_col ht, cT_2 (by omega) (by omega)]
      exact h4
/-- a new baseline: where its references lead, and its numbers -/
theorem cB_all {Y : fl_M} (hY : cB M b = Y) : (∀ a, a < b → Y.2 a = M.2 a) ∧ (∀ a, b + 134 ≤ a → Y.2 a = M.2 a) ∧ (Y.2 b 0 = some (b + 1) ∧ Y.2 b 1 = some (b + 134)) ∧ (∀ t, t < 12 → (Y.2 (b + 2 + 11 * t) 4 = some (b + 2 + 11 * t + 1) ∧ Y.2 (b + 2 + 11 * t) 6 = some (b + 2 + 11 * t + 2) ∧ ∀ j, j < 8 → Y.2 (b + 2 + 11 * t + 2) j = some (b + 2 + 11 * t + 3 + j)) ∧ Y.2 (b + 1) t = some (b + 2 + 11 * t)) ∧ (∀ a, (∀ t, t < 12 → a ≠ b + 2 + 11 * t) → Y.1 a = M.1 a) ∧ ∀ t k, t < 12 → Y.1 (b + 2 + 11 * t) k = if k = 3 ∨ k = 8 then -1 else M.1 (b + 2 + 11 * t) k := by
  have h1 := cBi_lo (M := M) (b := b) 12
  have h2 := cBi_2 (M := M) (b := b) 12
  have h3 := cBi_b (M := M) (b := b) 12
  have h4 := cBi_T (M := M) (b := b) 12
  have h5 := cBi_o (M := M) (b := b) 12
  have h6 := fun k => cBi_n (M := M) (b := b) (k := k) 12
  unfold cB at hY
  generalize cBi M b 12 = X at hY h1 h2 h3 h4 h5 h6
  have e : ∀ a, a ≠ b → Y.2 a = X.2 a := fun a ha => by rw [← hY]; exact fl_u_row ha
  have e1 : ∀ a, Y.1 a = X.1 a := fun a => by rw [← hY]; rfl
  refine ⟨fun a ha => ?_, fun a ha => ?_, ⟨?_, ?_⟩, fun t ht => ?_, fun a ha => ?_, fun t k ht => ?_⟩
  · rw [e a (by omega), h1 a ha]
  · rw [e a (by omega), h2 a (by omega)]
  · rw [← hY]
    exact (fl_u_col (by decide)).trans h3
  · rw [← hY]
    exact fl_u_self
  · rw [e _ (by omega), e _ (by omega), e _ (by omega)]
    exact h4 t ht
  · rw [e1, h5 a ha]
  · rw [e1, h6 k t ht]
end ZER
abbrev M00 : fl_M := (fun _ _ => 0, fun _ _ => none)
theorem zT_n {n : Nat} (h : zSh n = zsT) : ∃ b t, (b = 2 ∨ b = 137) ∧ t < 12 ∧ n = b + 2 + 11 * t := by
  have h9 : ∀ n, n < 295 → shE (zSh n) zsT = true → (4 ≤ n ∧ n < 136 ∧ (n - 4) % 11 = 0) ∨ (139 ≤ n ∧ n < 271 ∧ (n - 139) % 11 = 0) := by decide +kernel
  rcases h9 n (zlt h) (shE_t h) with ⟨q1, q2, q3⟩ | ⟨q1, q2, q3⟩
  · exact ⟨2, (n - 4) / 11, Or.inl rfl, by omega, by omega⟩
  · exact ⟨137, (n - 139) / 11, Or.inr rfl, by omega, by omega⟩
/-- the judge's memory, and its references -/
theorem cJ_all {Y : fl_M} (hY : cJ M00 = Y) : (∀ a k, (∀ t, t < 12 → a ≠ 4 + 11 * t ∧ a ≠ 139 + 11 * t) → Y.1 a k = 0) ∧ (∀ b t k, (b = 2 ∨ b = 137) → t < 12 → Y.1 (b + 2 + 11 * t) k = if k = 3 ∨ k = 8 then -1 else 0) ∧ (∀ a, 278 ≤ a → Y.2 a = fun _ => none) ∧ (Y.2 0 0 = some 1 ∧ Y.2 0 1 = some 272 ∧ Y.2 0 2 = some 277 ∧ Y.2 1 0 = some 2 ∧ Y.2 1 1 = some 137) ∧ (∀ b, (b = 2 ∨ b = 137) → (Y.2 b 0 = some (b + 1) ∧ Y.2 b 1 = some (b + 134)) ∧ ∀ t, t < 12 → (Y.2 (b + 2 + 11 * t) 4 = some (b + 2 + 11 * t + 1) ∧ Y.2 (b + 2 + 11 * t) 6 = some (b + 2 + 11 * t + 2) ∧ ∀ j, j < 8 → Y.2 (b + 2 + 11 * t + 2) j = some (b + 2 + 11 * t + 3 + j)) ∧ Y.2 (b + 1) t = some (b + 2 + 11 * t)) ∧ (Y.2 272 0 = some 273 ∧ Y.2 272 1 = some 274 ∧ Y.2 272 2 = some 275 ∧ Y.2 272 5 = some 276) := by
  obtain ⟨P, hP⟩ : ∃ P, cB M00 2 = P := ⟨_, rfl⟩
  obtain ⟨p1, p2, p3, p4, p5, p6⟩ := cB_all hP
  obtain ⟨R, hR⟩ : ∃ R, cB (wR P 1 0 (some 2)) 137 = R := ⟨_, rfl⟩
  obtain ⟨r1, r2, r3, r4, r5, r6⟩ := cB_all hR
  have eP : ∀ a, a ≠ 1 → (wR P 1 0 (some 2)).2 a = P.2 a := fun a ha => fl_u_row ha
  have eP1 : ∀ a, (wR P 1 0 (some 2)).1 a = P.1 a := fun a => rfl
  have eP10 : (wR P 1 0 (some 2)).2 1 0 = some 2 := by
    show fl_u P.2 1 0 (some 2) 1 0 = some 2
    exact fl_u_self
  have hY2 : Y = wR (wR (cC (wR (wR R 1 1 (some 137)) 0 0 (some 1))) 0 1 (some 272)) 0 2 (some 277) := by
    rw [← hY]
    unfold cJ cJ2 cJ1
    rw [hP, hR]
  have y1 : ∀ a, Y.1 a = R.1 a := fun a => by rw [hY2]; rfl
  have yo : ∀ a, a ≠ 0 → a ≠ 1 → a ≠ 272 → Y.2 a = R.2 a := fun a h0 h1 h2 => by
    rw [hY2]
    show fl_u (fl_u (fl_u (fl_u (fl_u (fl_u (fl_u (fl_u R.2 1 1 (some 137)) 0 0 (some 1)) 272 0 (some 273)) 272 1 (some 274)) 272 2 (some 275)) 272 5 (some 276)) 0 1 (some 272)) 0 2 (some 277) a = _
    rw [fl_u_row h0, fl_u_row h0, fl_u_row h2, fl_u_row h2, fl_u_row h2, fl_u_row h2, fl_u_row h0, fl_u_row h1]
  refine ⟨fun a k h => ?_, fun b t k hb ht => ?_, fun a ha => ?_, ⟨?_, ?_, ?_, ?_, ?_⟩, fun b hb => ?_, ⟨?_, ?_, ?_, ?_⟩⟩
  · have e : Y.1 a = M00.1 a := by rw [y1, r5 a (fun t ht => by have := h t ht; omega), eP1, p5 a (fun t ht => by have := h t ht; omega)]
    exact congrFun e k
  · rcases hb with rfl | rfl
    · have e : Y.1 (2 + 2 + 11 * t) = P.1 (2 + 2 + 11 * t) := by rw [y1, r5 _ (fun u hu => by omega), eP1]
      exact (congrFun e k).trans (p6 t k ht)
    · have e : Y.1 (137 + 2 + 11 * t) k = if k = 3 ∨ k = 8 then -1 else (wR P 1 0 (some 2)).1 (137 + 2 + 11 * t) k := by rw [y1, r6 t k ht]
      have z : (wR P 1 0 (some 2)).1 (137 + 2 + 11 * t) = M00.1 (137 + 2 + 11 * t) := by rw [eP1, p5 _ (fun u hu => by omega)]
      exact e.trans (congrArg (fun v => if k = 3 ∨ k = 8 then (-1 : Int32) else v) (congrFun z k))
  · have e : Y.2 a = M00.2 a := by rw [yo a (by omega) (by omega) (by omega), r2 a (by omega), eP a (by omega), p2 a (by omega)]
    exact e
  · rw [hY2]
    rfl
  · rw [hY2]
    rfl
  · rw [hY2]
    rfl
  · have e : Y.2 1 0 = R.2 1 0 := by
      rw [hY2]
      rfl
    rw [e, r1 1 (by decide), eP10]
  · rw [hY2]
    rfl
  · rcases hb with rfl | rfl
    · refine ⟨?_, fun t ht => ?_⟩
      · rw [yo 2 (by decide) (by decide) (by decide), r1 2 (by decide), eP 2 (by decide)]
        exact p3
      · rw [yo _ (by omega) (by omega) (by omega), yo _ (by omega) (by omega) (by omega), yo _ (by omega) (by omega) (by omega), r1 _ (by omega), r1 _ (by omega), r1 _ (by omega), eP _ (by omega), eP _ (by omega), eP _ (by omega)]
        exact p4 t ht
    · refine ⟨?_, fun t ht => ?_⟩
      · rw [yo 137 (by decide) (by decide) (by decide)]
        exact r3
      · rw [yo _ (by omega) (by omega) (by omega), yo _ (by omega) (by omega) (by omega), yo _ (by omega) (by omega) (by omega)]
        exact r4 t ht
  · rw [hY2]
    rfl
  · rw [hY2]
    rfl
  · rw [hY2]
    rfl
  · rw [hY2]
    rfl
theorem cR_2 {Y : fl_M} : (∀ a, a ≠ 278 → (cR Y).2 a = Y.2 a) ∧ (∀ k, k < 15 → (cR Y).2 278 k = some (279 + k)) ∧ (cR Y).2 278 21 = some 294 := by
  refine ⟨fun a ha => ?_, fun k hk => ?_, ?_⟩
  · show fl_u (fl_u (fl_u (fl_u (fl_u (fl_u (fl_u (fl_u (fl_u (fl_u (fl_u (fl_u (fl_u (fl_u (fl_u (fl_u Y.2 278 0 _) 278 1 _) 278 2 _) 278 3 _) 278 4 _) 278 5 _) 278 6 _) 278 7 _) 278 8 _) 278 9 _) 278 10 _) 278 11 _) 278 12 _) 278 13 _) 278 14 _) 278 21 _ a = _
    rw [fl_u_row ha, fl_u_row ha, fl_u_row ha, fl_u_row ha, fl_u_row ha, fl_u_row ha, fl_u_row ha, fl_u_row ha, fl_u_row ha, fl_u_row ha, fl_u_row ha, fl_u_row ha, fl_u_row ha, fl_u_row ha, fl_u_row ha, fl_u_row ha]
  · rcases (show k = 0 ∨ k = 1 ∨ k = 2 ∨ k = 3 ∨ k = 4 ∨ k = 5 ∨ k = 6 ∨ k = 7 ∨ k = 8 ∨ k = 9 ∨ k = 10 ∨ k = 11 ∨ k = 12 ∨ k = 13 ∨ k = 14 by omega) with rfl | rfl | rfl | rfl | rfl | rfl | rfl | rfl | rfl | rfl | rfl | rfl | rfl | rfl | rfl <;> rfl
  · rfl
theorem bul_id {b1 b2 : Nat} {M : fl_M} (h : ∀ t, t < 12 → M.1 (b1 + 2 + 11 * t) 0 = 0) : ∀ (k t : Nat), t + k ≤ 12 → bul M b1 b2 t k = M := by
  intro k
  induction k with
  | zero => intro t _; rfl
  | succ k ih =>
    intro t ht
    rw [bul, if_neg (fun z => z.1 (h t (by omega)))]
    exact ih (t + 1) (by omega)
/-- nothing is there yet: the invariant holds -/
theorem INV_0 : INV 2 (cR (cJ M00)) := by
  obtain ⟨Y, hY⟩ : ∃ Y, cJ M00 = Y := ⟨_, rfl⟩
  obtain ⟨y0, yn, _, yJ, yB, yC⟩ := cJ_all hY
  rw [hY]
  obtain ⟨c1, c2, c3⟩ := cR_2 (Y := Y)
  have e1 : ∀ a k, (cR Y).1 a k = Y.1 a k := fun a k => rfl
  obtain ⟨Z, hZ⟩ : ∃ Z, cR Y = Z := ⟨_, rfl⟩
  rw [hZ] at c1 c2 c3 e1 ⊢
  have z0 : ∀ a k, (∀ t, t < 12 → a ≠ 4 + 11 * t ∧ a ≠ 139 + 11 * t) → Z.1 a k = 0 := fun a k h => by rw [e1]; exact y0 a k h
  have zh : ∀ a k, 271 ≤ a → Z.1 a k = 0 := fun a k h => z0 a k (fun t ht => by omega)
  have zn : ∀ b t k, (b = 2 ∨ b = 137) → t < 12 → Z.1 (b + 2 + 11 * t) k = if k = 3 ∨ k = 8 then -1 else 0 := fun b t k hb ht => by rw [e1]; exact yn b t k hb ht
  have h00 : (0 : Int32) = nI 0 := by decide
  have hbG : ∀ b, (b = 2 ∨ b = 137) → ∀ μ : Nat → Nat → Int32, (∀ t k, t < 12 → μ (b + 2 + 11 * t) k = if k = 3 ∨ k = 8 then -1 else 0) → (∀ k, μ (b + 134) k = 0) → bG μ b := by
    intro b hb μ hn hf
    have n3 : ∀ t, t < 12 → μ (b + 2 + 11 * t) 3 = -1 := fun t ht => by rw [hn t 3 ht, if_pos (Or.inl rfl)]
    have n8 : ∀ t, t < 12 → μ (b + 2 + 11 * t) 8 = -1 := fun t ht => by rw [hn t 8 ht, if_pos (Or.inr rfl)]
    have nk : ∀ t k, t < 12 → k ≠ 3 → k ≠ 8 → μ (b + 2 + 11 * t) k = 0 := fun t k ht h3 h8 => by rw [hn t k ht, if_neg (by omega)]
    have ci : ∀ t, t < 12 → cI μ (b + 2 + 11 * t) = 0 := fun t ht => by unfold cI; rw [nk t 5 ht (by decide) (by decide), ix0]
    have cm : ∀ t, t < 12 → cM μ (b + 2 + 11 * t) = 0 := fun t ht => by unfold cM; rw [nk t 7 ht (by decide) (by decide), ix0]
    refine ⟨⟨fun t ht => ?_, fun t ht => Or.inl (n8 t ht), fun t ht => ?_⟩, fun t ht => ⟨?_, ?_, ?_⟩⟩
    · refine ⟨⟨⟨?_, ?_⟩, ?_, ?_⟩, Or.inl (nk t 0 ht (by decide) (by decide)), fun i hi => ?_, Or.inl (n3 t ht)⟩
      · exact (nk t 5 ht (by decide) (by decide)).trans (h00.trans (congrArg nI (ci t ht).symm))
      · have := ci t ht
        omega
      · exact (nk t 7 ht (by decide) (by decide)).trans (h00.trans (congrArg nI (cm t ht).symm))
      · have := cm t ht
        omega
      · rw [ci t ht] at hi; omega
    · rw [hf]
      exact Or.inr ⟨h00.trans (congrArg nI ix0.symm), by rw [ix0]; omega⟩
    · unfold tL
      rw [nk t 0 ht (by decide) (by decide), nk t 1 ht (by decide) (by decide), nk t 2 ht (by decide) (by decide), n3 t ht, nk t 5 ht (by decide) (by decide), nk t 7 ht (by decide) (by decide), cm t ht]
      exact ⟨Or.inl rfl, Or.inl rfl, by decide, fun _ => ⟨rfl, rfl, rfl, rfl, rfl⟩, fun i hi => absurd hi (by omega)⟩
    · rw [n8 t ht, n3 t ht, if_neg not_isC_m1]
    · unfold gat gt0
      rw [ci t ht, n8 t ht, if_pos rfl, nk t 9 ht (by decide) (by decide)]
      rfl
  have hzb : ∀ x, x < 2 → zb 2 x = 2 ∨ zb 2 x = 137 := fun x hx => zb_2 (Or.inl rfl) hx
  have hg : ∀ μ : Nat → Nat → Int32, (∀ a k, a ≠ 272 → μ a k = Z.1 a k) → ∀ x, x < 2 → bG μ (zb 2 x) := fun μ hμ x hx => by
    have hb := hzb x hx
    exact hbG _ hb μ (fun t k ht => by rw [hμ _ _ (by omega)]; exact zn _ t k hb ht) (fun k => by rw [hμ _ _ (by omega)]; exact z0 _ _ (fun t ht => by omega))
  have hRf : zRf 2 Z.2 := by
    refine ⟨Or.inl rfl, ?_, fun b hb => ?_, fun n hn => ?_, ?_, c2, c3⟩
    · rw [c1 0 (by decide), c1 1 (by decide)]
      exact yJ
    · have hb2 := shB2 hb
      obtain ⟨⟨q1, q2⟩, q3⟩ := yB b hb2
      rw [c1 b (by omega), c1 (b + 1) (by omega)]
      exact ⟨q1, q2, fun t ht => (q3 t ht).2⟩
    · obtain ⟨b, t, hb, ht, en⟩ := zT_n hn
      rw [en, c1 _ (by omega), c1 _ (by omega)]
      exact ((yB b hb).2 t ht).1
    · rw [c1 272 (by decide)]
      exact yC
  have hz3 : ∀ μ : Nat → Nat → Int32, (∀ a k, a ≠ 272 → μ a k = Z.1 a k) → zM3 μ := fun μ hμ a ha => by
    have hl := zsM_lt ha
    rw [hμ a 3 (by omega), z0 a 3 (fun t ht => ⟨fun q => by
      have := shBt sh2 ht
      rw [show 2 + 2 + 11 * t = a by omega] at this
      exact neTM this ha rfl, fun q => by
      have := shBt sh137 ht
      rw [show 137 + 2 + 11 * t = a by omega] at this
      exact neTM this ha rfl⟩)]
    exact Or.inl rfl
  have hzO : ∀ μ : Nat → Nat → Int32, μ 272 3 = 0 → zOk μ ∧ lOk μ := fun μ hμ => by
    have hc : cz μ = 0 := by unfold cz; rw [hμ, ix0]
    refine ⟨⟨hμ.trans (h00.trans (congrArg nI hc.symm)), by omega⟩, fun i hi => ?_⟩
    have hi9 : i < cz μ := hi
    omega
  have hC : CIv 2 Z := ⟨hRf, hg Z.1 (fun _ _ _ => rfl), hz3 Z.1 (fun _ _ _ => rfl), hzO Z.1 (zh _ _ (by omega))⟩
  refine ⟨hC, Or.inr ⟨wI Z 272 4 1, ⟨hRf, hg _ (fun a k h => rdI_ne (Or.inl h)), hz3 _ (fun a k h => rdI_ne (Or.inl h)), hzO _ (by rw [rdI_ne (by omega)]; exact zh _ _ (by omega))⟩, by rw [rdI_eq]; decide, fun x hx a k q1 q2 => ?_, ?_, ?_⟩, ?_, ?_, ?_⟩
  · have := hzb x hx
    rw [rdI_ne (by omega)]
  · have hb : but (wI Z 272 4 1) (zb 2 0) (zb 2 1) = wI (wI (wI Z 272 4 1) 272 4 0) 272 3 0 := by
      unfold but
      rw [if_neg (by rw [rdI_eq]; decide)]
      refine bul_id (fun t ht => ?_) 12 0 (by omega)
      have := hzb 0 (by omega)
      refine Eq.trans ?_ (zn _ t 0 this ht)
      rw [rdI_ne (by omega), rdI_ne (by omega), rdI_ne (by omega)]
    rw [hb, rdI_eq]
    exact zh _ _ (by omega)
  · intro a i q1 q2
    have hb : but (wI Z 272 4 1) (zb 2 0) (zb 2 1) = wI (wI (wI Z 272 4 1) 272 4 0) 272 3 0 := by
      unfold but
      rw [if_neg (by rw [rdI_eq]; decide)]
      refine bul_id (fun t ht => ?_) 12 0 (by omega)
      have := hzb 0 (by omega)
      refine Eq.trans ?_ (zn _ t 0 this ht)
      rw [rdI_ne (by omega), rdI_ne (by omega), rdI_ne (by omega)]
    rw [hb, rdI_ne (by omega), rdI_ne (by omega), rdI_ne (by omega)]
  · intro b t hb ht
    unfold rI rC qF qM
    rw [zh 279 _ (by omega), zh 283 _ (by omega), zh 285 _ (by omega), ix0]
    refine ⟨⟨⟨h00, by omega⟩, h00, by omega⟩, Or.inl rfl, fun z => absurd rfl z, fun i hi => ?_⟩
    rw [zh _ _ (by omega)]
    exact Or.inl rfl
  · intro x hx t ht
    have hb := hzb x hx
    unfold rE
    rw [zh 279 _ (by omega), zn _ t 0 hb ht]
    exact ⟨rfl, fun z => absurd rfl z⟩
  · intro r hr
    rw [zh 277 _ (by omega)]
    refine ⟨fun t ht => ?_, fun i hi => b_0 i⟩
    rw [zh 291 _ (by omega), b_0]
    exact ⟨Or.inl rfl, ⟨fun z => (by cases z), fun z => absurd rfl z⟩⟩
