/-! THE REFERENCE'S FIELD: the pile, top first, and the first owner in it -/
def pil (μ : Nat → Nat → Int32) : Nat → List Nat
  | 0 => []
  | n + 1 => ix (μ 293 n) :: pil μ n
def fo (W : Nat → Int32) : List Nat → Int32
  | [] => 12
  | u :: us => if W u = 12 then fo W us else W u
theorem fo_app {W : Nat → Int32} : ∀ (A B : List Nat), fo W (A ++ B) = if fo W A = 12 then fo W B else fo W A := by
  intro A
  induction A with
  | nil => intro B; rfl
  | cons u us ih =>
    intro B
    show (if W u = 12 then fo W (us ++ B) else W u) = if (if W u = 12 then fo W us else W u) = 12 then fo W B else (if W u = 12 then fo W us else W u)
    by_cases h : W u = 12
    · rw [if_pos h, if_pos h, ih]
    · rw [if_neg h, if_neg h, if_neg h]
theorem pil_rd {μ μ' : Nat → Nat → Int32} : ∀ (n : Nat), (∀ i, i < n → μ' 293 i = μ 293 i) → pil μ' n = pil μ n := by
  intro n
  induction n with
  | zero => intro _; rfl
  | succ n ih => intro h; show _ :: _ = _ :: _; rw [h n (by omega), ih (fun i hi => h i (by omega))]
/-- the counted interfaces in their order -/
def chf (μ : Nat → Nat → Int32) (b n : Nat) : Nat → Nat → List Nat
  | _, 0 => []
  | i, k + 1 => if isI μ b (μ (n + 1) i) then ix (μ (n + 1) i) :: chf μ b n (i + 1) k else chf μ b n (i + 1) k
theorem chf_succ {μ : Nat → Nat → Int32} {b n : Nat} : ∀ (k i : Nat), chf μ b n i (k + 1) = chf μ b n i k ++ (if isI μ b (μ (n + 1) (i + k)) then [ix (μ (n + 1) (i + k))] else []) := by
  intro k
  induction k with
  | zero => intro i; rfl
  | succ k ih =>
    intro i
    show (if isI μ b (μ (n + 1) i) then ix (μ (n + 1) i) :: chf μ b n (i + 1) (k + 1) else chf μ b n (i + 1) (k + 1)) = (if isI μ b (μ (n + 1) i) then ix (μ (n + 1) i) :: chf μ b n (i + 1) k else chf μ b n (i + 1) k) ++ _
    rw [ih (i + 1), show i + 1 + k = i + (k + 1) by omega]
    by_cases h : isI μ b (μ (n + 1) i)
    · rw [if_pos h, if_pos h]; rfl
    · rw [if_neg h, if_neg h]
def chs (μ : Nat → Nat → Int32) (n : Nat) : List Nat := if μ n 8 = -1 then [] else [ix (μ n 8)]
abbrev chl (μ : Nat → Nat → Int32) (b t : Nat) : List Nat := chf μ b (b + 2 + 11 * t) 0 (cI μ (b + 2 + 11 * t)) ++ chs μ (b + 2 + 11 * t)
theorem fl1_fo {μ : Nat → Nat → Int32} {b n : Nat} {W : Nat → Int32} : ∀ (k i : Nat), fo W (chf μ b n i k ++ chs μ n) = fz1 μ n W (fl1 μ b n W i k) := by
  intro k
  induction k with
  | zero =>
    intro i
    show fo W (chs μ n) = (if μ n 8 = -1 then 12 else W (ix (μ n 8)))
    unfold chs
    by_cases h : μ n 8 = -1
    · rw [if_pos h, if_pos h]; rfl
    · rw [if_neg h, if_neg h]
      show (if W (ix (μ n 8)) = 12 then 12 else W (ix (μ n 8))) = _
      split
      · rename_i q; exact q.symm
      · rfl
  | succ k ih =>
    intro i
    unfold chf fl1
    by_cases h : isI μ b (μ (n + 1) i)
    · rw [if_pos h]
      show (if W (ix (μ (n + 1) i)) = 12 then fo W (chf μ b n (i + 1) k ++ chs μ n) else W (ix (μ (n + 1) i))) = _
      by_cases h2 : W (ix (μ (n + 1) i)) = 12
      · rw [if_pos h2, if_neg (fun q => q.2 h2), ih]
      · rw [if_neg h2, if_pos ⟨h, h2⟩]; rfl
    · rw [if_neg h, if_neg (fun q => h q.1), ih]
section DFS
variable {μ : Nat → Nat → Int32} {b x : Nat} {key : Int32}
theorem chf_lt {t : Nat} (h : bG μ b) (ht : t < 12) : ∀ (k i : Nat), i + k ≤ cI μ (b + 2 + 11 * t) → ∀ v ∈ chf μ b (b + 2 + 11 * t) i k, v < t ∧ ¬ μ (b + 2 + 11 * v) 0 = 0 := by
  intro k
  induction k with
  | zero => intro i _ v hv; cases hv
  | succ k ih =>
    intro i hi v hv
    unfold chf at hv
    by_cases hI : isI μ b (μ (b + 2 + 11 * t + 1) i)
    · rw [if_pos hI] at hv
      rcases List.mem_cons.mp hv with q | q
      · have z := (h.face ht i (by omega)).2
        rw [q]
        exact ⟨z, hI.1⟩
      · exact ih (i + 1) (by omega) v q
    · rw [if_neg hI] at hv
      exact ih (i + 1) (by omega) v hv
theorem chs_lt {t : Nat} (h : bG μ b) (ht : t < 12) : ∀ v ∈ chs μ (b + 2 + 11 * t), v < t := by
  intro v hv
  unfold chs at hv
  by_cases hs : μ (b + 2 + 11 * t) 8 = -1
  · rw [if_pos hs] at hv; cases hv
  · rw [if_neg hs] at hv
    rw [List.mem_singleton.mp hv]
    exact ((h.sup ht).resolve_left hs).2
theorem chl_lt {t : Nat} (h : bG μ b) (ht : t < 12) : ∀ v ∈ chl μ b t, v < t := by
  intro v hv
  rcases List.mem_append.mp hv with q | q
  · exact (chf_lt h ht _ _ (by omega) v q).1
  · exact chs_lt h ht v q
theorem oW_chl {t : Nat} (h : bG μ b) (ht : t < 12) : oW μ b key t = if tOwn μ (b + 2 + 11 * t) 0 key = none then fo (oW μ b key) (chl μ b t) else nI t := by
  rw [oW_fix h ht]
  unfold ff1
  rw [fl1_fo]
/-- the pushes -/
theorem ffl_pil {t : Nat} (h : bG μ b) (ht : t < 12) (hd : ¬ μ (b + 2 + 11 * t) 0 = 0) : ∀ (s n : Nat) (X : fl_M), sE μ X.1 b x → s ≤ cI μ (b + 2 + 11 * t) → pil (ffl X x (12 * x + t) n s).1.1 (ffl X x (12 * x + t) n s).2 = chf μ b (b + 2 + 11 * t) 0 s ++ pil X.1 n ∧ (ffl X x (12 * x + t) n s).2 ≤ n + s := by
  intro s
  induction s with
  | zero => intro n X _ _; exact ⟨rfl, Nat.le_refl _⟩
  | succ s ih =>
    intro n X hE hs
    obtain ⟨_, _, _, _, _, ef, _⟩ := (hE t ht).2 hd
    have hf := h.face ht s (by omega)
    have hlt := hf.2
    have hq : qIs X.1 x (X.1 284 (3 * (12 * x + t) + s)) 1 ↔ isI μ b (μ (b + 2 + 11 * t + 1) s) := by
      rw [ef s (by omega), hf.1, E_is hE h (by omega), isI_nI (by omega)]
    unfold ffl
    rw [chf_succ, Nat.zero_add]
    by_cases hI : isI μ b (μ (b + 2 + 11 * t + 1) s)
    · rw [if_pos (hq.mpr hI), if_pos hI]
      have hE' : sE μ (wI X 293 n (X.1 284 (3 * (12 * x + t) + s))).1 b x := sE_rows (fun a k h1 h2 => rdI_ne (Or.inl (by omega))) hE
      obtain ⟨i1, i2⟩ := ih (n + 1) _ hE' (by omega)
      refine ⟨?_, by omega⟩
      rw [i1, List.append_assoc]
      congr 1
      show ix ((wI X 293 n (X.1 284 (3 * (12 * x + t) + s))).1 293 n) :: pil _ n = _ :: pil X.1 n
      rw [rdI_eq, ef s (by omega), pil_rd n (fun i hi => rdI_ne (Or.inr (by omega)))]
    · rw [if_neg (fun z => hI (hq.mp z)), if_neg hI, List.append_nil]
      obtain ⟨i1, i2⟩ := ih n X hE (by omega)
      exact ⟨i1, by omega⟩
theorem fsc_pil {t n : Nat} {X : fl_M} (h : bG μ b) (ht : t < 12) (hd : ¬ μ (b + 2 + 11 * t) 0 = 0) (hE : sE μ X.1 b x) : pil (fsc X x (12 * x + t) n).1.1 (fsc X x (12 * x + t) n).2 = chs μ (b + 2 + 11 * t) ++ pil X.1 n ∧ (fsc X x (12 * x + t) n).2 ≤ n + 1 := by
  obtain ⟨e1, _, e3, _⟩ := (hE t ht).2 hd
  unfold fsc chs
  rw [e1, e3]
  have hk := (h.leg ht).2.2.1
  have hpar := h.par ht
  have hs8 := h.s8 ht
  by_cases hm : μ (b + 2 + 11 * t) 3 = -1
  · have : ¬ (μ (b + 2 + 11 * t) 1 = 0 ∧ qIs X.1 x (μ (b + 2 + 11 * t) 3) 0) := fun q => q.2.1 (by rw [hm]; decide)
    rw [if_neg this]
    rw [hm, if_neg not_isC_m1] at hs8
    rw [if_pos hs8]
    exact ⟨rfl, by dsimp only; omega⟩
  · have hin := hpar.resolve_left hm
    have hlt := hin.2
    have hk0 : μ (b + 2 + 11 * t) 1 = 0 := ((h.leg ht).2.1).resolve_right (fun q => by
      unfold okTy at hk
      rw [if_pos q] at hk
      exact hm hk.2.2)
    have hq : qIs X.1 x (μ (b + 2 + 11 * t) 3) 0 ↔ isC μ b (μ (b + 2 + 11 * t) 3) := by
      rw [hin.1, E_is hE h (by omega), isC_nI (by omega)]
    by_cases hC : isC μ b (μ (b + 2 + 11 * t) 3)
    · rw [if_pos ⟨hk0, hq.mpr hC⟩]
      rw [if_pos hC] at hs8
      rw [if_neg (by rw [hs8]; exact hm)]
      refine ⟨?_, Nat.le_refl _⟩
      show ix ((wI X 293 n (μ (b + 2 + 11 * t) 3)).1 293 n) :: pil _ n = _ :: pil X.1 n
      rw [rdI_eq, hs8, pil_rd n (fun i hi => rdI_ne (Or.inr (by omega)))]
    · rw [if_neg (fun q => hC (hq.mp q.2))]
      rw [if_neg hC] at hs8
      rw [if_pos hs8]
      exact ⟨rfl, by dsimp only; omega⟩
/-- what an owner and a cell have to do with each other -/
def AF (μ : Nat → Nat → Int32) (b x : Nat) (k key v c : Int32) : Prop := (v = 12 ∧ c = -1) ∨ ∃ j i, j < 12 ∧ v = nI j ∧ tOwn μ (b + 2 + 11 * j) k key = some i ∧ c = nI (8 * (12 * x + j) + i) ∧ ¬ μ (b + 2 + 11 * j) 0 = 0
theorem AF_own {ν : Nat → Nat → Int32} (hE : sE μ ν b x) (h : bG μ b) {t : Nat} (ht : t < 12) {k : Int32} : AF μ b x k key (if tOwn μ (b + 2 + 11 * t) k key = none then 12 else nI t) (qOwn ν (12 * x + t) k key) := by
  rw [E_own (hE t ht) (h.leg ht)]
  cases ho : tOwn μ (b + 2 + 11 * t) k key with
  | none => exact Or.inl ⟨if_pos rfl, rfl⟩
  | some i =>
    refine Or.inr ⟨t, i, ht, if_neg (by simp), ho, rfl, fun q => ?_⟩
    rw [tOwn_0 ((h.leg ht).2.2.2.1 q).2.2.2.2] at ho
    cases ho
def sInv (W : Nat → Int32) (μ : Nat → Nat → Int32) (S : List Nat) : Prop := ∀ u, u < 12 → ¬ μ 292 u = 0 → W u = 12 ∨ ∃ A B, S = A ++ B ∧ (∀ v ∈ A, v < u) ∧ fo W A = W u ∧ ¬ W u = 12
theorem dfs_AF (hx : x < 2) (h : bG μ b) : ∀ (k : Nat) (X : fl_M) (n : Nat), sE μ X.1 b x → (∀ u ∈ pil X.1 n, u < 12 ∧ ¬ μ (b + 2 + 11 * u) 0 = 0) → sInv (oW μ b key) X.1 (pil X.1 n) → n + 4 * unS X.1 < k → AF μ b x 0 key (fo (oW μ b key) (pil X.1 n)) (dfs x key k X n).1 := by
  intro k
  induction k with
  | zero => intro X n _ _ _ hk; exact absurd hk (by omega)
  | succ k ih =>
    intro X n hE hS hI hk
    unfold dfs
    cases n with
    | zero => rw [if_pos rfl]; exact Or.inl ⟨rfl, rfl⟩
    | succ n =>
      rw [if_neg (by omega), Nat.add_sub_cancel]
      have hu := hS (ix (X.1 293 n)) List.mem_cons_self
      have hpil : pil X.1 (n + 1) = ix (X.1 293 n) :: pil X.1 n := rfl
      rw [hpil] at hI ⊢
      generalize ix (X.1 293 n) = u at hu hI hpil ⊢
      obtain ⟨hu12, hud⟩ := hu
      have hS' : ∀ v ∈ pil X.1 n, v < 12 ∧ ¬ μ (b + 2 + 11 * v) 0 = 0 := fun v hv => hS v (by rw [hpil]; exact List.mem_cons_of_mem _ hv)
      have hA0 : ∀ (v : Nat) (A B : List Nat), u :: pil X.1 n = A ++ B → (∀ w ∈ A, w < v) → fo (oW μ b key) A = oW μ b key v → ¬ oW μ b key v = 12 → ∃ A', A = u :: A' ∧ pil X.1 n = A' ++ B ∧ u < v := by
        intro v A B e1 e2 e3 e4
        cases A with
        | nil => exact absurd e3.symm e4
        | cons a A' =>
          rw [List.cons_append] at e1
          injection e1 with e5 e6
          subst e5
          exact ⟨A', rfl, e6, e2 _ List.mem_cons_self⟩
      by_cases hs : X.1 292 u = 0
      · rw [if_neg (fun q => q hs)]
        have hW := oW_chl (key := key) h hu12
        have hEm : sE μ (wI X 292 u 1).1 b x := sE_rows (fun a j h1 h2 => rdI_ne (Or.inl (by omega))) hE
        have hneg := E_neg (by omega) (hEm u hu12) (h.leg hu12) (h.cnt hu12) 0 key
        by_cases ho : tOwn μ (b + 2 + 11 * u) 0 key = none
        · rw [if_neg (fun q => q (hneg.mpr ho))]
          rw [if_pos ho] at hW
          obtain ⟨p1, p2⟩ := fsc_pil (n := n) h hu12 hud hEm
          have hun := unS_mark (M := X) hu12 hs
          generalize hY : fsc (wI X 292 u 1) x (12 * x + u) n = Y at p1 p2
          have hYr : ∀ a j, a ≠ 293 → Y.1.1 a j = (wI X 292 u 1).1 a j := fun a j q => by rw [← hY]; exact fsc_rd q
          have hEY : sE μ Y.1.1 b x := sE_rows (fun a j h1 h2 => hYr a j (by omega)) hEm
          have hqF : qF X.1 (12 * x + u) = cI μ (b + 2 + 11 * u) := by
            unfold qF cI
            rw [((hE u hu12).2 hud).2.2.2.1]
          rw [hqF]
          obtain ⟨q1, q2⟩ := ffl_pil (x := x) h hu12 hud (cI μ (b + 2 + 11 * u)) Y.2 Y.1 hEY (Nat.le_refl _)
          have hZr : ∀ a j, a ≠ 293 → (ffl Y.1 x (12 * x + u) Y.2 (cI μ (b + 2 + 11 * u))).1.1 a j = Y.1.1 a j := fun a j q => ffl_rd q _ _ _
          generalize ffl Y.1 x (12 * x + u) Y.2 (cI μ (b + 2 + 11 * u)) = Z at q1 q2 hZr
          have hpz : pil Z.1.1 Z.2 = chl μ b u ++ pil X.1 n := by
            rw [q1, p1, ← List.append_assoc, pil_rd (μ := X.1) (μ' := (wI X 292 u 1).1) n (fun i hi => rdI_ne (Or.inl (by omega)))]
          have hfo : fo (oW μ b key) (u :: pil X.1 n) = fo (oW μ b key) (pil Z.1.1 Z.2) := by
            rw [hpz, fo_app]
            show (if oW μ b key u = 12 then _ else oW μ b key u) = _
            rw [hW]
          rw [hfo]
          have hc3 := (h.cnt hu12).1.2
          have hunZ : unS Z.1.1 = unS (wI X 292 u 1).1 := by
            unfold unS uns
            simp only [hZr 292 _ (by omega), hYr 292 _ (by omega)]
          refine ih Z.1 Z.2 (sE_rows (fun a j h1 h2 => hZr a j (by omega)) hEY) ?_ ?_ (by omega)
          · intro v hv
            rw [hpz] at hv
            rcases List.mem_append.mp hv with q | q
            · have l := chl_lt h hu12 v q
              refine ⟨by omega, ?_⟩
              rcases List.mem_append.mp q with z | z
              · exact (chf_lt h hu12 _ _ (by omega) v z).2
              · unfold chs at z
                by_cases hm : μ (b + 2 + 11 * u) 8 = -1
                · rw [if_pos hm] at z; cases z
                · rw [if_neg hm] at z
                  rw [List.mem_singleton.mp z]
                  exact (TG_def h (TG_one (cD_sup h hu12 hm))).2
            · exact hS' v q
          · intro v hv hsv
            rw [hZr _ _ (by omega), hYr _ _ (by omega)] at hsv
            by_cases hvu : v = u
            · subst hvu
              by_cases hw : oW μ b key v = 12
              · exact Or.inl hw
              · exact Or.inr ⟨chl μ b v, pil X.1 n, hpz, chl_lt h hu12, hW.symm, hw⟩
            · rw [rdI_ne (Or.inr hvu)] at hsv
              rcases hI v hv hsv with q | ⟨A, B, e1, e2, e3, e4⟩
              · exact Or.inl q
              · obtain ⟨A', rfl, e6, e7⟩ := hA0 v A B e1 e2 e3 e4
                refine Or.inr ⟨chl μ b u ++ A', B, by rw [hpz, e6]; exact (List.append_assoc _ _ _).symm, fun w hw => ?_, ?_, e4⟩
                · rcases List.mem_append.mp hw with q | q
                  · have := chl_lt h hu12 w q; omega
                  · exact e2 w (List.mem_cons_of_mem _ q)
                · rw [← e3, fo_app]
                  show _ = (if oW μ b key u = 12 then _ else oW μ b key u)
                  rw [hW]
        · rw [if_pos (fun q => ho (hneg.mp q))]
          rw [if_neg ho] at hW
          have hw12 : ¬ oW μ b key u = 12 := by
            rw [hW]
            exact fun q => absurd (nI_inj (m := u) (n := 12) (by omega) (by omega) q) (by omega)
          show AF μ b x 0 key (if oW μ b key u = 12 then _ else oW μ b key u) _
          rw [if_neg hw12, hW]
          have := AF_own (key := key) hEm h hu12 (k := 0)
          rw [if_neg ho] at this
          exact this
      · rw [if_pos hs]
        have hw : oW μ b key u = 12 := by
          rcases hI u hu12 hs with q | ⟨A, B, e1, e2, e3, e4⟩
          · exact q
          · obtain ⟨A', _, _, e7⟩ := hA0 u A B e1 e2 e3 e4
            exact absurd e7 (by omega)
        show AF μ b x 0 key (if oW μ b key u = 12 then fo (oW μ b key) (pil X.1 n) else oW μ b key u) _
        rw [if_pos hw]
        refine ih X n hE hS' ?_ (by omega)
        intro v hv hsv
        rcases hI v hv hsv with q | ⟨A, B, e1, e2, e3, e4⟩
        · exact Or.inl q
        · obtain ⟨A', rfl, e6, e7⟩ := hA0 v A B e1 e2 e3 e4
          refine Or.inr ⟨A', B, e6, fun w hw => e2 w (List.mem_cons_of_mem _ hw), ?_, e4⟩
          rw [← e3]
          show _ = (if oW μ b key u = 12 then fo (oW μ b key) A' else oW μ b key u)
          rw [if_pos hw]
theorem fcl_0 : ∀ (k i : Nat) (M : fl_M) (j : Nat), i ≤ j → j < i + k → (fcl M i k).1 292 j = 0 := by
  intro k
  induction k with
  | zero => intro i M j h1 h2; exact absurd h2 (by omega)
  | succ k ih =>
    intro i M j h1 h2
    unfold fcl
    by_cases hj : j = i
    · subst hj
      have : ∀ (k i : Nat) (M : fl_M), j < i → (fcl M i k).1 292 j = M.1 292 j := by
        intro k
        induction k with
        | zero => intro i M _; rfl
        | succ k ih2 => intro i M hi; unfold fcl; rw [ih2 (i + 1) _ (by omega), rdI_ne (Or.inr (by omega))]
      rw [this k (j + 1) _ (by omega), rdI_eq]
    · exact ih (i + 1) _ j (by omega) (by omega)
theorem qFld_AF {M : fl_M} {t : Nat} (hx : x < 2) (h : bG μ b) (hE : sE μ M.1 b x) (ht : t < 12) (hd : ¬ μ (b + 2 + 11 * t) 0 = 0) : AF μ b x 0 key (oW μ b key t) (qFld M x t key).1 := by
  have hE' : sE μ (wI (fcl M 0 12) 293 0 (nI t)).1 b x := sE_rows (fun a j h1 h2 => by rw [rdI_ne (Or.inl (by omega)), fcl_rd (by omega)]) hE
  have hp : pil (wI (fcl M 0 12) 293 0 (nI t)).1 1 = [t] := by
    show ix ((wI (fcl M 0 12) 293 0 (nI t)).1 293 0) :: [] = [t]
    rw [rdI_eq, ix_nI (by omega)]
  have := dfs_AF (key := key) hx h 50 _ 1 hE' (fun u hu => by rw [hp] at hu; rw [List.mem_singleton.mp hu]; exact ⟨ht, hd⟩) (fun u hu hs => absurd (by rw [rdI_ne (Or.inl (by omega))]; exact fcl_0 12 0 M u (by omega) (by omega)) hs) (by have := unS_le (μ := (wI (fcl M 0 12) 293 0 (nI t)).1); omega)
  rw [hp] at this
  have e : fo (oW μ b key) [t] = oW μ b key t := by
    show (if oW μ b key t = 12 then 12 else oW μ b key t) = _
    split
    · rename_i q; exact q.symm
    · rfl
  rw [e] at this
  exact this
end DFS
