/-! ONE TYPE JUDGED, AND ALL -/
section TYP
variable {o b1 b2 t : Nat} {M0 N X Y : fl_M}
theorem hdr_A (J : JC b1 b2 M0 N) (ht : t < 12) (hd1 : ¬ M0.1 (b1 + 2 + 11 * t) 0 = 0) (hd2 : ¬ M0.1 (b2 + 2 + 11 * t) 0 = 0) (hk : M0.1 (b2 + 2 + 11 * t) 1 = M0.1 (b1 + 2 + 11 * t) 1) {f : Int32} {r : Nat} (hf : f = 2 ∨ f = 4) (hr : r < 14) (hX : CX o b1 b2 M0 X) (hY : kpR N Y) : ∃ D, STG X (jhA X (b1 + 2 + 11 * t) (b2 + 2 + 11 * t) f (nI r) (nI t)) Y (jga Y t r f) D ∧ D.length ≤ 1 := by
  obtain ⟨k1, f1, _⟩ := (J.e1 ht).2 hd1
  obtain ⟨k2, f2, _⟩ := (J.e2 ht).2 hd2
  have x1 : X.1 (b1 + 2 + 11 * t) 2 = M0.1 (b1 + 2 + 11 * t) 2 := hX.rw J (Or.inl ⟨by omega, by omega⟩)
  have x2 : X.1 (b2 + 2 + 11 * t) 2 = M0.1 (b2 + 2 + 11 * t) 2 := hX.rw J (Or.inr ⟨by omega, by omega⟩)
  have y0 : Y.1 280 t = M0.1 (b1 + 2 + 11 * t) 1 := by rw [hY.1 _ _ (by omega) (by omega)]; exact k1
  have y1 : Y.1 281 t = M0.1 (b1 + 2 + 11 * t) 2 := by rw [hY.1 _ _ (by omega) (by omega)]; exact f1
  have y2 : Y.1 281 (12 + t) = M0.1 (b2 + 2 + 11 * t) 2 := by rw [hY.1 _ _ (by omega) (by omega)]; exact f2
  have hL := J.2.2.1.leg ht
  have hc : ¬ M0.1 (b2 + 2 + 11 * t) 2 &&& f = 0 → M0.1 (b1 + 2 + 11 * t) 1 = 0 := fun q => by
    rw [← hk]
    rcases hL.2.1 with z | z
    · exact z
    · have ho := hL.2.2.1
      unfold okTy at ho
      rw [if_pos z] at ho
      rcases hf with rfl | rfl
      · exact absurd ho.1 q
      · exact absurd ho.2.1 q
  unfold jhA jga
  rw [x1, x2, y0, y1, y2]
  by_cases h : (¬ ¬ M0.1 (b1 + 2 + 11 * t) 2 &&& f = 0) ∧ ¬ M0.1 (b2 + 2 + 11 * t) 2 &&& f = 0
  · rw [if_pos h, if_pos ⟨hc h.2, h⟩]
    exact ⟨_, STG.add hr ht, Nat.le_refl _⟩
  · rw [if_neg h, if_neg (fun z => h z.2)]
    exact ⟨[], STG.nil, Nat.zero_le _⟩
theorem sup_in (J : JC b1 b2 M0 N) (ht : t < 12) : ∀ (k i : Nat) (X Y : fl_M), i + k ≤ t → CX o b1 b2 M0 X → kpR N Y → ∃ D, STG X (jhl X (M0.1 (b1 + 2 + 11 * t) 9 &&& (M0.1 (b2 + 2 + 11 * t) 9 ^^^ (-1))) (nI t) i k) Y (jgs Y t i k) D ∧ D.length ≤ k := by
  intro k
  induction k with
  | zero => intro i X Y _ _ _; exact ⟨[], STG.nil, Nat.le_refl _⟩
  | succ k ih =>
    intro i X Y hk hX hY
    have q1 := E_ab (J.y1 hY) J.2.1 ht (s := i) (by omega)
    have q2 := E_ab (J.y2 hY) J.2.2.1 ht (s := i) (by omega)
    have hb := b_cn (x := M0.1 (b1 + 2 + 11 * t) 9 &&& (M0.1 (b2 + 2 + 11 * t) 9 ^^^ (-1))) (s := i) (by omega)
    rw [b_and, b_xor, b_m1 i (by omega)] at hb
    have hc : (¬ ((M0.1 (b1 + 2 + 11 * t) 9 &&& (M0.1 (b2 + 2 + 11 * t) 9 ^^^ (-1))) >>> (nI i &&& 31)) &&& 1 = 0) ↔ (qAb Y.1 0 t i ∧ ¬ qAb Y.1 1 t i) := by
      refine hb.trans ?_
      refine Iff.trans ?_ (and_congr q1.symm (not_congr q2.symm))
      rcases bt (M0.1 (b1 + 2 + 11 * t) 9) i with _ | _ <;> rcases bt (M0.1 (b2 + 2 + 11 * t) 9) i with _ | _ <;> decide
    rw [jhl, jgs]
    by_cases h : qAb Y.1 0 t i ∧ ¬ qAb Y.1 1 t i
    · rw [if_pos (hc.mpr h), if_pos h]
      obtain ⟨D, s, l⟩ := ih (i + 1) (cAdd X 4 (nI t) (nI i)) (tel Y 4 t (nI i)) (by omega) (hX.add J) (hY.tr tel_kp)
      refine ⟨_, (STG.add (r := 4) (by omega) ht).tr s, ?_⟩
      rw [List.length_append]
      show 1 + D.length ≤ k + 1
      omega
    · rw [if_neg (fun z => h (hc.mp z)), if_neg h]
      obtain ⟨D, s, l⟩ := ih (i + 1) X Y (by omega) hX hY
      exact ⟨D, s, by omega⟩
theorem jhl_app {lost t : Int32} : ∀ (j i k : Nat) (X : fl_M), jhl X lost t i (j + k) = jhl (jhl X lost t i j) lost t (i + j) k := by
  intro j
  induction j with
  | zero => intro i k X; rw [Nat.zero_add]; rfl
  | succ j ih =>
    intro i k X
    rw [show j + 1 + k = (j + k) + 1 by omega, jhl, jhl, ih, show i + 1 + j = i + (j + 1) by omega]
theorem jhl_id {lost t : Int32} : ∀ (k i : Nat) (X : fl_M), (∀ u, i ≤ u → u < i + k → bt lost u = false) → i + k ≤ 32 → jhl X lost t i k = X := by
  intro k
  induction k with
  | zero => intro i X _ _; rfl
  | succ k ih =>
    intro i X h hk
    have hn : ¬ ¬ (lost >>> (nI i &&& 31)) &&& 1 = 0 := fun z => by
      have h1 := (b_cn (by omega)).mp z
      rw [h i (by omega) (by omega)] at h1
      cases h1
    rw [jhl, if_neg hn]
    exact ih (i + 1) X (fun u h1 h2 => h u (by omega) (by omega)) (by omega)
theorem hdr (J : JC b1 b2 M0 N) (ht : t < 12) (hd1 : ¬ M0.1 (b1 + 2 + 11 * t) 0 = 0) (hd2 : ¬ M0.1 (b2 + 2 + 11 * t) 0 = 0) (hk : M0.1 (b2 + 2 + 11 * t) 1 = M0.1 (b1 + 2 + 11 * t) 1) (hX : CX o b1 b2 M0 X) (hY : kpR N Y) : ∃ D, STG X (jh X (b1 + 2 + 11 * t) (b2 + 2 + 11 * t) (nI t)) Y (jgs (jga (jga Y t 2 2) t 3 4) t 0 t) D ∧ D.length ≤ 2 + t := by
  obtain ⟨D1, s1, l1⟩ := hdr_A (f := 2) (r := 2) J ht hd1 hd2 hk (Or.inl rfl) (by omega) hX hY
  obtain ⟨a1, a2, _⟩ := jhA_ok (o := o) (n1 := b1 + 2 + 11 * t) (n2 := b2 + 2 + 11 * t) (f := 2) (r := nI 2) (t := nI t) J.h1 J.h2 hX.1
  have hX1 : CX o b1 b2 M0 (jhA X (b1 + 2 + 11 * t) (b2 + 2 + 11 * t) 2 (nI 2) (nI t)) := ⟨a1, hX.2.tr a2⟩
  have hY1 : kpR N (jga Y t 2 2) := hY.tr jga_kp
  have e : jh X (b1 + 2 + 11 * t) (b2 + 2 + 11 * t) (nI t) = jhB (jhA (jhA X (b1 + 2 + 11 * t) (b2 + 2 + 11 * t) 2 (nI 2) (nI t)) (b1 + 2 + 11 * t) (b2 + 2 + 11 * t) 4 (nI 3) (nI t)) (b1 + 2 + 11 * t) (b2 + 2 + 11 * t) (nI t) := rfl
  generalize jhA X (b1 + 2 + 11 * t) (b2 + 2 + 11 * t) 2 (nI 2) (nI t) = X1 at s1 hX1 e
  generalize jga Y t 2 2 = Y1 at s1 hY1 ⊢
  obtain ⟨D2, s2, l2⟩ := hdr_A (f := 4) (r := 3) J ht hd1 hd2 hk (Or.inr rfl) (by omega) hX1 hY1
  obtain ⟨c1, c2, _⟩ := jhA_ok (o := o) (n1 := b1 + 2 + 11 * t) (n2 := b2 + 2 + 11 * t) (f := 4) (r := nI 3) (t := nI t) J.h1 J.h2 hX1.1
  have hX2 : CX o b1 b2 M0 (jhA X1 (b1 + 2 + 11 * t) (b2 + 2 + 11 * t) 4 (nI 3) (nI t)) := ⟨c1, hX1.2.tr c2⟩
  have hY2 : kpR N (jga Y1 t 3 4) := hY1.tr jga_kp
  generalize jhA X1 (b1 + 2 + 11 * t) (b2 + 2 + 11 * t) 4 (nI 3) (nI t) = X2 at s2 hX2 e
  generalize jga Y1 t 3 4 = Y2 at s2 hY2 ⊢
  obtain ⟨D3, s3, l3⟩ := sup_in (o := o) J ht t 0 X2 Y2 (by omega) hX2 hY2
  have e2 : jhB X2 (b1 + 2 + 11 * t) (b2 + 2 + 11 * t) (nI t) = jhl X2 (M0.1 (b1 + 2 + 11 * t) 9 &&& (M0.1 (b2 + 2 + 11 * t) 9 ^^^ (-1))) (nI t) 0 t := by
    unfold jhB
    rw [hX2.rw J (a := b1 + 2 + 11 * t) (k := 9) (Or.inl ⟨by omega, by omega⟩), hX2.rw J (a := b2 + 2 + 11 * t) (k := 9) (Or.inr ⟨by omega, by omega⟩)]
    generalize hl : M0.1 (b1 + 2 + 11 * t) 9 &&& (M0.1 (b2 + 2 + 11 * t) 9 ^^^ (-1)) = lost
    obtain ⟨j, hj⟩ : ∃ j, 12 = t + j := ⟨12 - t, by omega⟩
    rw [hj, jhl_app, jhl_id _ _ _ (fun u q1 q2 => ?_) (by omega)]
    rw [← hl, b_and]
    rcases hv : bt (M0.1 (b1 + 2 + 11 * t) 9) u with _ | _
    · rfl
    · have := sup_lt J.2.1 ht (by omega) hv
      omega
  rw [e, e2]
  refine ⟨_, (s1.tr s2).tr s3, ?_⟩
  rw [List.length_append, List.length_append]
  omega
theorem typ4 (J : JC b1 b2 M0 N) (ht : t < 12) (hd1 : ¬ M0.1 (b1 + 2 + 11 * t) 0 = 0) (hd2 : ¬ M0.1 (b2 + 2 + 11 * t) 0 = 0) (hk : M0.1 (b2 + 2 + 11 * t) 1 = M0.1 (b1 + 2 + 11 * t) 1) (hX : CX o b1 b2 M0 X) (hY : kpR N Y) : ∃ D, STG X (jt4 X b1 b2 t) Y (jg4 Y t) D ∧ D.length ≤ 53 := by
  obtain ⟨⟨a1, a2⟩, ⟨c1, c2, _⟩, ⟨d1, d2⟩, ⟨e1, e2, _⟩, _⟩ := jt_all J.h1 J.h2 J.ne ht hX.1
  have hT1 := shBt J.h1 ht
  have hT2 := shBt J.h2 ht
  have h81 := (J.2.1.cnt ht).2.2
  have h82 := (J.2.2.1.cnt ht).2.2
  obtain ⟨D1, s1, l1⟩ := hdr J ht hd1 hd2 hk hX hY
  have hY1 : kpR N (jgs (jga (jga Y t 2 2) t 3 4) t 0 t) := ((hY.tr jga_kp).tr jga_kp).tr (jgs_kp _ _ _)
  have hX1 : CX o b1 b2 M0 (jh X (b1 + 2 + 11 * t) (b2 + 2 + 11 * t) (nI t)) := ⟨a1, hX.2.tr a2⟩
  have eg : jg4 Y t = jgE (jgr (jgs (jga (jga Y t 2 2) t 3 4) t 0 t) t 5 7) t := rfl
  have ej1 : jt1 X b1 b2 t = fpl (jh X (b1 + 2 + 11 * t) (b2 + 2 + 11 * t) (nI t)) (b1 + 2 + 11 * t) b2 t 0 (cM M0.1 (b1 + 2 + 11 * t)) := by
    unfold jt1
    rw [kept_cM hX1.2 hT1]
  generalize jgs (jga (jga Y t 2 2) t 3 4) t 0 t = Y1 at s1 hY1 eg
  generalize jh X (b1 + 2 + 11 * t) (b2 + 2 + 11 * t) (nI t) = X1 at s1 hX1 ej1
  obtain ⟨p1, p2, p3⟩ := fpl_PR (o := o) (n := b1 + 2 + 11 * t) (b := b2) (x := 1) (ro := t) (c := cM M0.1 (b1 + 2 + 11 * t)) J J.h2 (Or.inr rfl) (by omega) ht J.2.2.1 J.2.2.2.2 (fun i hi => by
    have mA := ((J.e1 ht).2 hd1).2.2.2.2.2.2 i hi
    exact ⟨mA.1, mA.2.1, ((J.2.1.leg ht).2.2.2.2 i hi).1, Or.inl ⟨by omega, by omega⟩⟩) (cM M0.1 (b1 + 2 + 11 * t)) 0 X1 (by omega) hX1 (fun j hj => absurd hj (by omega))
  rw [Nat.zero_add] at p2
  rw [← ej1] at p1 p2 p3
  have s2 : STG X1 (jt1 X b1 b2 t) Y1 Y1 [] := STG.keep (p3 272 3 (by omega)) (fun a i q1 q2 => p3 a i (by omega)) (fun _ _ _ => rfl)
  have ej2 : jt2 X b1 b2 t = joo (jt1 X b1 b2 t) (b1 + 2 + 11 * t) t (cM M0.1 (b1 + 2 + 11 * t)) 5 7 := by
    unfold jt2
    rw [kept_cM p1.2 hT1]
  generalize jt1 X b1 b2 t = X2 at s2 p1 p2 p3 ej2
  obtain ⟨D3, s3, l3⟩ := old_out J ht hd1 7 5 X2 Y1 (by omega) (by omega) p1 hY1 p2
  have l3' := old_cnt J ht hd1
  rw [← ej2] at s3
  have hX3 : CX o b1 b2 M0 (jt2 X b1 b2 t) := ⟨d1, hX.2.tr d2⟩
  have hY3 : kpR N (jgr Y1 t 5 7) := hY1.tr (jgr_kp _ _ _)
  have ej3 : jt3 X b1 b2 t = fpl (jt2 X b1 b2 t) (b2 + 2 + 11 * t) b1 t 0 (cM M0.1 (b2 + 2 + 11 * t)) := by
    unfold jt3
    rw [kept_cM hX3.2 hT2]
  generalize jt2 X b1 b2 t = X3 at s3 hX3 ej3
  generalize jgr Y1 t 5 7 = Y3 at s3 hY3 eg
  obtain ⟨r1, r2, r3⟩ := fpl_PR (o := o) (n := b2 + 2 + 11 * t) (b := b1) (x := 0) (ro := 12 + t) (c := cM M0.1 (b2 + 2 + 11 * t)) J J.h1 (Or.inl rfl) (by omega) ht J.2.1 J.2.2.2.1 (fun i hi => by
    have mA := ((J.e2 ht).2 hd2).2.2.2.2.2.2 i hi
    exact ⟨mA.1, mA.2.1, ((J.2.2.1.leg ht).2.2.2.2 i hi).1, Or.inr ⟨by omega, by omega⟩⟩) (cM M0.1 (b2 + 2 + 11 * t)) 0 X3 (by omega) hX3 (fun j hj => absurd hj (by omega))
  rw [Nat.zero_add] at r2
  rw [← ej3] at r1 r2 r3
  have s4 : STG X3 (jt3 X b1 b2 t) Y3 Y3 [] := STG.keep (r3 272 3 (by omega)) (fun a i q1 q2 => r3 a i (by omega)) (fun _ _ _ => rfl)
  have ej4 : jt4 X b1 b2 t = jno (jt3 X b1 b2 t) (b1 + 2 + 11 * t) (b2 + 2 + 11 * t) t (cM M0.1 (b2 + 2 + 11 * t)) 12 2 := by
    unfold jt4
    rw [kept_cM r1.2 hT2]
  generalize jt3 X b1 b2 t = X4 at s4 r1 r2 r3 ej4
  obtain ⟨D5, s5, l5⟩ := new_out J ht hd1 hd2 r1 hY3 r2
  rw [ej4, eg]
  refine ⟨_, (((s1.tr s2).tr s3).tr s4).tr s5, ?_⟩
  rw [List.length_append, List.length_append, List.length_append, List.length_append, l3, List.length_nil]
  omega
theorem typ (J : JC b1 b2 M0 N) (ht : t < 12) (hX : CX o b1 b2 M0 X) (hY : kpR N Y) : ∃ D, STG X (if ¬ X.1 (b1 + 2 + 11 * t) 0 = 0 ∧ ¬ X.1 (b1 + 2 + 11 * t) 2 &&& 1 = 0 then jt X b1 b2 t else X) Y (jg Y t) D ∧ D.length ≤ 53 := by
  have x1 : ∀ k, X.1 (b1 + 2 + 11 * t) k = M0.1 (b1 + 2 + 11 * t) k := fun k => hX.rw J (Or.inl ⟨by omega, by omega⟩)
  have x2 : ∀ k, X.1 (b2 + 2 + 11 * t) k = M0.1 (b2 + 2 + 11 * t) k := fun k => hX.rw J (Or.inr ⟨by omega, by omega⟩)
  have y9 : Y.1 279 t = M0.1 (b1 + 2 + 11 * t) 0 := by rw [hY.1 _ _ (by omega) (by omega)]; exact (J.e1 ht).1
  have z9 : Y.1 279 (12 + t) = M0.1 (b2 + 2 + 11 * t) 0 := by rw [hY.1 _ _ (by omega) (by omega)]; exact (J.e2 ht).1
  unfold jg
  rw [x1, x1, y9, z9]
  by_cases h1 : ¬ M0.1 (b1 + 2 + 11 * t) 0 = 0 ∧ ¬ M0.1 (b1 + 2 + 11 * t) 2 &&& 1 = 0
  · obtain ⟨k1, f1, _⟩ := (J.e1 ht).2 h1.1
    have y1 : Y.1 281 t = M0.1 (b1 + 2 + 11 * t) 2 := by rw [hY.1 _ _ (by omega) (by omega)]; exact f1
    have y0 : Y.1 280 t = M0.1 (b1 + 2 + 11 * t) 1 := by rw [hY.1 _ _ (by omega) (by omega)]; exact k1
    have g1 : ¬ (M0.1 (b1 + 2 + 11 * t) 0 = 0 ∨ ¬ ¬ M0.1 (b1 + 2 + 11 * t) 2 &&& 1 = 0) := by
      rintro (z | z)
      · exact h1.1 z
      · exact z h1.2
    rw [if_pos h1, y1, y0, if_neg g1]
    unfold jt
    rw [x2, x2, x2, x1]
    by_cases h2 : ¬ M0.1 (b2 + 2 + 11 * t) 0 = 0 ∧ ¬ M0.1 (b2 + 2 + 11 * t) 2 &&& 1 = 0
    · obtain ⟨k2, f2, _⟩ := (J.e2 ht).2 h2.1
      have z1 : Y.1 281 (12 + t) = M0.1 (b2 + 2 + 11 * t) 2 := by rw [hY.1 _ _ (by omega) (by omega)]; exact f2
      have z0 : Y.1 280 (12 + t) = M0.1 (b2 + 2 + 11 * t) 1 := by rw [hY.1 _ _ (by omega) (by omega)]; exact k2
      have g2 : ¬ (M0.1 (b2 + 2 + 11 * t) 0 = 0 ∨ ¬ ¬ M0.1 (b2 + 2 + 11 * t) 2 &&& 1 = 0) := by
        rintro (z | z)
        · exact h2.1 z
        · exact z h2.2
      have g3 : ¬ ¬ (¬ M0.1 (b2 + 2 + 11 * t) 0 = 0 ∧ ¬ M0.1 (b2 + 2 + 11 * t) 2 &&& 1 = 0) := fun z => z h2
      rw [z1, z0, if_neg g2, if_neg g3]
      by_cases h3 : M0.1 (b2 + 2 + 11 * t) 1 = M0.1 (b1 + 2 + 11 * t) 1
      · rw [if_pos h3, if_pos h3]
        exact typ4 J ht h1.1 h2.1 h3 hX hY
      · rw [if_neg h3, if_neg h3]
        exact ⟨_, STG.add (r := 1) (by omega) ht, show 1 ≤ 53 by omega⟩
    · have g2 : M0.1 (b2 + 2 + 11 * t) 0 = 0 ∨ ¬ ¬ Y.1 281 (12 + t) &&& 1 = 0 := by
        by_cases z : M0.1 (b2 + 2 + 11 * t) 0 = 0
        · exact Or.inl z
        · obtain ⟨_, f2, _⟩ := (J.e2 ht).2 z
          refine Or.inr ?_
          rw [hY.1 _ _ (by omega) (by omega), f2]
          exact fun w => h2 ⟨z, w⟩
      rw [if_pos g2, if_pos h2]
      exact ⟨_, STG.add (r := 0) (by omega) ht, show 1 ≤ 53 by omega⟩
  · have g1 : M0.1 (b1 + 2 + 11 * t) 0 = 0 ∨ ¬ ¬ Y.1 281 t &&& 1 = 0 := by
      by_cases z : M0.1 (b1 + 2 + 11 * t) 0 = 0
      · exact Or.inl z
      · obtain ⟨_, f1, _⟩ := (J.e1 ht).2 z
        refine Or.inr ?_
        rw [hY.1 _ _ (by omega) (by omega), f1]
        exact fun w => h1 ⟨z, w⟩
    rw [if_neg h1, if_pos g1]
    exact ⟨[], STG.nil, Nat.zero_le _⟩
theorem all_in (J : JC b1 b2 M0 N) : ∀ (k t : Nat) (X Y : fl_M), t + k ≤ 12 → CX o b1 b2 M0 X → kpR N Y → ∃ D, STG X (bul X b1 b2 t k) Y (alj Y t k) D ∧ D.length ≤ 53 * k := by
  intro k
  induction k with
  | zero => intro t X Y _ _ _; exact ⟨[], STG.nil, Nat.zero_le _⟩
  | succ k ih =>
    intro t X Y hk hX hY
    obtain ⟨D, s, l⟩ := typ J (t := t) (by omega) hX hY
    have hX1 : CX o b1 b2 M0 (if ¬ X.1 (b1 + 2 + 11 * t) 0 = 0 ∧ ¬ X.1 (b1 + 2 + 11 * t) 2 &&& 1 = 0 then jt X b1 b2 t else X) := by
      split
      · obtain ⟨q1, q2⟩ := jt_ok (t := t) J.h1 J.h2 J.ne (by omega) hX.1
        exact ⟨q1, hX.2.tr q2⟩
      · exact hX
    obtain ⟨E, s2, l2⟩ := ih (t + 1) _ _ (by omega) hX1 (hY.tr jg_kp)
    rw [bul, alj]
    refine ⟨D ++ E, s.tr s2, ?_⟩
    rw [List.length_append]
    omega
end TYP
theorem alc_rd {a j : Nat} (h : a ≠ 294) : ∀ (k i : Nat) (M : fl_M), (alc M i k).1 a j = M.1 a j := by
  intro k
  induction k with
  | zero => intro i M; rfl
  | succ k ih =>
    intro i M
    rw [alc, ih, rdI_ne (Or.inl h)]
theorem alc_o {j : Nat} : ∀ (k i : Nat) (M : fl_M), ¬ (i ≤ j ∧ j < i + k) → (alc M i k).1 294 j = M.1 294 j := by
  intro k
  induction k with
  | zero => intro i M _; rfl
  | succ k ih =>
    intro i M h
    rw [alc, ih _ _ (by omega), rdI_ne (by omega)]
theorem alc_0 {j : Nat} : ∀ (k i : Nat) (M : fl_M), i ≤ j → j < i + k → (alc M i k).1 294 j = 0 := by
  intro k
  induction k with
  | zero => intro i M h1 h2; omega
  | succ k ih =>
    intro i M h1 h2
    rw [alc]
    by_cases h : j = i
    · rw [h, alc_o _ _ _ (by omega), rdI_eq]
    · exact ih _ _ (by omega) (by omega)
/-- both lists are one list -/
theorem JUDGE {o : Nat} {M N : fl_M} (hC : CIv o M) (hs : ¬ M.1 272 4 = 0) (hS : SIv o M.1 N.1) (d : Int32) : ∃ L : List fnT, L.length ≤ 636 ∧ (∀ e ∈ L, e.1 < 14 ∧ e.2.1 < 12) ∧ Rep (but M (zb o 0) (zb o 1)).1 L ∧ Tol (xAl N d).1 d L := by
  have ho := hC.1.oo
  have hz0 := zb_2 ho (x := 0) (by omega)
  have hz1 := zb_2 ho (x := 1) (by omega)
  have hB0 := hC.1.shb (x := 0) (by omega)
  have hB1 := hC.1.shb (x := 1) (by omega)
  have hX : cOk o (zb o 0) (zb o 1) (wI (wI M 272 4 0) 272 3 0) := cOk_go hB0 hB1 hC.1 (hC.2.1 0 (by omega)).1 (hC.2.1 1 (by omega)).1
  have rS : ∀ a k, a ≠ 272 → (wI (wI M 272 4 0) 272 3 0).1 a k = M.1 a k := fun a k q => by rw [rdI_ne (by omega), rdI_ne (by omega)]
  have rep : Rep (wI (wI M 272 4 0) 272 3 0).1 [] := ⟨rdI_eq, fun i e he => (by cases he)⟩
  unfold but xAl
  rw [if_neg hs]
  generalize wI (wI M 272 4 0) 272 3 0 = S at hX rS rep ⊢
  have hY := al0_kp (M := N) (d := d)
  have t15 : (wI (wI (wI N 278 15 d) 278 16 0) 278 20 0).1 278 15 = d := by rw [rdI_ne (by omega), rdI_ne (by omega), rdI_eq]
  have t16 : (wI (wI (wI N 278 15 d) 278 16 0) 278 20 0).1 278 16 = 0 := by rw [rdI_ne (by omega), rdI_eq]
  have t20 : (wI (wI (wI N 278 15 d) 278 16 0) 278 20 0).1 278 20 = 0 := rdI_eq
  generalize wI (wI (wI N 278 15 d) 278 16 0) 278 20 0 = Y0 at hY t15 t16 t20 ⊢
  have hY1 := hY.tr (alc_kp 14 0 Y0)
  have tol : Tol (alc Y0 0 14).1 d [] := by
    refine ⟨?_, ?_, fun i e he => (by cases he), ?_, fun r hr => ?_⟩
    · rw [alc_rd (by omega), t15]
    · rw [alc_rd (by omega), t16]
      rfl
    · rw [alc_rd (by omega), t20]
      rfl
    · rw [alc_0 _ _ _ (by omega) (by omega)]
      rfl
  generalize alc Y0 0 14 = Y1 at hY1 tol ⊢
  have J : JC (zb o 0) (zb o 1) S N := by
    refine ⟨?_, bG_cg (fun a k q1 q2 => rS a k (by omega)) (hC.2.1 0 (by omega)), bG_cg (fun a k q1 q2 => rS a k (by omega)) (hC.2.1 1 (by omega)), ?_, ?_⟩
    · rcases ho with rfl | rfl
      · exact Or.inl ⟨rfl, rfl⟩
      · exact Or.inr ⟨rfl, rfl⟩
    · exact SIv_cls ho hC.2.1 (fun a k q => rS a k (by omega)) hS 0 (by omega)
    · exact SIv_cls ho hC.2.1 (fun a k q => rS a k (by omega)) hS 1 (by omega)
  obtain ⟨D, s, l⟩ := all_in (o := o) J 12 0 S Y1 (by omega) ⟨hX, kept.rf⟩ hY1
  obtain ⟨q1, q2⟩ := s.2 [] (by rw [List.length_nil]; omega)
  rw [List.nil_append] at q1 q2
  exact ⟨D, by omega, s.1, q1 rep, q2 d tol⟩
