/-! IMPLEMENT, REMOVE -/
theorem im_iff {o : Nat} {M : fl_M} {ν : Nat → Nat → Int32} {b t a : Int32} (hG : ∀ x, x < 2 → bG M.1 (zb o x)) (hS : SIv o M.1 ν) : yIm M o b t a ↔ yRI ν b t a := by
  unfold yIm yRI
  rw [badT_iff, out_in (v := a) (h := 11) (n := 12) (by omega) (by decide) (by decide) (by omega)]
  have key : okT b t → ¬ M.1 (zb o (ix b) + 2 + 11 * ix t) 0 = 0 → ((¬ (3 : Int32) ≤ M.1 (zb o (ix b) + 2 + 11 * ix t) 5 ∧ ¬ ¬ tNm M.1 (zb o (ix b) + 2 + 11 * ix t) a = none) ↔ (¬ ν 283 (12 * ix b + ix t) = nI 3 ∧ fcF ν (12 * ix b + ix t) a = none)) := by
    intro h1 h2
    obtain ⟨hb, ht⟩ := okT_ix h1
    obtain ⟨_, _, _, e5, _, ef, _⟩ := (hS _ hb.2 _ ht.2).2 h2
    have hc := ((hG _ hb.2).cnt ht.2).1
    have hf : fcF ν (12 * ix b + ix t) a = tNm M.1 (zb o (ix b) + 2 + 11 * ix t) a := by
      unfold fcF tNm qF cI
      rw [e5]
      exact fnd_congr _ _ (fun j _ hj => by
        have h9 : j < 0 + cI M.1 (zb o (ix b) + 2 + 11 * ix t) := hj
        rw [ef j (by omega)])
    rw [hf, e5, Classical.not_not]
    have h3 : (3 : Int32) ≤ M.1 (zb o (ix b) + 2 + 11 * ix t) 5 ↔ M.1 (zb o (ix b) + 2 + 11 * ix t) 5 = nI 3 := by
      obtain ⟨c1, c2⟩ := hc
      rw [c1]
      constructor
      · intro q
        rcases Nat.lt_or_ge (cI M.1 (zb o (ix b) + 2 + 11 * ix t)) 3 with z | z
        · exact absurd q (nI_ge (b := 3) z (by omega))
        · rw [show cI M.1 (zb o (ix b) + 2 + 11 * ix t) = 3 by omega]
      · intro q
        rw [q]
        exact nI_le (a := 3) (by omega) (by omega)
    rw [h3]
  constructor
  · rintro ⟨h1, h2, h3, h4, h5⟩
    exact ⟨h1, h2, h3, by rw [E_def hS h1]; exact h4, (key h1 h4).mp h5⟩
  · rintro ⟨h1, h2, h3, h4, h5⟩
    rw [E_def hS h1] at h4
    exact ⟨h1, h2, h3, h4, (key h1 h4).mpr h5⟩
theorem op_implement {o : Nat} {M A B : fl_M} (hI : INV o M) {b t a : Int32} (hA : A = if yIm M o b t a then xIm M o b t a else M) (hB : B = if yRI A.1 b t a then xRI A b t a else A) : (CIv o A ∧ RIv A.1 ∧ INV o B) ∧ (if yIm M o b t a then (xIm M o b t a).1 (zb o (ix b) + 2 + 11 * ix t) 5 else -1) = (if yRI A.1 b t a then nI (qF A.1 (12 * ix b + ix t) + 1) else -1) := by
  by_cases hy : yIm M o b t a
  · rw [if_pos hy] at hA
    rw [if_pos hy, ← hA]
    obtain ⟨y1, y2, y3, y4, y5, y6⟩ := id hy
    obtain ⟨hb, ht⟩ := okT_ix y1
    have hG := hI.1.2.1 _ hb.2
    have hS0 := hI.2.2.2.1 _ hb.2 _ ht.2
    obtain ⟨e1, e2, e3, e5, e7, ef, em⟩ := hS0.2 y4
    have ha9 : inL (ix t) a := inL_lt (L := 12) (ix_of 12 (by omega) y2.1 y2.2) (ix_of 12 (by omega) y1.2.1 y1.2.2) (by omega) (by
      rw [Int32.not_le]; exact y3)
    have hc := (hG.cnt ht.2).1
    have hc3 : cI M.1 (zb o (ix b) + 2 + 11 * ix t) < 3 := by
      rcases Nat.lt_or_ge (cI M.1 (zb o (ix b) + 2 + 11 * ix t)) 3 with z | z
      · exact z
      · refine absurd ?_ y5
        rw [hc.1]
        exact nI_le (a := 3) z (by have := hc.2; omega)
    have hOX := bOk_adI hG.1.1 ht.2 ha9
    unfold xIm at hA
    unfold tAdI at hA hOX
    rw [if_pos hc3] at hA hOX
    have rdX : ∀ q j, ¬ (q = zb o (ix b) + 2 + 11 * ix t ∧ j = 5) → ¬ (q = zb o (ix b) + 2 + 11 * ix t + 1 ∧ j = cI M.1 (zb o (ix b) + 2 + 11 * ix t)) → (wI (wI M (zb o (ix b) + 2 + 11 * ix t + 1) (cI M.1 (zb o (ix b) + 2 + 11 * ix t)) a) (zb o (ix b) + 2 + 11 * ix t) 5 (nI (cI M.1 (zb o (ix b) + 2 + 11 * ix t) + 1))).1 q j = M.1 q j := fun q j h1 h2 => by
      rw [rdI_ne (by omega), rdI_ne (by omega)]
    have r5 : (wI (wI M (zb o (ix b) + 2 + 11 * ix t + 1) (cI M.1 (zb o (ix b) + 2 + 11 * ix t)) a) (zb o (ix b) + 2 + 11 * ix t) 5 (nI (cI M.1 (zb o (ix b) + 2 + 11 * ix t) + 1))).1 (zb o (ix b) + 2 + 11 * ix t) 5 = nI (cI M.1 (zb o (ix b) + 2 + 11 * ix t) + 1) := rdI_eq
    have rf : (wI (wI M (zb o (ix b) + 2 + 11 * ix t + 1) (cI M.1 (zb o (ix b) + 2 + 11 * ix t)) a) (zb o (ix b) + 2 + 11 * ix t) 5 (nI (cI M.1 (zb o (ix b) + 2 + 11 * ix t) + 1))).1 (zb o (ix b) + 2 + 11 * ix t + 1) (cI M.1 (zb o (ix b) + 2 + 11 * ix t)) = a := by rw [rdI_ne (by omega), rdI_eq]
    have hX2 : (wI (wI M (zb o (ix b) + 2 + 11 * ix t + 1) (cI M.1 (zb o (ix b) + 2 + 11 * ix t)) a) (zb o (ix b) + 2 + 11 * ix t) 5 (nI (cI M.1 (zb o (ix b) + 2 + 11 * ix t) + 1))).2 = M.2 := rfl
    generalize wI (wI M (zb o (ix b) + 2 + 11 * ix t + 1) (cI M.1 (zb o (ix b) + 2 + 11 * ix t)) a) (zb o (ix b) + 2 + 11 * ix t) 5 (nI (cI M.1 (zb o (ix b) + 2 + 11 * ix t) + 1)) = X at hA rdX r5 rf hOX hX2
    have hcX : cM X.1 (zb o (ix b) + 2 + 11 * ix t) = cM M.1 (zb o (ix b) + 2 + 11 * ix t) := by unfold cM; rw [rdX _ 7 (by omega) (by omega)]
    have h8 := (hG.cnt ht.2).2.2
    obtain ⟨c1, c2, c3, c4, c5, c6⟩ := set_row hI hb.2 ht.2 hX2 (fun q j h => rdX q j (by omega) (by omega)) hOX (by
        obtain ⟨l1, l2, l3, l4, l5⟩ := hG.leg ht.2
        unfold tL
        rw [hcX, rdX _ 0 (by omega) (by omega), rdX _ 1 (by omega) (by omega), rdX _ 2 (by omega) (by omega), rdX _ 3 (by omega) (by omega)]
        refine ⟨l1, l2, l3, fun q => absurd q y4, fun i hi => ?_⟩
        have := l5 i hi
        unfold mL at this ⊢
        rw [rdX _ _ (by omega) (by omega), rdX _ _ (by omega) (by omega), rdX _ _ (by omega) (by omega)]
        exact this)
    rw [← hA] at c1 c2 c3 c4 c5 c6
    have hyR : yRI A.1 b t a := (im_iff hI.1.2.1 (SIv_ref (fun a j _ _ => c3 a j (by omega)) hI.2.2.2.1)).mp hy
    rw [if_pos hyR] at hB
    rw [if_pos hyR]
    have n0 : ∀ j, j ≠ 8 → j ≠ 9 → A.1 (zb o (ix b) + 2 + 11 * ix t) j = X.1 (zb o (ix b) + 2 + 11 * ix t) j := fun j q1 q2 => c4 _ j (by omega) (by omega) (by omega)
    have hq : qF A.1 (12 * ix b + ix t) = cI M.1 (zb o (ix b) + 2 + 11 * ix t) := by
      unfold qF cI
      rw [c3 _ _ (by omega), e5]
    refine ⟨?_, by rw [hq, n0 5 (by omega) (by omega), r5]⟩
    unfold xRI at hB
    rw [hq] at hB
    have rB : ∀ q j, ¬ (q = 283 ∧ j = 12 * ix b + ix t) → ¬ (q = 284 ∧ j = 3 * (12 * ix b + ix t) + cI M.1 (zb o (ix b) + 2 + 11 * ix t)) → B.1 q j = A.1 q j := fun q j h1 h2 => by
      rw [hB, rdI_ne (by omega), rdI_ne (by omega)]
    have b5 : B.1 283 (12 * ix b + ix t) = nI (cI M.1 (zb o (ix b) + 2 + 11 * ix t) + 1) := by rw [hB, rdI_eq]
    have bf : B.1 284 (3 * (12 * ix b + ix t) + cI M.1 (zb o (ix b) + 2 + 11 * ix t)) = a := by rw [hB, rdI_ne (by omega), rdI_eq]
    have hn1 : ix (nI (cI M.1 (zb o (ix b) + 2 + 11 * ix t) + 1)) = cI M.1 (zb o (ix b) + 2 + 11 * ix t) + 1 := ix_nI (by omega)
    refine op_row (x0 := ix b) (t0 := ix t) hI c1 c2 c3 ⟨fun q j h => rB q j (by omega) (by omega), by rw [hB]; rfl⟩ (fun x u hx hu hn => ⟨c5 x u hx hu hn, ⟨fun q q1 q2 q3 => rB q _ (by omega) (by omega), fun i hi => rB _ _ (by omega) (by omega), fun q i q1 q2 q3 => rB _ _ (by omega) (by omega)⟩⟩) ?_ ?_ c6 (fun j => rB _ _ (by omega) (by omega))
    · have g := fun q => (c3 q (12 * ix b + ix t))
      refine ⟨by rw [rB _ _ (by omega) (by omega), c3 _ _ (by omega), n0 0 (by omega) (by omega), rdX _ 0 (by omega) (by omega)]; exact hS0.1, fun _ => ?_⟩
      have hcA : cM A.1 (zb o (ix b) + 2 + 11 * ix t) = cM M.1 (zb o (ix b) + 2 + 11 * ix t) := by rw [← hcX]; unfold cM; rw [n0 7 (by omega) (by omega)]
      have hiA : cI A.1 (zb o (ix b) + 2 + 11 * ix t) = cI M.1 (zb o (ix b) + 2 + 11 * ix t) + 1 := by
        show ix (A.1 (zb o (ix b) + 2 + 11 * ix t) 5) = _
        rw [n0 5 (by omega) (by omega), r5, hn1]
      rw [hcA, hiA]
      rw [rB 280 _ (by omega) (by omega), rB 281 _ (by omega) (by omega), rB 282 _ (by omega) (by omega), b5, rB 285 _ (by omega) (by omega), c3 280 _ (by omega), c3 281 _ (by omega), c3 282 _ (by omega), c3 285 _ (by omega), n0 1 (by omega) (by omega), n0 2 (by omega) (by omega), n0 3 (by omega) (by omega), n0 5 (by omega) (by omega), n0 7 (by omega) (by omega), rdX _ 1 (by omega) (by omega), rdX _ 2 (by omega) (by omega), rdX _ 3 (by omega) (by omega), rdX _ 7 (by omega) (by omega), r5]
      refine ⟨e1, e2, e3, rfl, e7, fun i hi => ?_, fun i hi => ?_⟩
      · rw [c4 _ i (by omega) (by omega) (by omega)]
        by_cases hic : i = cI M.1 (zb o (ix b) + 2 + 11 * ix t)
        · rw [hic, bf, rf]
        · rw [rB _ _ (by omega) (by omega), c3 _ _ (by omega), rdX _ _ (by omega) (by omega)]
          exact ef i (by omega)
      · have := em i hi
        unfold mE at this ⊢
        rw [rB 286 _ (by omega) (by omega), rB 287 _ (by omega) (by omega), rB 288 _ (by omega) (by omega), rB 289 _ (by omega) (by omega), rB 290 _ (by omega) (by omega), c3 286 _ (by omega), c3 287 _ (by omega), c3 288 _ (by omega), c3 289 _ (by omega), c3 290 _ (by omega), c4 (zb o (ix b) + 2 + 11 * ix t + 3 + i) 0 (by omega) (by omega) (by omega), c4 (zb o (ix b) + 2 + 11 * ix t + 3 + i) 1 (by omega) (by omega) (by omega), c4 (zb o (ix b) + 2 + 11 * ix t + 3 + i) 2 (by omega) (by omega) (by omega), c4 (zb o (ix b) + 2 + 11 * ix t + 3 + i) 3 (by omega) (by omega) (by omega), c4 (zb o (ix b) + 2 + 11 * ix t + 3 + i) 4 (by omega) (by omega) (by omega), rdX _ 0 (by omega) (by omega), rdX _ 1 (by omega) (by omega), rdX _ 2 (by omega) (by omega), rdX _ 3 (by omega) (by omega), rdX _ 4 (by omega) (by omega)]
        exact this
    · obtain ⟨⟨⟨a1, a2⟩, a3, a4⟩, a5, a6, a7⟩ := hI.2.2.1 _ _ hb.2 ht.2
      unfold rI rC qF qM
      rw [b5, hn1, rB 279 _ (by omega) (by omega), rB 285 _ (by omega) (by omega), rB 282 _ (by omega) (by omega), c3 279 _ (by omega), c3 285 _ (by omega), c3 282 _ (by omega)]
      refine ⟨⟨⟨rfl, by omega⟩, a3, a4⟩, a5, fun hd => ⟨(a6 hd).1, fun i hi => ?_⟩, fun i hi => ?_⟩
      · by_cases hic : i = cI M.1 (zb o (ix b) + 2 + 11 * ix t)
        · rw [hic, bf]; exact ha9
        · rw [rB _ _ (by omega) (by omega), c3 _ _ (by omega)]
          refine (a6 hd).2 i ?_
          unfold qF
          rw [e5]
          have : i < cI M.1 (zb o (ix b) + 2 + 11 * ix t) := by omega
          exact this
      · rw [rB _ _ (by omega) (by omega), c3 _ _ (by omega)]
        exact a7 i hi
  · have hS := hI.2.2.2.1
    rw [if_neg hy] at hA
    subst hA
    have hn := fun q => hy ((im_iff hI.1.2.1 hS).mpr q)
    rw [if_neg hn] at hB
    rw [if_neg hy, if_neg hn, hB]
    exact ⟨op_nil hI, rfl⟩
theorem op_remove {o : Nat} {M A B : fl_M} (hI : INV o M) {b t : Int32} (hA : A = if yRm M o b t then xRm M o b t else M) (hB : B = if yRR A.1 b t then xRR A b t else A) : (CIv o A ∧ RIv A.1 ∧ INV o B) ∧ (if yRm M o b t then (1 : Int32) else -1) = (if yRR A.1 b t then 1 else -1) := by
  have iff0 : ∀ ν, SIv o M.1 ν → (yRm M o b t ↔ yRR ν b t) := fun ν hS => by
    unfold yRm yRR
    rw [badT_iff]
    exact ⟨fun q => ⟨q.1, by rw [E_def hS q.1]; exact q.2⟩, fun q => ⟨q.1, by rw [← E_def hS q.1]; exact q.2⟩⟩
  by_cases hy : yRm M o b t
  · rw [if_pos hy] at hA
    rw [if_pos hy]
    obtain ⟨y1, y2⟩ := id hy
    obtain ⟨hb, ht⟩ := okT_ix y1
    have hG := hI.1.2.1 _ hb.2
    have hOX := bOk_clr hG.1.1 (t := ix t)
    unfold xRm at hA
    have rdX : ∀ q j, ¬ (q = zb o (ix b) + 2 + 11 * ix t) → (tClr M (zb o (ix b) + 2 + 11 * ix t)).1 q j = M.1 q j := fun q j h => by
      rw [rdI_ne (by omega), rdI_ne (by omega), rdI_ne (by omega), rdI_ne (by omega), rdI_ne (by omega), rdI_ne (by omega)]
    have r0 : (tClr M (zb o (ix b) + 2 + 11 * ix t)).1 (zb o (ix b) + 2 + 11 * ix t) 0 = 0 := by rw [rdI_ne (by omega), rdI_ne (by omega), rdI_ne (by omega), rdI_ne (by omega), rdI_ne (by omega), rdI_eq]
    have r1 : (tClr M (zb o (ix b) + 2 + 11 * ix t)).1 (zb o (ix b) + 2 + 11 * ix t) 1 = 0 := by rw [rdI_ne (by omega), rdI_ne (by omega), rdI_ne (by omega), rdI_ne (by omega), rdI_eq]
    have r2 : (tClr M (zb o (ix b) + 2 + 11 * ix t)).1 (zb o (ix b) + 2 + 11 * ix t) 2 = 0 := by rw [rdI_ne (by omega), rdI_ne (by omega), rdI_ne (by omega), rdI_eq]
    have r3 : (tClr M (zb o (ix b) + 2 + 11 * ix t)).1 (zb o (ix b) + 2 + 11 * ix t) 3 = -1 := by rw [rdI_ne (by omega), rdI_ne (by omega), rdI_eq]
    have r5 : (tClr M (zb o (ix b) + 2 + 11 * ix t)).1 (zb o (ix b) + 2 + 11 * ix t) 5 = 0 := by rw [rdI_ne (by omega), rdI_eq]
    have r7 : (tClr M (zb o (ix b) + 2 + 11 * ix t)).1 (zb o (ix b) + 2 + 11 * ix t) 7 = 0 := by rw [rdI_eq]
    have hX2 : (tClr M (zb o (ix b) + 2 + 11 * ix t)).2 = M.2 := rfl
    generalize tClr M (zb o (ix b) + 2 + 11 * ix t) = X at hA rdX r0 r1 r2 r3 r5 r7 hOX hX2
    obtain ⟨c1, c2, c3, c4, c5, c6⟩ := set_row hI hb.2 ht.2 hX2 (fun q j h => rdX q j (by omega)) hOX (by
        unfold tL cM
        rw [r0, r1, r2, r3, r5, r7]
        exact ⟨Or.inl rfl, Or.inl rfl, by decide, fun _ => ⟨rfl, rfl, rfl, rfl, rfl⟩, fun i hi => absurd hi (by rw [ix0]; omega)⟩)
    rw [← hA] at c1 c2 c3 c4 c5 c6
    have hyR : yRR A.1 b t := (iff0 _ (SIv_ref (fun a j _ _ => c3 a j (by omega)) hI.2.2.2.1)).mp hy
    rw [if_pos hyR] at hB
    rw [if_pos hyR]
    refine ⟨?_, rfl⟩
    unfold xRR at hB
    have rB : ∀ q j, ¬ (q = 279 ∧ j = 12 * ix b + ix t) → B.1 q j = A.1 q j := fun q j h1 => by
      rw [hB, rdI_ne (by omega)]
    have b0 : B.1 279 (12 * ix b + ix t) = 0 := by rw [hB, rdI_eq]
    refine op_row (x0 := ix b) (t0 := ix t) hI c1 c2 c3 ⟨fun q j h => rB q j (by omega), by rw [hB]; rfl⟩ (fun x u hx hu hn => ⟨c5 x u hx hu hn, ⟨fun q q1 q2 q3 => rB q _ (by omega), fun i hi => rB _ _ (by omega), fun q i q1 q2 q3 => rB _ _ (by omega)⟩⟩) ?_ ?_ c6 (fun j => rB _ _ (by omega))
    · have n0 : A.1 (zb o (ix b) + 2 + 11 * ix t) 0 = 0 := by rw [c4 _ 0 (by omega) (by omega) (by omega), r0]
      exact ⟨by rw [b0, n0], fun q => absurd n0 q⟩
    · obtain ⟨⟨⟨a1, a2⟩, a3, a4⟩, a5, a6, a7⟩ := hI.2.2.1 _ _ hb.2 ht.2
      unfold rI rC qF qM
      rw [b0, rB 283 _ (by omega), rB 285 _ (by omega), c3 283 _ (by omega), c3 285 _ (by omega)]
      refine ⟨⟨⟨a1, a2⟩, a3, a4⟩, Or.inl rfl, fun hd => absurd rfl hd, fun i hi => ?_⟩
      rw [rB _ _ (by omega), c3 _ _ (by omega)]
      exact a7 i hi
  · have hS := hI.2.2.2.1
    rw [if_neg hy] at hA
    subst hA
    have hn := fun q => hy ((iff0 _ hS).mpr q)
    rw [if_neg hn] at hB
    rw [if_neg hy, if_neg hn, hB]
    exact ⟨op_nil hI, rfl⟩
