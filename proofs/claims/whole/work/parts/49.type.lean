/-! TYPE, IMPLEMENT, REMOVE -/
theorem p_1 {p : Int32} : ¬ (p + 1 < 0 ∨ (12 : Int32) < p + 1) ↔ (p = -1 ∨ (¬ p < 0 ∧ ¬ (12 : Int32) ≤ p)) := by
  constructor
  · intro h
    have hs : p = p + 1 - 1 := (Int32.add_sub_cancel p 1).symm
    rcases pk_ix (p + 1) (n := 13) (by omega) with q | q | ⟨j, hj, q⟩
    · exact absurd (Or.inl q) h
    · refine absurd (Or.inr ?_) h
      rw [Int32.le_iff_toInt_le, nI_toInt (by omega)] at q
      rw [Int32.lt_iff_toInt_lt, show (12 : Int32) = nI 12 by decide, nI_toInt (by omega)]
      omega
    · rw [q] at hs
      cases j with
      | zero => exact Or.inl (by rw [hs]; decide)
      | succ j =>
        rw [show (1 : Int32) = nI 1 by decide, pk_sub (by omega), Nat.add_sub_cancel] at hs
        rw [hs]
        exact Or.inr ⟨nI_lt0 (by omega), nI_ge (b := 12) (by omega) (by omega)⟩
  · rintro (rfl | ⟨h1, h2⟩)
    · decide
    · obtain ⟨e, hl⟩ := ix_of 12 (by omega) h1 h2
      rw [e, nI_1]
      rintro (q | q)
      · exact nI_lt0 (by omega) q
      · exact nI_nlt (b := ix p + 1) (a := 12) (by omega) (by omega) q
theorem ty_f0 : ∀ j, j < 8 → ((nI j &&& 2 = 0 ∧ nI j &&& 4 = 0) ↔ ¬ (1 : Int32) < nI j) := by decide +kernel
theorem ty_f1 : ∀ j, j < 8 → (¬ (¬ nI j &&& 2 = 0 ∧ ¬ nI j &&& 4 = 0) ↔ nI j < 6) := by decide +kernel
theorem ty_f2 : ∀ j, j < 8 → ¬ (1 : Int32) < nI j → nI j < 6 := by decide +kernel
theorem E_def {o : Nat} {μ ν : Nat → Nat → Int32} {b t : Int32} (hS : SIv o μ ν) (h : okT b t) : ν 279 (12 * ix b + ix t) = μ (zb o (ix b) + 2 + 11 * ix t) 0 := (hS _ (okT_ix h).1.2 _ (okT_ix h).2.2).1
theorem ty_iff {o : Nat} {M : fl_M} {ν : Nat → Nat → Int32} {b t k f p : Int32} (hS : SIv o M.1 ν) : yTy M o b t k f p ↔ yRT ν b t k f p := by
  unfold yTy yRT
  rw [badT_iff, p_1]
  have hk := out_in (v := k) (h := 1) (n := 2) (by omega) (by decide) (by decide) (by omega)
  have hf := out_in (v := f) (h := 7) (n := 8) (by omega) (by decide) (by decide) (by omega)
  rw [hk, hf]
  constructor
  · rintro ⟨h1, h2, h3, h4, h5, h6, h7⟩
    refine ⟨h1, h2, h3, h4, by rw [E_def hS h1]; exact h5, h6, ?_⟩
    obtain ⟨e, hl⟩ := ix_of 8 (by omega) h3.1 h3.2
    rw [e] at h7 ⊢
    unfold okTy at h7
    by_cases hk1 : k = 1
    · rw [if_pos hk1] at h7
      have := (ty_f0 _ hl).mp ⟨h7.1, h7.2.1⟩
      exact ⟨fun _ => ⟨this, by rw [h7.2.2]; decide⟩, ty_f2 _ hl this⟩
    · rw [if_neg hk1] at h7
      exact ⟨fun q => absurd q hk1, (ty_f1 _ hl).mp h7⟩
  · rintro ⟨h1, h2, h3, h4, h5, h6, h7, h8⟩
    refine ⟨h1, h2, h3, h4, by rw [← E_def hS h1]; exact h5, h6, ?_⟩
    obtain ⟨e, hl⟩ := ix_of 8 (by omega) h3.1 h3.2
    rw [e] at h7 h8 ⊢
    unfold okTy
    by_cases hk1 : k = 1
    · rw [if_pos hk1]
      have := (ty_f0 _ hl).mpr (h7 hk1).1
      refine ⟨this.1, this.2, h4.resolve_right (fun q => (h7 hk1).2 ?_)⟩
      have hp := (ix_of 12 (by omega) q.1 q.2).1
      rw [hp]
      exact nI_le (a := 0) (by omega) (by have := (ix_of 12 (by omega) q.1 q.2).2; omega)
    · rw [if_neg hk1]
      exact (ty_f1 _ hl).mpr h8
/-- a call that changes rows of one baseline only, and makes the list stale -/
theorem lOk_cg {μ μ' : Nat → Nat → Int32} (e : μ' 272 3 = μ 272 3) (e1 : ∀ k, μ' 273 k = μ 273 k) (e2 : ∀ k, μ' 274 k = μ 274 k) (h : lOk μ) : lOk μ' := by
  intro i hi
  unfold cz at hi
  rw [e] at hi
  rw [e1, e2]
  exact h i hi
theorem stale_CIv {o : Nat} {M Y : fl_M} {x0 : Nat} (hx : x0 < 2) (h : CIv o M) (e2 : Y.2 = M.2) (hG : bG Y.1 (zb o x0)) (e : ∀ a k, (a < zb o x0 ∨ zb o x0 + 135 ≤ a) → Y.1 a k = M.1 a k) (e3 : zM3 Y.1) : CIv o (wI Y 272 4 1) ∧ Fr o (wI Y 272 4 1) ∧ cF M (wI Y 272 4 1) := by
  obtain ⟨h1, h2, h3, h4, h5⟩ := h
  have hz := zb_2 h1.oo hx
  refine ⟨⟨?_, fun x hx' => ?_, zM3_cg (fun a ha => rdI_ne (by omega)) e3, ?_, ?_⟩, Or.inl (by rw [rdI_eq]; decide), fun a k ha => by rw [rdI_ne (by omega), e _ _ (by omega)]⟩
  · show zRf o Y.2
    rw [e2]
    exact h1
  · by_cases hxx : x = x0
    · rw [hxx]
      exact bG_cg (μ := Y.1) (fun a k q1 q2 => rdI_ne (by omega)) hG
    · have hd := zb_d h1.oo hx' hx hxx
      refine bG_cg (μ := M.1) (fun a k q1 q2 => ?_) (h2 x hx')
      have := zb_2 h1.oo hx'
      rw [rdI_ne (by omega), e _ _ (by omega)]
  · unfold zOk cz
    rw [rdI_ne (by omega), e _ _ (by omega)]
    exact h4
  · exact lOk_cg (by rw [rdI_ne (by omega), e _ _ (by omega)]) (fun k => by rw [rdI_ne (by omega), e _ _ (by omega)]) (fun k => by rw [rdI_ne (by omega), e _ _ (by omega)]) h5
/-- the same, with settling: X is the memory before it -/
theorem set_CIv {o : Nat} {M X : fl_M} {x0 : Nat} (hx : x0 < 2) (h : CIv o M) (e2 : X.2 = M.2) (hO : bOk X.1 (zb o x0)) (hL : ∀ t, t < 12 → tL X.1 (zb o x0 + 2 + 11 * t)) (e : ∀ a k, (a < zb o x0 ∨ zb o x0 + 134 ≤ a) → X.1 a k = M.1 a k) (e3 : zM3 X.1) : CIv o (wI (stl X (zb o x0) 0 12) 272 4 1) ∧ Fr o (wI (stl X (zb o x0) 0 12) 272 4 1) ∧ cF M (wI (stl X (zb o x0) 0 12) 272 4 1) ∧ ∀ a k, (∀ t, t < 12 → ¬ (a = zb o x0 + 2 + 11 * t ∧ (k = 8 ∨ k = 9))) → a < 272 → (wI (stl X (zb o x0) 0 12) 272 4 1).1 a k = X.1 a k := by
  have hG := stl_G hO (fun t ht => by rw [e _ _ (by omega)]; exact (h.2.1 x0 hx).1.2.2 t ht) hL
  have h2 := stl_2 (b := zb o x0) 12 0 X
  have rd : ∀ a k, (∀ t, t < 12 → ¬ (a = zb o x0 + 2 + 11 * t ∧ (k = 8 ∨ k = 9))) → (stl X (zb o x0) 0 12).1 a k = X.1 a k := fun a k q => stl_rd _ _ _ (fun t _ ht => q t (by omega))
  generalize stl X (zb o x0) 0 12 = Y at hG h2 rd
  obtain ⟨s1, s2, s3⟩ := stale_CIv hx h (h2.trans e2) hG (fun a k q => by rw [rd a k (fun t ht => by omega), e _ _ (by omega)]) (fun a ha => by rw [rd a 3 (fun t ht => by omega)]; exact e3 a ha)
  exact ⟨s1, s2, s3, fun a k q q2 => by rw [rdI_ne (by omega), rd a k q]⟩
/-- out of the pieces -/
theorem op_row {o : Nat} {M A B : fl_M} {x0 t0 : Nat} (hI : INV o M) (c1 : CIv o A) (c2 : Fr o A) (c3 : cF M A) (k : kF A B) (hC : ∀ x t, x < 2 → t < 12 → ¬ (x = x0 ∧ t = t0) → CK (zb o x + 2 + 11 * t) M.1 A.1 ∧ RK (12 * x + t) A.1 B.1) (h1 : rE A.1 B.1 (zb o x0 + 2 + 11 * t0) (12 * x0 + t0)) (h2 : rI B.1 x0 t0) (h3 : ∀ j, A.1 277 j = M.1 277 j) (h4 : ∀ j, B.1 291 j = A.1 291 j) : CIv o A ∧ RIv A.1 ∧ INV o B := by
  obtain ⟨i1, i2, i3, i4, i5⟩ := hI
  have hR : RIv A.1 := RIv_cg (fun a k q1 q2 => c3 a k (by omega)) i3
  have hS : SIv o M.1 A.1 := SIv_ref (fun a k q1 q2 => c3 a k (by omega)) i4
  obtain ⟨r1, r2⟩ := one_row i1.2.1 hS hR hC h1 h2
  exact ⟨c1, hR, INV_of c1 c2 k r2 r1 (hE_cg h3 (fun j => by rw [h4, c3 _ _ (by omega)]) i5)⟩
/-- nothing done -/
theorem op_nil {o : Nat} {M : fl_M} (hI : INV o M) : CIv o M ∧ RIv M.1 ∧ INV o M := ⟨hI.1, hI.2.2.1, hI⟩
/-- a row's head or its interfaces change, then settling -/
theorem set_row {o : Nat} {M X : fl_M} {x0 t0 : Nat} (hI : INV o M) (hx : x0 < 2) (ht : t0 < 12) (e2 : X.2 = M.2) (rd : ∀ a j, ¬ (zb o x0 + 2 + 11 * t0 ≤ a ∧ a ≤ zb o x0 + 2 + 11 * t0 + 1) → X.1 a j = M.1 a j) (hO : bOk X.1 (zb o x0)) (hL : tL X.1 (zb o x0 + 2 + 11 * t0)) : CIv o (wI (stl X (zb o x0) 0 12) 272 4 1) ∧ Fr o (wI (stl X (zb o x0) 0 12) 272 4 1) ∧ cF M (wI (stl X (zb o x0) 0 12) 272 4 1) ∧ (∀ a k, zb o x0 + 2 + 11 * t0 ≤ a → a < zb o x0 + 2 + 11 * t0 + 11 → ¬ (a = zb o x0 + 2 + 11 * t0 ∧ (k = 8 ∨ k = 9)) → (wI (stl X (zb o x0) 0 12) 272 4 1).1 a k = X.1 a k) ∧ (∀ x t, x < 2 → t < 12 → ¬ (x = x0 ∧ t = t0) → CK (zb o x + 2 + 11 * t) M.1 (wI (stl X (zb o x0) 0 12) 272 4 1).1) ∧ ∀ j, (wI (stl X (zb o x0) 0 12) 272 4 1).1 277 j = M.1 277 j := by
  have hz := zb_2 hI.1.1.oo hx
  have hG := hI.1.2.1 x0 hx
  have hB := hI.1.1.shb hx
  have hT := shBt hB ht
  obtain ⟨c1, c2, c3, c4⟩ := set_CIv hx hI.1 e2 hO (fun u hu => by
    by_cases hut : u = t0
    · rw [hut]; exact hL
    · exact tL_cg (hG.cnt hu) (fun a j q1 q2 _ => rd a j (by omega)) (hG.leg hu)) (fun a j q => rd a j (by omega)) (fun a ha => by
      rw [rd a 3 (by have := neTM hT ha; have := neMI ha hT; omega)]
      exact hI.1.2.2.1 a ha)
  have h277 : ∀ j, (wI (stl X (zb o x0) 0 12) 272 4 1).1 277 j = M.1 277 j := fun j => by
    rw [rdI_ne (by omega), stl_rd _ _ _ (fun u _ hu => by omega), rd _ _ (by omega)]
  generalize wI (stl X (zb o x0) 0 12) 272 4 1 = A at *
  refine ⟨c1, c2, c3, fun a k q1 q2 q3 => c4 a k (fun u hu => by omega) (by omega), fun x t hx' ht' hn a k q1 q2 q3 => ?_, h277⟩
  have := zb_2 hI.1.1.oo hx'
  by_cases hxx : x = x0
  · subst hxx
    rw [c4 a k (fun u hu => by omega) (by omega), rd a k (by omega)]
  · have := zb_d hI.1.1.oo hx' hx hxx
    rw [c4 a k (fun u hu => by omega) (by omega), rd a k (by omega)]
theorem ix0 : ix (0 : Int32) = 0 := by decide
theorem op_type {o : Nat} {M A B : fl_M} (hI : INV o M) {b t k f p : Int32} (hA : A = if yTy M o b t k f p then xTy M o b t k f p else M) (hB : B = if yRT A.1 b t k f p then xRT A b t k f p else A) : (CIv o A ∧ RIv A.1 ∧ INV o B) ∧ (if yTy M o b t k f p then (1 : Int32) else -1) = (if yRT A.1 b t k f p then 1 else -1) := by
  by_cases hy : yTy M o b t k f p
  · rw [if_pos hy] at hA
    rw [if_pos hy]
    obtain ⟨y1, y2, y3, y4, y5, y6, y7⟩ := id hy
    obtain ⟨hb, ht⟩ := okT_ix y1
    have hG := hI.1.2.1 _ hb.2
    have hp9 : p = -1 ∨ inL (ix t) p := y4.imp id (fun q => inL_lt (L := 12) (ix_of 12 (by omega) q.1 q.2) (ix_of 12 (by omega) y1.2.1 y1.2.2) (by omega) y6)
    obtain ⟨z1, z2, z3, z5, z7⟩ := (hG.leg ht.2).2.2.2.1 y5
    have hk9 : isZ k := by
      obtain ⟨e, l⟩ := ix_of 2 (by omega) y2.1 y2.2
      rw [e]
      rcases (show ix k = 0 ∨ ix k = 1 by omega) with q | q
      · rw [q]; exact Or.inl rfl
      · rw [q]; exact Or.inr rfl
    have rdX : ∀ a j, ¬ (a = zb o (ix b) + 2 + 11 * ix t ∧ j < 4) → (tDef M (zb o (ix b) + 2 + 11 * ix t) k f p).1 a j = M.1 a j := fun a j q => by
      rw [rdI_ne (by omega), rdI_ne (by omega), rdI_ne (by omega), rdI_ne (by omega)]
    have r0 : (tDef M (zb o (ix b) + 2 + 11 * ix t) k f p).1 (zb o (ix b) + 2 + 11 * ix t) 0 = 1 := by rw [rdI_ne (by omega), rdI_ne (by omega), rdI_ne (by omega), rdI_eq]
    have r1 : (tDef M (zb o (ix b) + 2 + 11 * ix t) k f p).1 (zb o (ix b) + 2 + 11 * ix t) 1 = k := by rw [rdI_ne (by omega), rdI_ne (by omega), rdI_eq]
    have r2 : (tDef M (zb o (ix b) + 2 + 11 * ix t) k f p).1 (zb o (ix b) + 2 + 11 * ix t) 2 = f := by rw [rdI_ne (by omega), rdI_eq]
    have r3 : (tDef M (zb o (ix b) + 2 + 11 * ix t) k f p).1 (zb o (ix b) + 2 + 11 * ix t) 3 = p := by rw [rdI_eq]
    have hOX := bOk_def (k := k) (f := f) hG.1.1 (t := ix t) hp9
    unfold xTy at hA
    have hX2 : (tDef M (zb o (ix b) + 2 + 11 * ix t) k f p).2 = M.2 := rfl
    generalize tDef M (zb o (ix b) + 2 + 11 * ix t) k f p = X at hA rdX r0 r1 r2 r3 hOX hX2
    obtain ⟨c1, c2, c3, c4, c5, c6⟩ := set_row hI hb.2 ht.2 hX2 (fun a j q => rdX a j (by omega)) hOX (by
        unfold tL cM
        rw [r0, r1, r2, r3, rdX _ 7 (by omega), z7]
        exact ⟨Or.inr rfl, hk9, y7, fun q => absurd q (by decide), fun i hi => absurd hi (by rw [ix0]; omega)⟩)
    rw [← hA] at c1 c2 c3 c4 c5 c6
    have hyR : yRT A.1 b t k f p := (ty_iff (SIv_ref (fun a j _ _ => c3 a j (by omega)) hI.2.2.2.1)).mp hy
    rw [if_pos hyR] at hB
    rw [if_pos hyR]
    refine ⟨?_, rfl⟩
    have n0 : ∀ j, j ≠ 8 → j ≠ 9 → A.1 (zb o (ix b) + 2 + 11 * ix t) j = X.1 (zb o (ix b) + 2 + 11 * ix t) j := fun j q1 q2 => c4 _ j (by omega) (by omega) (by omega)
    have rB : ∀ a j, ¬ (j = 12 * ix b + ix t ∧ 279 ≤ a ∧ a ≤ 285 ∧ a ≠ 284) → B.1 a j = A.1 a j := fun a j q => by
      rw [hB]
      unfold xRT
      rw [rdI_ne (by omega), rdI_ne (by omega), rdI_ne (by omega), rdI_ne (by omega), rdI_ne (by omega), rdI_ne (by omega)]
    have b0 : B.1 279 (12 * ix b + ix t) = 1 := by rw [hB]; unfold xRT; rw [rdI_ne (by omega), rdI_ne (by omega), rdI_ne (by omega), rdI_ne (by omega), rdI_ne (by omega), rdI_eq]
    have b1 : B.1 280 (12 * ix b + ix t) = k := by rw [hB]; unfold xRT; rw [rdI_ne (by omega), rdI_ne (by omega), rdI_ne (by omega), rdI_ne (by omega), rdI_eq]
    have b2 : B.1 281 (12 * ix b + ix t) = f := by rw [hB]; unfold xRT; rw [rdI_ne (by omega), rdI_ne (by omega), rdI_ne (by omega), rdI_eq]
    have b3 : B.1 282 (12 * ix b + ix t) = p := by rw [hB]; unfold xRT; rw [rdI_ne (by omega), rdI_ne (by omega), rdI_eq]
    have b5 : B.1 283 (12 * ix b + ix t) = 0 := by rw [hB]; unfold xRT; rw [rdI_ne (by omega), rdI_eq]
    have b7 : B.1 285 (12 * ix b + ix t) = 0 := by rw [hB]; unfold xRT; rw [rdI_eq]
    refine op_row (x0 := ix b) (t0 := ix t) hI c1 c2 c3 ⟨fun a j q => rB a j (by omega), by rw [hB]; rfl⟩ (fun x u hx hu hn => ⟨c5 x u hx hu hn, ⟨fun a q1 q2 q3 => rB a _ (by omega), fun i hi => rB _ _ (by omega), fun a i q1 q2 q3 => rB _ _ (by omega)⟩⟩) ?_ ?_ c6 (fun j => rB _ _ (by omega))
    · refine ⟨by rw [b0, n0 0 (by omega) (by omega), r0], fun _ => ?_⟩
      unfold cI cM
      rw [b1, b2, b3, b5, b7, n0 1 (by omega) (by omega), n0 2 (by omega) (by omega), n0 3 (by omega) (by omega), n0 5 (by omega) (by omega), n0 7 (by omega) (by omega), r1, r2, r3, rdX _ 5 (by omega), rdX _ 7 (by omega), z5, z7]
      exact ⟨rfl, rfl, rfl, rfl, rfl, fun i hi => absurd hi (by rw [ix0]; omega), fun i hi => absurd hi (by rw [ix0]; omega)⟩
    · unfold rI rC qF qM
      rw [b0, b3, b5, b7, ix0]
      refine ⟨⟨⟨rfl, by omega⟩, rfl, by omega⟩, Or.inr rfl, fun _ => ⟨hp9, fun i hi => absurd hi (by omega)⟩, fun i hi => ?_⟩
      rw [rB _ _ (by omega), c3 _ _ (by omega)]
      exact (hI.2.2.1 _ _ hb.2 ht.2).2.2.2 i hi
  · have hS := hI.2.2.2.1
    rw [if_neg hy] at hA
    subst hA
    have hn := fun q => hy ((ty_iff hS).mpr q)
    rw [if_neg hn] at hB
    rw [if_neg hy, if_neg hn, hB]
    exact ⟨op_nil hI, rfl⟩
