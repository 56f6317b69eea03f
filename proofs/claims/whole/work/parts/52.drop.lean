/-! CONSTANT, DROP -/
theorem cl_iff {o : Nat} {M : fl_M} {ν : Nat → Nat → Int32} {b t p : Int32} (hG : ∀ x, x < 2 → bG M.1 (zb o x)) (hS : SIv o M.1 ν) (hR : RIv ν) : okP M.1 o b t p ↔ ¬ vCl ν b t p < 0 := by
  constructor
  · rintro ⟨h1, h2, h3⟩
    obtain ⟨hb, ht⟩ := okT_ix h1
    have hc := ((hG _ hb.2).cnt ht.2).2
    rw [hc.1] at h3
    obtain ⟨ep, lp⟩ := ix_of _ (by have := hc.2; omega) h2 h3
    have hd : ¬ M.1 (zb o (ix b) + 2 + 11 * ix t) 0 = 0 := by
      intro z
      have := (((hG _ hb.2).leg ht.2).2.2.2.1 z).2.2.2.2
      have h0 : cM M.1 (zb o (ix b) + 2 + 11 * ix t) = 0 := by unfold cM; rw [this, ix0]
      omega
    have hS0 := hS _ hb.2 _ ht.2
    have e7 := (hS0.2 hd).2.2.2.2.1
    have hyc : yCl ν b t p := by
      refine ⟨badT_iff.mpr h1, by rw [hS0.1]; exact hd, ?_⟩
      rw [e7, hc.1, show (1 : Int32) = nI 1 by decide, pk_sub (by omega), ep]
      rintro (z | z)
      · exact nI_lt0 (by have := hc.2; omega) z
      · exact nI_nlt (b := ix p) (by omega) (by have := hc.2; omega) z
    unfold vCl
    rw [if_pos hyc, ep, nI_add]
    refine nI_lt0 ?_
    have := hc.2
    have := hb.2
    have := ht.2
    have e9 : ix (nI (ix p)) = ix p := ix_nI (by omega)
    omega
  · intro h
    obtain ⟨⟨h1, h2, h3⟩, h4, h5, h6, h7, h8⟩ := vCl_in hR.rCs h
    have h1' := badT_iff.mp h1
    have hS0 := hS _ h7 _ h8
    have hd : ¬ M.1 (zb o (ix b) + 2 + 11 * ix t) 0 = 0 := by rw [← hS0.1]; exact h2
    have e7 := (hS0.2 hd).2.2.2.2.1
    have hc := ((hG _ h7).cnt h8).2
    refine ⟨h1', fun z => h3 (Or.inl z), ?_⟩
    unfold qM at h6
    rw [e7] at h6
    rw [hc.1, h5]
    exact nI_ge h6 (by have := hc.2; omega)
theorem okP_ix {o : Nat} {M : fl_M} {b t p : Int32} (hG : ∀ x, x < 2 → bG M.1 (zb o x)) (h : okP M.1 o b t p) : p = nI (ix p) ∧ ix p < cM M.1 (zb o (ix b) + 2 + 11 * ix t) ∧ ¬ M.1 (zb o (ix b) + 2 + 11 * ix t) 0 = 0 := by
  obtain ⟨h1, h2, h3⟩ := h
  obtain ⟨hb, ht⟩ := okT_ix h1
  have hc := ((hG _ hb.2).cnt ht.2).2
  rw [hc.1] at h3
  obtain ⟨ep, lp⟩ := ix_of _ (by have := hc.2; omega) h2 h3
  refine ⟨ep, lp, fun z => ?_⟩
  have := (((hG _ hb.2).leg ht.2).2.2.2.1 z).2.2.2.2
  have h0 : cM M.1 (zb o (ix b) + 2 + 11 * ix t) = 0 := by unfold cM; rw [this, ix0]
  omega
theorem co_iff {o : Nat} {M : fl_M} {ν : Nat → Nat → Int32} {b t p : Int32} (hG : ∀ x, x < 2 → bG M.1 (zb o x)) (hS : SIv o M.1 ν) (hR : RIv ν) : yCo M o b t p ↔ yRC ν b t p := by
  have key : okP M.1 o b t p → ν 286 (8 * (12 * ix b + ix t) + ix p) = M.1 (zb o (ix b) + 2 + 11 * ix t + 3 + ix p) 0 := by
    intro h
    obtain ⟨h1, h2, h3⟩ := okP_ix hG h
    obtain ⟨hb, ht⟩ := okT_ix h.1
    exact (((hS _ hb.2 _ ht.2).2 h3).2.2.2.2.2.2 _ h2).1
  unfold yCo yRC
  constructor
  · rintro ⟨h1, h2⟩
    exact ⟨(cl_iff hG hS hR).mp h1, by rw [key h1]; exact h2⟩
  · rintro ⟨h1, h2⟩
    have h1' := (cl_iff hG hS hR).mpr h1
    exact ⟨h1', by rw [← key h1']; exact h2⟩
theorem op_constant {o : Nat} {M A B : fl_M} (hI : INV o M) {b t p v : Int32} (hA : A = if yCo M o b t p then xCo M o b t p v else M) (hB : B = if yRC A.1 b t p then xRC A b t p v else A) : (CIv o A ∧ RIv A.1 ∧ INV o B) ∧ (if yCo M o b t p then (if M.1 (zb o (ix b) + 2 + 11 * ix t + 3 + ix p) 3 = 0 then 0 else 1) else -1) = (if yRC A.1 b t p then (if A.1 289 (8 * (12 * ix b + ix t) + ix p) = 0 then (0 : Int32) else 1) else -1) := by
  by_cases hy : yCo M o b t p
  · rw [if_pos hy] at hA
    rw [if_pos hy]
    obtain ⟨y1, y2⟩ := id hy
    obtain ⟨hb, ht⟩ := okT_ix y1.1
    obtain ⟨ep, lp, hd⟩ := okP_ix hI.1.2.1 y1
    have hG := hI.1.2.1 _ hb.2
    have hT := shBt (hI.1.1.shb hb.2) ht.2
    have hS0 := hI.2.2.2.1 _ hb.2 _ ht.2
    obtain ⟨e1, e2, e3, e5, e7, ef, em⟩ := hS0.2 hd
    have hc := hG.cnt ht.2
    have h8 := hc.2.2
    unfold xCo at hA
    generalize hnn : zb o (ix b) + 2 + 11 * ix t = n at *
    obtain ⟨c, hpp⟩ : ∃ c, ix p = c := ⟨_, rfl⟩
    rw [hpp] at hA lp y2
    have rdX : ∀ a j, ¬ (a = n + 3 + c ∧ (j = 3 ∨ j = 4)) → (wI (wI M (n + 3 + c) 3 1) (n + 3 + c) 4 v).1 a j = M.1 a j := fun a j h => by
      rw [rdI_ne (by omega), rdI_ne (by omega)]
    have m3 : (wI (wI M (n + 3 + c) 3 1) (n + 3 + c) 4 v).1 (n + 3 + c) 3 = 1 := by rw [rdI_ne (by omega), rdI_eq]
    have m4 : (wI (wI M (n + 3 + c) 3 1) (n + 3 + c) 4 v).1 (n + 3 + c) 4 = v := by rw [rdI_eq]
    have hX2 : (wI (wI M (n + 3 + c) 3 1) (n + 3 + c) 4 v).2 = M.2 := rfl
    generalize wI (wI M (n + 3 + c) 3 1) (n + 3 + c) 4 v = X at hA rdX m3 m4 hX2
    have hcX : cM X.1 n = cM M.1 n := by unfold cM; rw [rdX _ 7 (by omega)]
    have hrow := mem_row (Y := X) hI hb.2 ht.2 hX2
    rw [hnn] at hrow
    obtain ⟨c1, c2, c3, c4, c5, c6⟩ := hrow (fun a j h => rdX a j (by omega)) (by
        unfold tOk cI cM
        rw [rdX _ 5 (by omega), rdX _ 7 (by omega)]
        exact hc) (by
        have hl := hG.leg ht.2
        rw [hnn] at hl
        obtain ⟨l1, l2, l3, l4, l5⟩ := hl
        unfold tL
        rw [hcX, rdX _ 0 (by omega), rdX _ 1 (by omega), rdX _ 2 (by omega), rdX _ 3 (by omega)]
        refine ⟨l1, l2, l3, fun z => absurd z hd, fun i hi => ?_⟩
        have := l5 i hi
        unfold mL at this ⊢
        by_cases hic : i = c
        · rw [hic] at this ⊢
          rw [rdX _ 0 (by omega), rdX _ 2 (by omega), m3]
          exact ⟨this.1, this.2.1, Or.inr rfl, fun _ => y2⟩
        · rw [rdX _ _ (by omega), rdX _ _ (by omega), rdX _ _ (by omega)]
          exact this) (fun a ha => by
        by_cases hac : a = n + 3 + c
        · rw [hac, m3]; exact Or.inr rfl
        · rw [rdX _ _ (by omega)]; exact hI.1.2.2.1 a ha)
    rw [← hA] at c1 c2 c3 c4 c5 c6
    have hyR : yRC A.1 b t p := (co_iff hI.1.2.1 (SIv_ref (fun a j _ _ => c3 a j (by omega)) hI.2.2.2.1) (RIv_cg (fun a j _ _ => c3 a j (by omega)) hI.2.2.1)).mp hy
    rw [if_pos hyR] at hB
    rw [if_pos hyR]
    have hm := em c lp
    refine ⟨?_, by rw [hpp, c3 _ _ (by omega), hm.2.2.2.1]⟩
    unfold xRC at hB
    rw [hpp] at hB
    have rB : ∀ a j, ¬ ((a = 289 ∨ a = 290) ∧ j = 8 * (12 * ix b + ix t) + c) → B.1 a j = A.1 a j := fun a j h1 => by
      rw [hB, rdI_ne (by omega), rdI_ne (by omega)]
    have g3 : B.1 289 (8 * (12 * ix b + ix t) + c) = 1 := by rw [hB, rdI_ne (by omega), rdI_eq]
    have g4 : B.1 290 (8 * (12 * ix b + ix t) + c) = v := by rw [hB, rdI_eq]
    refine op_row (x0 := ix b) (t0 := ix t) hI c1 c2 c3 ⟨fun a j h => rB a j (by omega), by rw [hB]; rfl⟩ (fun x u hx hu hn => ⟨c5 x u hx hu hn, ⟨fun a q1 q2 q3 => rB a _ (by omega), fun i hi => rB _ _ (by omega), fun a i q1 q2 q3 => rB _ _ (by omega)⟩⟩) ?_ ?_ c6 (fun j => rB _ _ (by omega))
    · rw [hnn]
      refine ⟨by rw [rB _ _ (by omega), c3 _ _ (by omega), c4 n 0 (by omega) (by omega), rdX _ 0 (by omega)]; exact hS0.1, fun _ => ?_⟩
      have hcA : cM A.1 n = cM M.1 n := by rw [← hcX]; unfold cM; rw [c4 n 7 (by omega) (by omega)]
      have hiA : cI A.1 n = cI M.1 n := by unfold cI; rw [c4 n 5 (by omega) (by omega), rdX _ 5 (by omega)]
      rw [hcA, hiA]
      rw [rB 280 _ (by omega), rB 281 _ (by omega), rB 282 _ (by omega), rB 283 _ (by omega), rB 285 _ (by omega), c3 280 _ (by omega), c3 281 _ (by omega), c3 282 _ (by omega), c3 283 _ (by omega), c3 285 _ (by omega), c4 n 1 (by omega) (by omega), c4 n 2 (by omega) (by omega), c4 n 3 (by omega) (by omega), c4 n 5 (by omega) (by omega), c4 n 7 (by omega) (by omega), rdX _ 1 (by omega), rdX _ 2 (by omega), rdX _ 3 (by omega), rdX _ 5 (by omega), rdX _ 7 (by omega)]
      refine ⟨e1, e2, e3, e5, e7, fun i hi => ?_, fun i hi => ?_⟩
      · rw [c4 _ i (by omega) (by omega), rB _ _ (by omega), c3 _ _ (by omega), rdX _ _ (by omega)]
        exact ef i hi
      · have := em i hi
        unfold mE at this ⊢
        rw [c4 (n + 3 + i) 0 (by omega) (by omega), c4 (n + 3 + i) 1 (by omega) (by omega), c4 (n + 3 + i) 2 (by omega) (by omega), c4 (n + 3 + i) 3 (by omega) (by omega), c4 (n + 3 + i) 4 (by omega) (by omega), rB 286 _ (by omega), rB 287 _ (by omega), rB 288 _ (by omega), c3 286 _ (by omega), c3 287 _ (by omega), c3 288 _ (by omega), rdX _ 0 (by omega), rdX _ 1 (by omega), rdX _ 2 (by omega)]
        by_cases hic : i = c
        · rw [hic] at this ⊢
          rw [g3, g4, m3, m4]
          exact ⟨this.1, this.2.1, this.2.2.1, rfl, fun _ => rfl⟩
        · rw [rB 289 _ (by omega), rB 290 _ (by omega), c3 289 _ (by omega), c3 290 _ (by omega), rdX _ 3 (by omega), rdX _ 4 (by omega)]
          exact this
    · obtain ⟨⟨⟨a1, a2⟩, a3, a4⟩, a5, a6, a7⟩ := hI.2.2.1 _ _ hb.2 ht.2
      unfold rI rC qF qM
      rw [rB 279 _ (by omega), rB 283 _ (by omega), rB 282 _ (by omega), rB 285 _ (by omega), c3 279 _ (by omega), c3 283 _ (by omega), c3 282 _ (by omega), c3 285 _ (by omega)]
      refine ⟨⟨⟨a1, a2⟩, a3, a4⟩, a5, fun hd => ⟨(a6 hd).1, fun i hi => ?_⟩, fun i hi => ?_⟩
      · rw [rB _ _ (by omega), c3 _ _ (by omega)]
        exact (a6 hd).2 i hi
      · by_cases hic : i = c
        · rw [hic, g3]; exact Or.inr rfl
        · rw [rB _ _ (by omega), c3 _ _ (by omega)]
          exact a7 i hi
  · have hS := hI.2.2.2.1
    rw [if_neg hy] at hA
    subst hA
    have hn := fun q => hy ((co_iff hI.1.2.1 hS hI.2.2.1).mpr q)
    rw [if_neg hn] at hB
    rw [if_neg hy, if_neg hn, hB]
    exact ⟨op_nil hI, rfl⟩
theorem tko_rd {n a j : Nat} : ∀ (k i : Nat) (M : fl_M), (tko M n i k).1 a j = if n + 3 + i ≤ a ∧ a < n + 3 + i + k ∧ j < 5 then M.1 (a + 1) j else M.1 a j := by
  intro k
  induction k with
  | zero => intro i M; rw [if_neg (by omega)]; rfl
  | succ k ih =>
    intro i M
    unfold tko
    rw [ih (i + 1), mCp_rd, mCp_rd]
    by_cases h1 : a = n + 3 + i ∧ j < 5
    · rw [if_neg (by omega), if_pos h1, if_pos (by omega), h1.1]
      rfl
    · by_cases h2 : n + 3 + (i + 1) ≤ a ∧ a < n + 3 + (i + 1) + k ∧ j < 5
      · rw [if_pos h2, if_neg (by omega), if_pos (by omega)]
      · rw [if_neg h2, if_neg h1, if_neg (by omega)]
theorem rko_rd {a c : Nat} : ∀ (j k : Nat) (M : fl_M), (rko M k j).1 a c = if 286 ≤ a ∧ a ≤ 290 ∧ k ≤ c ∧ c < k + j then M.1 a (c + 1) else M.1 a c := by
  intro j
  induction j with
  | zero => intro k M; rw [if_neg (by omega)]; rfl
  | succ j ih =>
    intro k M
    unfold rko
    rw [ih (k + 1), cCp_rd, cCp_rd]
    by_cases h1 : 286 ≤ a ∧ a ≤ 290 ∧ c = k
    · rw [if_neg (by omega), if_pos h1, if_pos (by omega), h1.2.2]
    · by_cases h2 : 286 ≤ a ∧ a ≤ 290 ∧ k + 1 ≤ c ∧ c < k + 1 + j
      · rw [if_pos h2, if_neg (by omega), if_pos (by omega)]
      · rw [if_neg h2, if_neg h1, if_neg (by omega)]
theorem op_drop {o : Nat} {M A B : fl_M} (hI : INV o M) {b t p : Int32} (hA : A = if okP M.1 o b t p then xDr M o b t p else M) (hB : B = if ¬ vCl A.1 b t p < 0 then xRD A b t p else A) : (CIv o A ∧ RIv A.1 ∧ INV o B) ∧ (if okP M.1 o b t p then (xDr M o b t p).1 (zb o (ix b) + 2 + 11 * ix t) 7 else -1) = (if ¬ vCl A.1 b t p < 0 then nI (qM A.1 (12 * ix b + ix t) - 1) else -1) := by
  by_cases hy : okP M.1 o b t p
  · rw [if_pos hy] at hA
    rw [if_pos hy, ← hA]
    obtain ⟨hb, ht⟩ := okT_ix hy.1
    obtain ⟨ep, lp, hd⟩ := okP_ix hI.1.2.1 hy
    have hG := hI.1.2.1 _ hb.2
    have hT := shBt (hI.1.1.shb hb.2) ht.2
    have hS0 := hI.2.2.2.1 _ hb.2 _ ht.2
    obtain ⟨e1, e2, e3, e5, e7, ef, em⟩ := hS0.2 hd
    have hc := hG.cnt ht.2
    have h8 := hc.2.2
    unfold xDr at hA
    generalize hnn : zb o (ix b) + 2 + 11 * ix t = n at *
    generalize hpp : ix p = c at *
    generalize hmm : cM M.1 n = m at *
    have hkk : c + (m - 1 - c) = m - 1 := by omega
    have rdX : ∀ a j, ¬ (a = n ∧ j = 7) → (wI (tko M n c (m - 1 - c)) n 7 (nI (m - 1))).1 a j = if n + 3 + c ≤ a ∧ a < n + 3 + (m - 1) ∧ j < 5 then M.1 (a + 1) j else M.1 a j := fun a j h => by
      rw [rdI_ne (by omega), tko_rd, show n + 3 + c + (m - 1 - c) = n + 3 + (m - 1) by omega]
    have r7 : (wI (tko M n c (m - 1 - c)) n 7 (nI (m - 1))).1 n 7 = nI (m - 1) := rdI_eq
    have hX2 : (wI (tko M n c (m - 1 - c)) n 7 (nI (m - 1))).2 = M.2 := tko_2 _ _ _
    generalize wI (tko M n c (m - 1 - c)) n 7 (nI (m - 1)) = X at hA rdX r7 hX2
    have hix : ix (nI (m - 1)) = m - 1 := ix_nI (by omega)
    have hcX : cM X.1 n = m - 1 := by show ix (X.1 n 7) = _; rw [r7, hix]
    have rdO : ∀ a j, ¬ (a = n ∧ j = 7) → ¬ (n + 3 ≤ a ∧ a < n + 11) → X.1 a j = M.1 a j := fun a j h1 h2 => by rw [rdX a j h1, if_neg (by omega)]
    have hrow := mem_row (Y := X) hI hb.2 ht.2 hX2
    rw [hnn] at hrow
    obtain ⟨c1, c2, c3, c4, c5, c6⟩ := hrow (fun a j h => rdO a j (by omega) (by omega)) (by
        refine ⟨?_, by rw [hcX]; exact r7, by rw [hcX]; omega⟩
        unfold cI
        rw [rdO _ 5 (by omega) (by omega)]
        exact hc.1) (by
        have hl := hG.leg ht.2
        rw [hnn] at hl
        obtain ⟨l1, l2, l3, l4, l5⟩ := hl
        unfold tL
        rw [hcX, rdO _ 0 (by omega) (by omega), rdO _ 1 (by omega) (by omega), rdO _ 2 (by omega) (by omega), rdO _ 3 (by omega) (by omega)]
        refine ⟨l1, l2, l3, fun z => absurd z hd, fun i hi => ?_⟩
        unfold mL
        rw [rdX _ 0 (by omega), rdX _ 2 (by omega), rdX _ 3 (by omega)]
        by_cases hic : c ≤ i
        · have q : ∀ j, j < 5 → (n + 3 + c ≤ n + 3 + i ∧ n + 3 + i < n + 3 + (m - 1) ∧ j < 5) := fun j hj => by omega
          rw [if_pos (q 0 (by omega)), if_pos (q 2 (by omega)), if_pos (q 3 (by omega))]
          exact l5 (i + 1) (by omega)
        · have q : ∀ j, ¬ (n + 3 + c ≤ n + 3 + i ∧ n + 3 + i < n + 3 + (m - 1) ∧ j < 5) := fun j => by omega
          rw [if_neg (q 0), if_neg (q 2), if_neg (q 3)]
          exact l5 i (by omega)) (fun a ha => by
        have hne := neTM hT ha
        rw [rdX a 3 (by omega)]
        split
        · rename_i q
          have := shTm (i := a - (n + 3) + 1) hT (by omega)
          rw [show n + 3 + (a - (n + 3) + 1) = a + 1 by omega] at this
          exact hI.1.2.2.1 _ this
        · exact hI.1.2.2.1 a ha)
    rw [← hA] at c1 c2 c3 c4 c5 c6
    have hyR : ¬ vCl A.1 b t p < 0 := (cl_iff hI.1.2.1 (SIv_ref (fun a j _ _ => c3 a j (by omega)) hI.2.2.2.1) (RIv_cg (fun a j _ _ => c3 a j (by omega)) hI.2.2.1)).mp hy
    rw [if_pos hyR] at hB
    rw [if_pos hyR]
    have hq : qM A.1 (12 * ix b + ix t) = m := by
      unfold qM
      rw [c3 _ _ (by omega), e7]
      exact hmm
    refine ⟨?_, by rw [hq, c4 n 7 (by omega) (by omega), r7]⟩
    unfold xRD at hB
    rw [hq, hpp] at hB
    have rB : ∀ a j, ¬ (a = 285 ∧ j = 12 * ix b + ix t) → B.1 a j = if 286 ≤ a ∧ a ≤ 290 ∧ 8 * (12 * ix b + ix t) + c ≤ j ∧ j < 8 * (12 * ix b + ix t) + (m - 1) then A.1 a (j + 1) else A.1 a j := fun a j h1 => by
      rw [hB, rko_rd, show 8 * (12 * ix b + ix t) + c + (m - 1 - c) = 8 * (12 * ix b + ix t) + (m - 1) by omega]
      split
      · rename_i z; exact rdI_ne (by omega)
      · exact rdI_ne (by omega)
    have rB0 : ∀ a j, ¬ (a = 285 ∧ j = 12 * ix b + ix t) → ¬ (286 ≤ a ∧ a ≤ 290 ∧ 8 * (12 * ix b + ix t) ≤ j ∧ j < 8 * (12 * ix b + ix t) + 8) → B.1 a j = A.1 a j := fun a j h1 h2 => by rw [rB a j h1, if_neg (by omega)]
    have b7 : B.1 285 (12 * ix b + ix t) = nI (m - 1) := by rw [hB, rko_rd, if_neg (by omega), rdI_eq]
    refine op_row (x0 := ix b) (t0 := ix t) hI c1 c2 c3 ⟨fun a j h => rB0 a j (by omega) (by omega), by rw [hB]; exact rko_2 _ _ _⟩ (fun x u hx hu hn => ⟨c5 x u hx hu hn, ⟨fun a q1 q2 q3 => rB0 a _ (by omega) (by omega), fun i hi => rB0 _ _ (by omega) (by omega), fun a i q1 q2 q3 => rB0 _ _ (by omega) (by omega)⟩⟩) ?_ ?_ c6 (fun j => rB0 _ _ (by omega) (by omega))
    · rw [hnn]
      refine ⟨by rw [rB0 _ _ (by omega) (by omega), c3 _ _ (by omega), c4 n 0 (by omega) (by omega), rdO _ 0 (by omega) (by omega)]; exact hS0.1, fun _ => ?_⟩
      have hcA : cM A.1 n = m - 1 := by rw [← hcX]; unfold cM; rw [c4 n 7 (by omega) (by omega)]
      have hiA : cI A.1 n = cI M.1 n := by unfold cI; rw [c4 n 5 (by omega) (by omega), rdO _ 5 (by omega) (by omega)]
      rw [hcA, hiA]
      rw [rB0 280 _ (by omega) (by omega), rB0 281 _ (by omega) (by omega), rB0 282 _ (by omega) (by omega), rB0 283 _ (by omega) (by omega), b7, c3 280 _ (by omega), c3 281 _ (by omega), c3 282 _ (by omega), c3 283 _ (by omega), c4 n 1 (by omega) (by omega), c4 n 2 (by omega) (by omega), c4 n 3 (by omega) (by omega), c4 n 5 (by omega) (by omega), c4 n 7 (by omega) (by omega), rdO _ 1 (by omega) (by omega), rdO _ 2 (by omega) (by omega), rdO _ 3 (by omega) (by omega), rdO _ 5 (by omega) (by omega), r7]
      refine ⟨e1, e2, e3, e5, rfl, fun i hi => ?_, fun i hi => ?_⟩
      · rw [c4 _ i (by omega) (by omega), rB0 _ _ (by omega) (by omega), c3 _ _ (by omega), rdO _ _ (by omega) (by omega)]
        exact ef i hi
      · unfold mE
        rw [c4 (n + 3 + i) 0 (by omega) (by omega), c4 (n + 3 + i) 1 (by omega) (by omega), c4 (n + 3 + i) 2 (by omega) (by omega), c4 (n + 3 + i) 3 (by omega) (by omega), c4 (n + 3 + i) 4 (by omega) (by omega), rB 286 _ (by omega), rB 287 _ (by omega), rB 288 _ (by omega), rB 289 _ (by omega), rB 290 _ (by omega), rdX _ 0 (by omega), rdX _ 1 (by omega), rdX _ 2 (by omega), rdX _ 3 (by omega), rdX _ 4 (by omega)]
        by_cases hic : c ≤ i
        · have q : ∀ j, j < 5 → (n + 3 + c ≤ n + 3 + i ∧ n + 3 + i < n + 3 + (m - 1) ∧ j < 5) := fun j hj => by omega
          have q2 : ∀ a, 286 ≤ a → a ≤ 290 → (286 ≤ a ∧ a ≤ 290 ∧ 8 * (12 * ix b + ix t) + c ≤ 8 * (12 * ix b + ix t) + i ∧ 8 * (12 * ix b + ix t) + i < 8 * (12 * ix b + ix t) + (m - 1)) := fun a h1 h2 => by omega
          rw [if_pos (q 0 (by omega)), if_pos (q 1 (by omega)), if_pos (q 2 (by omega)), if_pos (q 3 (by omega)), if_pos (q 4 (by omega)), if_pos (q2 286 (by omega) (by omega)), if_pos (q2 287 (by omega) (by omega)), if_pos (q2 288 (by omega) (by omega)), if_pos (q2 289 (by omega) (by omega)), if_pos (q2 290 (by omega) (by omega)), c3 286 _ (by omega), c3 287 _ (by omega), c3 288 _ (by omega), c3 289 _ (by omega), c3 290 _ (by omega)]
          exact em (i + 1) (by omega)
        · have q : ∀ j, ¬ (n + 3 + c ≤ n + 3 + i ∧ n + 3 + i < n + 3 + (m - 1) ∧ j < 5) := fun j => by omega
          have q2 : ∀ a, ¬ (286 ≤ a ∧ a ≤ 290 ∧ 8 * (12 * ix b + ix t) + c ≤ 8 * (12 * ix b + ix t) + i ∧ 8 * (12 * ix b + ix t) + i < 8 * (12 * ix b + ix t) + (m - 1)) := fun a => by omega
          rw [if_neg (q 0), if_neg (q 1), if_neg (q 2), if_neg (q 3), if_neg (q 4), if_neg (q2 286), if_neg (q2 287), if_neg (q2 288), if_neg (q2 289), if_neg (q2 290), c3 286 _ (by omega), c3 287 _ (by omega), c3 288 _ (by omega), c3 289 _ (by omega), c3 290 _ (by omega)]
          exact em i (by omega)
    · obtain ⟨⟨⟨a1, a2⟩, a3, a4⟩, a5, a6, a7⟩ := hI.2.2.1 _ _ hb.2 ht.2
      unfold rI rC qF qM
      rw [b7, hix, rB0 279 _ (by omega) (by omega), rB0 283 _ (by omega) (by omega), rB0 282 _ (by omega) (by omega), c3 279 _ (by omega), c3 283 _ (by omega), c3 282 _ (by omega)]
      refine ⟨⟨⟨a1, a2⟩, rfl, by omega⟩, a5, fun hd => ⟨(a6 hd).1, fun i hi => ?_⟩, fun i hi => ?_⟩
      · rw [rB0 _ _ (by omega) (by omega), c3 _ _ (by omega)]
        exact (a6 hd).2 i hi
      · rw [rB _ _ (by omega)]
        split
        · rename_i z
          rw [c3 _ _ (by omega)]
          exact a7 (i + 1) (by omega)
        · rw [c3 _ _ (by omega)]
          exact a7 i hi
  · have hS := hI.2.2.2.1
    rw [if_neg hy] at hA
    subst hA
    have hn : ¬ ¬ vCl A.1 b t p < 0 := fun q => hy ((cl_iff hI.1.2.1 hS hI.2.2.1).mpr q)
    rw [if_neg hn] at hB
    rw [if_neg hy, if_neg hn, hB]
    exact ⟨op_nil hI, rfl⟩
