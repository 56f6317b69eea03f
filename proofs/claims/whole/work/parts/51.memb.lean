/-! MEMBER, CONSTANT, DROP -/
theorem bG_mem {μ μ' : Nat → Nat → Int32} {b : Nat} (e : ∀ t k, t < 12 → k ≠ 7 → μ' (b + 2 + 11 * t) k = μ (b + 2 + 11 * t) k) (e1 : ∀ t k, t < 12 → μ' (b + 2 + 11 * t + 1) k = μ (b + 2 + 11 * t + 1) k) (ef : ∀ k, μ' (b + 134) k = μ (b + 134) k) (hc : ∀ t, t < 12 → tOk μ' (b + 2 + 11 * t)) (hL : ∀ t, t < 12 → tL μ' (b + 2 + 11 * t)) (h : bG μ b) : bG μ' b := by
  refine ⟨⟨fun t ht => ⟨hc t ht, ?_, ?_, ?_⟩, bSk_congr (fun t ht => e t 8 ht (by omega)) h.1.2.1, fun t ht => by rw [ef]; exact h.1.2.2 t ht⟩, fun t ht => ⟨hL t ht, ?_, ?_⟩⟩
  · rw [e t 0 ht (by omega)]
    exact (h.1.1 t ht).2.1
  · intro i hi
    unfold cI at hi
    rw [e t 5 ht (by omega)] at hi
    rw [e1 t i ht]
    exact h.face ht i hi
  · rw [e t 3 ht (by omega)]
    exact h.par ht
  · rw [e t 8 ht (by omega), e t 3 ht (by omega), h.s8 ht]
    have := isC_cg (b := b) (μ := μ) (μ' := μ') (y := μ (b + 2 + 11 * t) 3) (fun u hu => ⟨e u 0 hu (by omega), e u 1 hu (by omega)⟩) ((h.par ht).imp id (fun q => inL_le q (by omega)))
    by_cases hC : isC μ b (μ (b + 2 + 11 * t) 3)
    · rw [if_pos hC, if_pos (this.mpr hC)]
    · rw [if_neg hC, if_neg (fun q => hC (this.mp q))]
  · rw [e t 9 ht (by omega), h.s9 ht]
    have g1 : ∀ (k i : Nat) (a : Int32), i + k ≤ cI μ (b + 2 + 11 * t) → gth μ' b (b + 2 + 11 * t) i k a = gth μ b (b + 2 + 11 * t) i k a := by
      intro k
      induction k with
      | zero => intro i a _; rfl
      | succ k ih =>
        intro i a hi
        unfold gth
        have z := (h.face ht i (by omega)).2
        rw [ih (i + 1) _ (by omega), e1 t i ht]
        unfold isI tn
        rw [e _ 0 (by omega) (by omega), e _ 1 (by omega) (by omega), e _ 9 (by omega) (by omega)]
    have hci : cI μ' (b + 2 + 11 * t) = cI μ (b + 2 + 11 * t) := by unfold cI; rw [e t 5 ht (by omega)]
    unfold gat
    rw [hci, g1 _ _ _ (by omega)]
    congr 1
    unfold gt0
    rw [e t 8 ht (by omega)]
    rcases h.sup ht with q | q
    · rw [if_pos q, if_pos q]
    · have z := inL_m1 (by omega) q
      have z2 := q.2
      rw [if_neg z, if_neg z]
      unfold tn
      rw [e _ 9 (by omega) (by omega)]
theorem mem_row {o : Nat} {M Y : fl_M} {x0 t0 : Nat} (hI : INV o M) (hx : x0 < 2) (ht : t0 < 12) (e2 : Y.2 = M.2) (rd : ∀ a j, ¬ ((zb o x0 + 2 + 11 * t0 + 3 ≤ a ∧ a < zb o x0 + 2 + 11 * t0 + 11) ∨ (a = zb o x0 + 2 + 11 * t0 ∧ j = 7)) → Y.1 a j = M.1 a j) (hc : tOk Y.1 (zb o x0 + 2 + 11 * t0)) (hL : tL Y.1 (zb o x0 + 2 + 11 * t0)) (h3 : zM3 Y.1) : CIv o (wI Y 272 4 1) ∧ Fr o (wI Y 272 4 1) ∧ cF M (wI Y 272 4 1) ∧ (∀ a k, zb o x0 + 2 + 11 * t0 ≤ a → a < zb o x0 + 2 + 11 * t0 + 11 → (wI Y 272 4 1).1 a k = Y.1 a k) ∧ (∀ x t, x < 2 → t < 12 → ¬ (x = x0 ∧ t = t0) → CK (zb o x + 2 + 11 * t) M.1 (wI Y 272 4 1).1) ∧ ∀ j, (wI Y 272 4 1).1 277 j = M.1 277 j := by
  have hz := zb_2 hI.1.1.oo hx
  have hG := hI.1.2.1 x0 hx
  obtain ⟨c1, c2, c3⟩ := stale_CIv hx hI.1 e2 (bG_mem (fun t k h1 h2 => rd _ _ (by omega)) (fun t k h1 => rd _ _ (by omega)) (fun k => rd _ _ (by omega)) (fun t h1 => by
      by_cases q : t = t0
      · rw [q]; exact hc
      · have := hG.cnt h1
        unfold tOk cI cM at this ⊢
        rw [rd _ 5 (by omega), rd _ 7 (by omega)]
        exact this) (fun t h1 => by
      by_cases q : t = t0
      · rw [q]; exact hL
      · exact tL_cg (hG.cnt h1) (fun a j q1 q2 _ => rd a j (by omega)) (hG.leg h1)) hG) (fun a j q => rd a j (by omega)) h3
  refine ⟨c1, c2, c3, fun a k q1 q2 => rdI_ne (by omega), fun x t hx' ht' hn a k q1 q2 q3 => ?_, fun j => by rw [rdI_ne (by omega), rd _ _ (by omega)]⟩
  have := zb_2 hI.1.1.oo hx'
  by_cases hxx : x = x0
  · subst hxx
    rw [rdI_ne (by omega), rd a k (by omega)]
  · have := zb_d hI.1.1.oo hx' hx hxx
    rw [rdI_ne (by omega), rd a k (by omega)]
theorem kK_iff {k q : Int32} : okK k q ↔ ¬ bdK k q := by
  unfold okK bdK
  have hk := out_in (v := k) (h := 2) (n := 3) (by omega) (by decide) (by decide) (by omega)
  constructor
  · rintro ⟨h1, h2⟩ h3
    obtain ⟨e, l⟩ := ix_of 3 (by omega) h1.1 h1.2
    rcases h3 with h3 | h3
    · exact hk.mpr h1 h3
    · rcases (show ix k = 0 ∨ ix k = 1 ∨ ix k = 2 by omega) with z | z | z
      · rw [z] at h2 e
        rw [e, if_pos (by decide)] at h3
        exact (out_in (v := q) (h := 63) (n := 64) (by omega) (by decide) (by decide) (by omega)).mpr h2 h3
      · rw [z] at h2 e
        rw [e, if_neg (by decide), if_pos (by decide)] at h3
        exact (out_in (v := q) (h := 511) (n := 512) (by omega) (by decide) (by decide) (by omega)).mpr h2 h3
      · rw [z] at h2 e
        rw [e, if_neg (by decide), if_neg (by decide)] at h3
        exact (out_in (v := q) (h := 7) (n := 8) (by omega) (by decide) (by decide) (by omega)).mpr h2 h3
  · intro h
    have h1 := hk.mp (fun z => h (Or.inl z))
    have h2 : ¬ (q < 0 ∨ (if k = 0 then (63 : Int32) else if k = 1 then 511 else 7) < q) := fun z => h (Or.inr z)
    refine ⟨h1, ?_⟩
    obtain ⟨e, l⟩ := ix_of 3 (by omega) h1.1 h1.2
    rcases (show ix k = 0 ∨ ix k = 1 ∨ ix k = 2 by omega) with z | z | z
    · rw [z] at e ⊢
      rw [e, if_pos (by decide)] at h2
      exact (out_in (v := q) (h := 63) (n := 64) (by omega) (by decide) (by decide) (by omega)).mp h2
    · rw [z] at e ⊢
      rw [e, if_neg (by decide), if_pos (by decide)] at h2
      exact (out_in (v := q) (h := 511) (n := 512) (by omega) (by decide) (by decide) (by omega)).mp h2
    · rw [z] at e ⊢
      rw [e, if_neg (by decide), if_neg (by decide)] at h2
      exact (out_in (v := q) (h := 7) (n := 8) (by omega) (by decide) (by decide) (by omega)).mp h2
theorem okK_k {k q : Int32} (h : okK k q) : okk k := by
  obtain ⟨e, l⟩ := ix_of 3 (by omega) h.1.1 h.1.2
  rcases (show ix k = 0 ∨ ix k = 1 ∨ ix k = 2 by omega) with z | z | z
  · rw [z] at e; exact Or.inl e
  · rw [z] at e; exact Or.inr (Or.inl e)
  · rw [z] at e; exact Or.inr (Or.inr e)
def bdFd (z k f : Int32) : Bool := decide (bdF z k f)
def okMd (k f : Int32) : Bool := decide (okMb k f)
def okId (k f : Int32) : Bool := decide (okIf k f)
theorem bdF_d0 : ∀ i, i < 3 → ∀ j, j < 32 → (!bdFd 0 (nI i) (nI j)) = okMd (nI i) (nI j) := by decide +kernel
theorem bdF_d1 : ∀ i, i < 3 → ∀ j, j < 32 → (!bdFd 1 (nI i) (nI j)) = (okMd (nI i) (nI j) && okId (nI i) (nI j)) := by decide +kernel
theorem bdF_0 (i : Nat) (hi : i < 3) (j : Nat) (hj : j < 32) : ¬ bdF 0 (nI i) (nI j) ↔ okMb (nI i) (nI j) := by
  have := bdF_d0 i hi j hj
  unfold bdFd okMd at this
  rw [← decide_not] at this
  exact decide_eq_decide.mp this
theorem bdF_1 (i : Nat) (hi : i < 3) (j : Nat) (hj : j < 32) : ¬ bdF 1 (nI i) (nI j) ↔ okMb (nI i) (nI j) ∧ okIf (nI i) (nI j) := by
  have := bdF_d1 i hi j hj
  unfold bdFd okMd okId at this
  rw [← decide_not, ← Bool.decide_and] at this
  exact decide_eq_decide.mp this
theorem mb_iff {o : Nat} {M : fl_M} {ν : Nat → Nat → Int32} {b t k q f : Int32} (hG : ∀ x, x < 2 → bG M.1 (zb o x)) (hS : SIv o M.1 ν) : yMb M o b t k q f ↔ yRM ν b t k q f := by
  unfold yMb yRM
  rw [badT_iff, out_in (v := f) (h := 31) (n := 32) (by omega) (by decide) (by decide) (by omega), ← kK_iff]
  have key : okT b t → okK k q → (¬ f < 0 ∧ ¬ nI 32 ≤ f) → ¬ M.1 (zb o (ix b) + 2 + 11 * ix t) 0 = 0 → ((¬ (8 : Int32) ≤ M.1 (zb o (ix b) + 2 + 11 * ix t) 7 ∧ tOwn M.1 (zb o (ix b) + 2 + 11 * ix t) k q = none ∧ okMb k f ∧ (M.1 (zb o (ix b) + 2 + 11 * ix t) 1 = 1 → okIf k f)) ↔ (¬ ν 285 (12 * ix b + ix t) = nI 8 ∧ ¬ 0 ≤ qOwn ν (12 * ix b + ix t) k q ∧ ¬ bdF (bI (ν 280 (12 * ix b + ix t) = 1)) k f)) := by
    intro h1 hk hf h2
    obtain ⟨hb, ht⟩ := okT_ix h1
    have hS0 := hS _ hb.2 _ ht.2
    obtain ⟨e1, _, _, _, e7, _, _⟩ := hS0.2 h2
    have hG0 := hG _ hb.2
    obtain ⟨c1, c2⟩ := (hG0.cnt ht.2).2
    have hr : 12 * ix b + ix t < 24 := by have := hb.2; have := ht.2; omega
    have hneg := E_neg hr hS0 (hG0.leg ht.2) (hG0.cnt ht.2) k q
    rw [e7, e1]
    have h3 : (8 : Int32) ≤ M.1 (zb o (ix b) + 2 + 11 * ix t) 7 ↔ M.1 (zb o (ix b) + 2 + 11 * ix t) 7 = nI 8 := by
      rw [c1]
      constructor
      · intro q
        rcases Nat.lt_or_ge (cM M.1 (zb o (ix b) + 2 + 11 * ix t)) 8 with z | z
        · exact absurd q (nI_ge (b := 8) z (by omega))
        · rw [show cM M.1 (zb o (ix b) + 2 + 11 * ix t) = 8 by omega]
      · intro q
        rw [q]
        exact nI_le (a := 8) (by omega) (by omega)
    have h4 : ¬ 0 ≤ qOwn ν (12 * ix b + ix t) k q ↔ tOwn M.1 (zb o (ix b) + 2 + 11 * ix t) k q = none := by rw [Int32.not_le]; exact hneg
    obtain ⟨ek, lk⟩ := ix_of 3 (by omega) hk.1.1 hk.1.2
    obtain ⟨ef, lf⟩ := ix_of 32 (by omega) hf.1 hf.2
    have h5 : ¬ bdF (bI (M.1 (zb o (ix b) + 2 + 11 * ix t) 1 = 1)) k f ↔ okMb k f ∧ (M.1 (zb o (ix b) + 2 + 11 * ix t) 1 = 1 → okIf k f) := by
      by_cases h : M.1 (zb o (ix b) + 2 + 11 * ix t) 1 = 1
      · rw [bI_t h, ek, ef, bdF_1 _ lk _ lf]
        exact ⟨fun z => ⟨z.1, fun _ => z.2⟩, fun z => ⟨z.1, z.2 h⟩⟩
      · rw [bI_f h, ek, ef, bdF_0 _ lk _ lf]
        exact ⟨fun z => ⟨z, fun z2 => absurd z2 h⟩, fun z => z.1⟩
    rw [h3, h4, h5]
  constructor
  · rintro ⟨h1, h2, h3, h4, h5⟩
    exact ⟨h1, h2, h3, by rw [E_def hS h1]; exact h4, (key h1 h2 h3 h4).mp h5⟩
  · rintro ⟨h1, h2, h3, h4, h5⟩
    rw [E_def hS h1] at h4
    exact ⟨h1, h2, h3, h4, (key h1 h2 h3 h4).mpr h5⟩
theorem op_member {o : Nat} {M A B : fl_M} (hI : INV o M) {b t k q f : Int32} (hA : A = if yMb M o b t k q f then xMb M o b t k q f else M) (hB : B = if yRM A.1 b t k q f then xRM A b t k q f else A) : (CIv o A ∧ RIv A.1 ∧ INV o B) ∧ (if yMb M o b t k q f then (xMb M o b t k q f).1 (zb o (ix b) + 2 + 11 * ix t) 7 - 1 else -1) = (if yRM A.1 b t k q f then nI (qM A.1 (12 * ix b + ix t)) else -1) := by
  by_cases hy : yMb M o b t k q f
  · rw [if_pos hy] at hA
    rw [if_pos hy, ← hA]
    obtain ⟨y1, y2, y3, y4, y5, y6, y7, y8⟩ := id hy
    obtain ⟨hb, ht⟩ := okT_ix y1
    have hG := hI.1.2.1 _ hb.2
    have hT := shBt (hI.1.1.shb hb.2) ht.2
    have hS0 := hI.2.2.2.1 _ hb.2 _ ht.2
    obtain ⟨e1, e2, e3, e5, e7, ef, em⟩ := hS0.2 y4
    have hc := hG.cnt ht.2
    have hc8 : cM M.1 (zb o (ix b) + 2 + 11 * ix t) < 8 := by
      rcases Nat.lt_or_ge (cM M.1 (zb o (ix b) + 2 + 11 * ix t)) 8 with z | z
      · exact z
      · refine absurd ?_ y5
        rw [hc.2.1]
        exact nI_le (a := 8) z (by have := hc.2.2; omega)
    unfold xMb tAdM at hA
    rw [if_pos hc8] at hA
    generalize hcc : cM M.1 (zb o (ix b) + 2 + 11 * ix t) = c at hA hc8 em
    generalize hnn : zb o (ix b) + 2 + 11 * ix t = n at *
    have rdX : ∀ a j, ¬ (a = n ∧ j = 7) → ¬ (a = n + 3 + c ∧ j < 5) → (wI (mDef M (n + 3 + c) k q f) n 7 (nI (c + 1))).1 a j = M.1 a j := fun a j h1 h2 => by
      rw [rdI_ne (by omega), rdI_ne (by omega), rdI_ne (by omega), rdI_ne (by omega), rdI_ne (by omega), rdI_ne (by omega)]
    have r7 : (wI (mDef M (n + 3 + c) k q f) n 7 (nI (c + 1))).1 n 7 = nI (c + 1) := rdI_eq
    have m0 : (wI (mDef M (n + 3 + c) k q f) n 7 (nI (c + 1))).1 (n + 3 + c) 0 = k := by rw [rdI_ne (by omega), rdI_ne (by omega), rdI_ne (by omega), rdI_ne (by omega), rdI_ne (by omega), rdI_eq]
    have m1 : (wI (mDef M (n + 3 + c) k q f) n 7 (nI (c + 1))).1 (n + 3 + c) 1 = q := by rw [rdI_ne (by omega), rdI_ne (by omega), rdI_ne (by omega), rdI_ne (by omega), rdI_eq]
    have m2 : (wI (mDef M (n + 3 + c) k q f) n 7 (nI (c + 1))).1 (n + 3 + c) 2 = f := by rw [rdI_ne (by omega), rdI_ne (by omega), rdI_ne (by omega), rdI_eq]
    have m3 : (wI (mDef M (n + 3 + c) k q f) n 7 (nI (c + 1))).1 (n + 3 + c) 3 = 0 := by rw [rdI_ne (by omega), rdI_ne (by omega), rdI_eq]
    have hX2 : (wI (mDef M (n + 3 + c) k q f) n 7 (nI (c + 1))).2 = M.2 := rfl
    generalize wI (mDef M (n + 3 + c) k q f) n 7 (nI (c + 1)) = X at hA rdX r7 m0 m1 m2 m3 hX2
    have hix : ix (nI (c + 1)) = c + 1 := ix_nI (by omega)
    have hcX : cM X.1 n = c + 1 := by show ix (X.1 n 7) = _; rw [r7, hix]
    have hrow := mem_row (Y := X) hI hb.2 ht.2 hX2
    rw [hnn] at hrow
    obtain ⟨c1, c2, c3, c4, c5, c6⟩ := hrow (fun a j h => rdX a j (by omega) (by omega)) (by
        refine ⟨?_, by rw [hcX]; exact r7, by rw [hcX]; omega⟩
        unfold cI
        rw [rdX _ 5 (by omega) (by omega)]
        exact hc.1) (by
        have hl := hG.leg ht.2
        rw [hnn] at hl
        obtain ⟨l1, l2, l3, l4, l5⟩ := hl
        unfold tL
        rw [hcX, rdX _ 0 (by omega) (by omega), rdX _ 1 (by omega) (by omega), rdX _ 2 (by omega) (by omega), rdX _ 3 (by omega) (by omega)]
        refine ⟨l1, l2, l3, fun z => absurd z y4, fun i hi => ?_⟩
        by_cases hic : i = c
        · unfold mL
          rw [hic, m0, m2, m3]
          exact ⟨okK_k y2, y7, Or.inl rfl, fun z => absurd rfl z⟩
        · have := l5 i (by rw [hcc]; omega)
          unfold mL at this ⊢
          rw [rdX _ _ (by omega) (by omega), rdX _ _ (by omega) (by omega), rdX _ _ (by omega) (by omega)]
          exact this) (fun a ha => by
        by_cases hac : a = n + 3 + c
        · rw [hac, m3]; exact Or.inl rfl
        · rw [rdX _ _ (by omega) (by omega)]; exact hI.1.2.2.1 a ha)
    rw [← hA] at c1 c2 c3 c4 c5 c6
    have hyR : yRM A.1 b t k q f := (mb_iff hI.1.2.1 (SIv_ref (fun a j _ _ => c3 a j (by omega)) hI.2.2.2.1)).mp hy
    rw [if_pos hyR] at hB
    rw [if_pos hyR]
    have hq : qM A.1 (12 * ix b + ix t) = c := by
      unfold qM
      rw [c3 _ _ (by omega), e7]
      exact hcc
    refine ⟨?_, by rw [hq, c4 n 7 (by omega) (by omega), r7, show (1 : Int32) = nI 1 by decide, pk_sub (by omega), Nat.add_sub_cancel]⟩
    unfold xRM at hB
    rw [hq] at hB
    have rB : ∀ a j, ¬ (a = 285 ∧ j = 12 * ix b + ix t) → ¬ (286 ≤ a ∧ a ≤ 289 ∧ j = 8 * (12 * ix b + ix t) + c) → B.1 a j = A.1 a j := fun a j h1 h2 => by
      rw [hB, rdI_ne (by omega), rdI_ne (by omega), rdI_ne (by omega), rdI_ne (by omega), rdI_ne (by omega)]
    have b7 : B.1 285 (12 * ix b + ix t) = nI (c + 1) := by rw [hB, rdI_eq]
    have g0 : B.1 286 (8 * (12 * ix b + ix t) + c) = k := by rw [hB, rdI_ne (by omega), rdI_ne (by omega), rdI_ne (by omega), rdI_ne (by omega), rdI_eq]
    have g1 : B.1 287 (8 * (12 * ix b + ix t) + c) = q := by rw [hB, rdI_ne (by omega), rdI_ne (by omega), rdI_ne (by omega), rdI_eq]
    have g2 : B.1 288 (8 * (12 * ix b + ix t) + c) = f := by rw [hB, rdI_ne (by omega), rdI_ne (by omega), rdI_eq]
    have g3 : B.1 289 (8 * (12 * ix b + ix t) + c) = 0 := by rw [hB, rdI_ne (by omega), rdI_eq]
    refine op_row (x0 := ix b) (t0 := ix t) hI c1 c2 c3 ⟨fun a j h => rB a j (by omega) (by omega), by rw [hB]; rfl⟩ (fun x u hx hu hn => ⟨c5 x u hx hu hn, ⟨fun a q1 q2 q3 => rB a _ (by omega) (by omega), fun i hi => rB _ _ (by omega) (by omega), fun a i q1 q2 q3 => rB _ _ (by omega) (by omega)⟩⟩) ?_ ?_ c6 (fun j => rB _ _ (by omega) (by omega))
    · rw [hnn]
      refine ⟨by rw [rB _ _ (by omega) (by omega), c3 _ _ (by omega), c4 n 0 (by omega) (by omega), rdX _ 0 (by omega) (by omega)]; exact hS0.1, fun _ => ?_⟩
      have hcA : cM A.1 n = c + 1 := by show ix (A.1 n 7) = _; rw [c4 n 7 (by omega) (by omega), r7, hix]
      have hiA : cI A.1 n = cI M.1 n := by unfold cI; rw [c4 n 5 (by omega) (by omega), rdX _ 5 (by omega) (by omega)]
      rw [hcA, hiA]
      rw [rB 280 _ (by omega) (by omega), rB 281 _ (by omega) (by omega), rB 282 _ (by omega) (by omega), rB 283 _ (by omega) (by omega), b7, c3 280 _ (by omega), c3 281 _ (by omega), c3 282 _ (by omega), c3 283 _ (by omega), c4 n 1 (by omega) (by omega), c4 n 2 (by omega) (by omega), c4 n 3 (by omega) (by omega), c4 n 5 (by omega) (by omega), c4 n 7 (by omega) (by omega), rdX _ 1 (by omega) (by omega), rdX _ 2 (by omega) (by omega), rdX _ 3 (by omega) (by omega), rdX _ 5 (by omega) (by omega), r7]
      refine ⟨e1, e2, e3, e5, rfl, fun i hi => ?_, fun i hi => ?_⟩
      · rw [c4 _ i (by omega) (by omega), rB _ _ (by omega) (by omega), c3 _ _ (by omega), rdX _ _ (by omega) (by omega)]
        exact ef i hi
      · unfold mE
        rw [c4 (n + 3 + i) 0 (by omega) (by omega), c4 (n + 3 + i) 1 (by omega) (by omega), c4 (n + 3 + i) 2 (by omega) (by omega), c4 (n + 3 + i) 3 (by omega) (by omega), c4 (n + 3 + i) 4 (by omega) (by omega)]
        by_cases hic : i = c
        · rw [hic, g0, g1, g2, g3, m0, m1, m2, m3]
          exact ⟨rfl, rfl, rfl, rfl, fun z => absurd rfl z⟩
        · have := em i (by omega)
          unfold mE at this
          rw [rB 286 _ (by omega) (by omega), rB 287 _ (by omega) (by omega), rB 288 _ (by omega) (by omega), rB 289 _ (by omega) (by omega), rB 290 _ (by omega) (by omega), c3 286 _ (by omega), c3 287 _ (by omega), c3 288 _ (by omega), c3 289 _ (by omega), c3 290 _ (by omega), rdX _ 0 (by omega) (by omega), rdX _ 1 (by omega) (by omega), rdX _ 2 (by omega) (by omega), rdX _ 3 (by omega) (by omega), rdX _ 4 (by omega) (by omega)]
          exact this
    · obtain ⟨⟨⟨a1, a2⟩, a3, a4⟩, a5, a6, a7⟩ := hI.2.2.1 _ _ hb.2 ht.2
      unfold rI rC qF qM
      rw [b7, hix, rB 279 _ (by omega) (by omega), rB 283 _ (by omega) (by omega), rB 282 _ (by omega) (by omega), c3 279 _ (by omega), c3 283 _ (by omega), c3 282 _ (by omega)]
      refine ⟨⟨⟨a1, a2⟩, rfl, by omega⟩, a5, fun hd => ⟨(a6 hd).1, fun i hi => ?_⟩, fun i hi => ?_⟩
      · rw [rB _ _ (by omega) (by omega), c3 _ _ (by omega)]
        exact (a6 hd).2 i hi
      · by_cases hic : i = c
        · rw [hic, g3]; exact Or.inl rfl
        · rw [rB _ _ (by omega) (by omega), c3 _ _ (by omega)]
          exact a7 i hi
  · have hS := hI.2.2.2.1
    rw [if_neg hy] at hA
    subst hA
    have hn := fun q => hy ((mb_iff hI.1.2.1 hS).mpr q)
    rw [if_neg hn] at hB
    rw [if_neg hy, if_neg hn, hB]
    exact ⟨op_nil hI, rfl⟩
