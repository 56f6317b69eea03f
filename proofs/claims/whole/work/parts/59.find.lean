/-! FINDINGS, FINDING, VERDICT, BYRULE -/
/-- judging leaves the names from 276 on -/
def kpH (M M' : fl_M) : Prop := ∀ a k, 276 ≤ a → M'.1 a k = M.1 a k
theorem kpH.rf {M : fl_M} : kpH M M := fun _ _ _ => rfl
theorem kpH.tr {A B C : fl_M} (h : kpH A B) (g : kpH B C) : kpH A C := fun a k q => (g a k q).trans (h a k q)
theorem cAdd_h {M : fl_M} {r t d : Int32} : kpH M (cAdd M r t d) := fun a k q => cAdd_rd (Or.inr (by omega))
theorem jhA_h {M : fl_M} {n1 n2 : Nat} {f r t : Int32} : kpH M (jhA M n1 n2 f r t) := by
  unfold jhA
  split
  · exact cAdd_h
  · exact kpH.rf
theorem jhl_h {lost t : Int32} : ∀ (k i : Nat) (M : fl_M), kpH M (jhl M lost t i k) := by
  intro k
  induction k with
  | zero => intro i M; exact kpH.rf
  | succ k ih =>
    intro i M
    rw [jhl]
    split
    · exact cAdd_h.tr (ih _ _)
    · exact ih _ _
theorem fpl_h {n b t : Nat} (hB : zSh b = zsB) : ∀ (k i : Nat) (M : fl_M), kpH M (fpl M n b t i k) := by
  have hb := shB2 hB
  intro k
  induction k with
  | zero => intro i M; exact kpH.rf
  | succ k ih =>
    intro i M
    rw [fpl]
    refine kpH.tr (fun a k q => ?_) (ih _ _)
    show (whM M b t (M.1 (n + 3 + i) 0) (M.1 (n + 3 + i) 1)).1 a k = M.1 a k
    exact whM_rd (by omega)
theorem joi_h {n1 r t : Nat} : ∀ (k i : Nat) (M : fl_M), kpH M (joi M n1 r t i k) := by
  intro k
  induction k with
  | zero => intro i M; exact kpH.rf
  | succ k ih =>
    intro i M
    rw [joi]
    by_cases q : (¬ (M.1 (n1 + 3 + i) 2 &&& 3) < 2) ∧ brP M r n1 i
    · rw [cIf_t q]; exact cAdd_h.tr (ih _ _)
    · rw [cIf_f q]; exact ih _ _
theorem joo_h {n1 t c : Nat} : ∀ (k r : Nat) (M : fl_M), kpH M (joo M n1 t c r k) := by
  intro k
  induction k with
  | zero => intro r M; exact kpH.rf
  | succ k ih => intro r M; rw [joo]; exact (joi_h _ _ _).tr (ih _ _)
theorem jni_h {n1 n2 r t : Nat} : ∀ (k i : Nat) (M : fl_M), kpH M (jni M n1 n2 r t i k) := by
  intro k
  induction k with
  | zero => intro i M; exact kpH.rf
  | succ k ih =>
    intro i M
    rw [jni]
    by_cases q : tOwn M.1 n1 (M.1 (n2 + 3 + i) 0) (M.1 (n2 + 3 + i) 1) = none ∧ bnP M r n2 i
    · rw [cIf_t q]; exact cAdd_h.tr (ih _ _)
    · rw [cIf_f q]; exact ih _ _
theorem jno_h {n1 n2 t c : Nat} : ∀ (k r : Nat) (M : fl_M), kpH M (jno M n1 n2 t c r k) := by
  intro k
  induction k with
  | zero => intro r M; exact kpH.rf
  | succ k ih => intro r M; rw [jno]; exact (jni_h _ _ _).tr (ih _ _)
theorem jt_h {b1 b2 t : Nat} {M : fl_M} (h1 : zSh b1 = zsB) (h2 : zSh b2 = zsB) : kpH M (jt M b1 b2 t) := by
  unfold jt
  split
  · exact cAdd_h
  · split
    · unfold jt4
      refine kpH.tr ?_ (jno_h _ _ _)
      unfold jt3
      refine kpH.tr ?_ (fpl_h h1 _ _ _)
      unfold jt2
      refine kpH.tr ?_ (joo_h _ _ _)
      unfold jt1
      refine kpH.tr ?_ (fpl_h h2 _ _ _)
      unfold jh jhB
      exact (jhA_h.tr jhA_h).tr (jhl_h _ _ _)
    · exact cAdd_h
theorem bul_h {b1 b2 : Nat} (h1 : zSh b1 = zsB) (h2 : zSh b2 = zsB) : ∀ (k t : Nat) (M : fl_M), kpH M (bul M b1 b2 t k) := by
  intro k
  induction k with
  | zero => intro t M; exact kpH.rf
  | succ k ih =>
    intro t M
    rw [bul]
    split
    · exact (jt_h h1 h2).tr (ih _ _)
    · exact ih _ _
theorem but_h {b1 b2 : Nat} {M : fl_M} (h1 : zSh b1 = zsB) (h2 : zSh b2 = zsB) : kpH M (but M b1 b2) := by
  unfold but
  split
  · exact kpH.rf
  · exact kpH.tr (fun a k q => by rw [rdI_ne (by omega), rdI_ne (by omega)]) (bul_h h1 h2 _ _ _)
/-- the reference's judging leaves the names below 278 -/
def kpL (M M' : fl_M) : Prop := ∀ a k, a < 278 → M'.1 a k = M.1 a k
theorem kpL.rf {M : fl_M} : kpL M M := fun _ _ _ => rfl
theorem kpL.tr {A B C : fl_M} (h : kpL A B) (g : kpL B C) : kpL A C := fun a k q => (g a k q).trans (h a k q)
theorem mFd_l {M : fl_M} {b t : Nat} {k key : Int32} : kpL M (mFd M b t k key) := fun a j h => mFd_rd (by omega) (by omega)
theorem tel_l {M : fl_M} {r t : Nat} {d : Int32} : kpL M (tel M r t d) := fun a j h => by
  unfold tel te2
  rw [te3_rd (by omega) (by omega), rdI_ne (by omega), te1_rd (by omega)]
theorem mbl_l {r t : Nat} : ∀ (k i : Nat) (X : fl_M), kpL X (mbl X r t i k) := by
  intro k
  induction k with
  | zero => intro i X; exact kpL.rf
  | succ k ih =>
    intro i X
    rw [mbl]
    split
    · exact ih _ _
    · by_cases q : qBr (mFd X 1 t (X.1 286 (8 * t + i)) (X.1 287 (8 * t + i))).1 r t (8 * t + i) (vFd X 1 t (X.1 286 (8 * t + i)) (X.1 287 (8 * t + i)))
      · rw [cIf_t q]; exact (mFd_l.tr tel_l).tr (ih _ _)
      · rw [cIf_f q]; exact mFd_l.tr (ih _ _)
theorem adl_l {rl t : Nat} : ∀ (k i : Nat) (X : fl_M), kpL X (adl X rl t i k) := by
  intro k
  induction k with
  | zero => intro i X; exact kpL.rf
  | succ k ih =>
    intro i X
    rw [adl]
    split
    · exact ih _ _
    · by_cases q : qAd (mFd X 0 t (X.1 286 (8 * (12 + t) + i)) (X.1 287 (8 * (12 + t) + i))).1 rl (8 * (12 + t) + i) (vFd X 0 t (X.1 286 (8 * (12 + t) + i)) (X.1 287 (8 * (12 + t) + i)))
      · rw [cIf_t q]; exact (mFd_l.tr tel_l).tr (ih _ _)
      · rw [cIf_f q]; exact mFd_l.tr (ih _ _)
theorem jgr_l {t : Nat} : ∀ (k r : Nat) (X : fl_M), kpL X (jgr X t r k) := by
  intro k
  induction k with
  | zero => intro r X; exact kpL.rf
  | succ k ih => intro r X; rw [jgr]; exact (mbl_l _ _ _).tr (ih _ _)
theorem jgs_l {t : Nat} : ∀ (k s : Nat) (X : fl_M), kpL X (jgs X t s k) := by
  intro k
  induction k with
  | zero => intro s X; exact kpL.rf
  | succ k ih =>
    intro s X
    rw [jgs]
    split
    · exact tel_l.tr (ih _ _)
    · exact ih _ _
theorem jga_l {M : fl_M} {t r : Nat} {f : Int32} : kpL M (jga M t r f) := by
  unfold jga
  split
  · exact tel_l
  · exact kpL.rf
theorem jg_l {M : fl_M} {t : Nat} : kpL M (jg M t) := by
  unfold jg
  split
  · exact kpL.rf
  · split
    · exact tel_l
    · split
      · exact (((jga_l.tr jga_l).tr (jgs_l _ _ _)).tr (jgr_l _ _ _)).tr ((adl_l _ _ _).tr (adl_l _ _ _))
      · exact tel_l
theorem alj_l : ∀ (k t : Nat) (M : fl_M), kpL M (alj M t k) := by
  intro k
  induction k with
  | zero => intro t M; exact kpL.rf
  | succ k ih => intro t M; rw [alj]; exact jg_l.tr (ih _ _)
theorem xAl_l {M : fl_M} {d : Int32} : kpL M (xAl M d) := by
  unfold xAl
  refine kpL.tr (fun a k h => ?_) (alj_l _ _ _)
  rw [alc_rd (by omega), rdI_ne (by omega), rdI_ne (by omega), rdI_ne (by omega)]
/-- behind the class's judging: the list is fresh, and the reference tells the same list -/
theorem fresh {o : Nat} {M A : fl_M} (hI : INV o M) (hA : A = but M (zb o 0) (zb o 1)) : CIv o A ∧ Fr o A ∧ cF M A ∧ (∀ x, x < 2 → ∀ a k, zb o x ≤ a → a < zb o x + 134 → A.1 a k = M.1 a k) ∧ (∀ k, A.1 277 k = M.1 277 k) ∧ ∀ d, ∃ L : List fnT, L.length ≤ 636 ∧ (∀ e ∈ L, e.1 < 14 ∧ e.2.1 < 12) ∧ Rep A.1 L ∧ Tol (xAl A d).1 d L := by
  obtain ⟨i1, i2, i3, i4, i5⟩ := hI
  have ho := i1.1.oo
  have hB0 := i1.1.shb (x := 0) (by omega)
  have hB1 := i1.1.shb (x := 1) (by omega)
  have hH := but_h (M := M) hB0 hB1
  rw [← hA] at hH
  have hcF : cF M A := fun a k q => hH a k (by omega)
  by_cases hs : M.1 272 4 = 0
  · have e : A = M := by
      rw [hA]
      unfold but
      rw [if_pos hs]
    rw [e]
    refine ⟨i1, i2, cF.rf, fun _ _ _ _ _ _ => rfl, fun _ => rfl, fun d => ?_⟩
    rcases i2 with q | ⟨M0, h1, h2, h3, h4, h5⟩
    · exact absurd hs q
    · obtain ⟨L, l1, l2, l3, l4⟩ := JUDGE h1 h2 (fo_SIv i1.2.1 h3 i4) d
      exact ⟨L, l1, l2, Rep_cg h4 h5 l3, l4⟩
  · obtain ⟨⟨j1, j2, j3, j4⟩, jk⟩ := but_ok (o := o) (M := M) ⟨i1.1, fun x hx => (i1.2.1 x hx).1, i1.2.2.2.1, i1.2.2.2.2⟩
    rw [← hA] at j1 j2 j3 j4 jk
    have rows : ∀ x, x < 2 → ∀ a k, zb o x ≤ a → a < zb o x + 134 → A.1 a k = M.1 a k := fun x hx a k q1 q2 => by
      have := zb_2 ho hx
      exact jk a k (ne12 (by omega) (by omega) (by omega)) (by omega)
    have hC : CIv o A := ⟨j1, fun x hx => bG_fo (rows x hx) (j2 x hx).2.2 (i1.2.1 x hx), fun a ha => by rw [jk a 3 (by rw [ha]; decide) (zsM_lt ha)]; exact i1.2.2.1 a ha, j3, j4⟩
    refine ⟨hC, Or.inr ⟨M, i1, hs, fun x hx a k q1 q2 => (rows x hx a k q1 q2).symm, by rw [hA], fun a i _ _ => by rw [hA]⟩, hcF, rows, fun k => hH _ _ (by omega), fun d => ?_⟩
    obtain ⟨L, l1, l2, l3, l4⟩ := JUDGE (N := A) i1 hs (SIv_ref (fun a k q1 q2 => hcF a k (by omega)) i4) d
    rw [← hA] at l3
    exact ⟨L, l1, l2, l3, l4⟩
theorem op_all {o : Nat} {M A B : fl_M} {d : Int32} (hI : INV o M) (hA : A = but M (zb o 0) (zb o 1)) (hB : B = xAl A d) : CIv o A ∧ RIv A.1 ∧ INV o B := by
  obtain ⟨c1, c2, c3, c4, c5, _⟩ := fresh hI hA
  obtain ⟨i1, i2, i3, i4, i5⟩ := hI
  have hR : RIv A.1 := RIv_cg (fun a k q1 q2 => c3 a k (by omega)) i3
  have hS : SIv o A.1 A.1 := fo_SIv i1.2.1 c4 (SIv_ref (fun a k q1 q2 => c3 a k (by omega)) i4)
  have hk := xAl_kp (M := A) (d := d)
  have hl := xAl_l (M := A) (d := d)
  rw [← hB] at hk hl
  exact ⟨c1, hR, INV_of c1 c2 ⟨hl, hk.2⟩ (RIv_cg (fun a k q1 q2 => hk.1 a k (by omega) (by omega)) hR) (SIv_ref (fun a k q1 q2 => hk.1 a k (by omega) (by omega)) hS) (hE_cg c5 (fun k => by rw [hk.1 _ _ (by omega) (by omega), c3 _ _ (by omega)]) i5)⟩
theorem op_findings {o : Nat} {M A B : fl_M} (hI : INV o M) (hA : A = but M (zb o 0) (zb o 1)) (hB : B = xAl A (-1)) : (CIv o A ∧ RIv A.1 ∧ INV o B) ∧ A.1 272 3 = B.1 278 16 := by
  obtain ⟨L, l1, l2, l3, l4⟩ := (fresh hI hA).2.2.2.2.2 (-1)
  refine ⟨op_all hI hA hB, ?_⟩
  rw [l3.1, hB, l4.2.1]
theorem zSV_sev : ∀ r, r < 14 → zSV r = sev (nI r) := by decide +kernel
theorem L_at {L : List fnT} {i : Nat} (h : i < L.length) : ∃ e, L[i]? = some e ∧ e ∈ L := ⟨L[i], List.getElem?_eq_getElem h, List.getElem_mem h⟩
/-- what the reference needs -/
theorem find_in {o : Nat} {M A : fl_M} {i : Int32} (hI : INV o M) (hA : A = but M (zb o 0) (zb o 1)) : ¬ i < 0 → ¬ (xAl A i).1 278 16 ≤ i → inL 14 ((xAl A i).1 278 17) ∧ inL 12 ((xAl A i).1 278 18) := by
  obtain ⟨L, l1, l2, l3, l4⟩ := (fresh hI hA).2.2.2.2.2 i
  intro h0 h1
  rw [l4.2.1] at h1
  obtain ⟨ei, li⟩ := ix_of L.length (by omega) h0 h1
  obtain ⟨e, he, hm⟩ := L_at li
  obtain ⟨t1, t2, _⟩ := l4.2.2.1 (ix i) e he ei
  obtain ⟨b1, b2⟩ := l2 e hm
  rw [t1, t2]
  unfold inL
  rw [ix_nI (by omega), ix_nI (by omega)]
  exact ⟨⟨rfl, b1⟩, rfl, b2⟩
theorem hE_all {o : Nat} {M A : fl_M} {d : Int32} (hI : INV o M) (hA : A = but M (zb o 0) (zb o 1)) : hE A.1 (xAl A d).1 := by
  obtain ⟨_, _, c3, _, c5, _⟩ := fresh hI hA
  exact hE_cg c5 (fun k => by rw [(xAl_kp (M := A) (d := d)).1 _ _ (by omega) (by omega), c3 _ _ (by omega)]) hI.2.2.2.2
theorem op_finding {o : Nat} {M A B : fl_M} {i x : Int32} (hI : INV o M) (hA : A = but M (zb o 0) (zb o 1)) (hB : B = xAl A i) : (CIv o A ∧ RIv A.1 ∧ INV o B) ∧ (if ¬ i < 0 ∧ ¬ A.1 272 3 ≤ i then fi5 A.1 i x else -1) = (if ¬ i < 0 ∧ ¬ B.1 278 16 ≤ i ∧ ¬ (x < 0 ∨ (4 : Int32) < x) then rf5 B.1 x else -1) := by
  obtain ⟨L, l1, l2, l3, l4⟩ := (fresh hI hA).2.2.2.2.2 i
  have hh := hE_all (d := i) hI hA
  refine ⟨op_all hI hA hB, ?_⟩
  rw [← hB] at l4 hh
  rw [l3.1, l4.2.1]
  by_cases hi : ¬ i < 0 ∧ ¬ nI L.length ≤ i
  · obtain ⟨ei, li⟩ := ix_of L.length (by omega) hi.1 hi.2
    obtain ⟨e, he, hm⟩ := L_at li
    obtain ⟨t1, t2, t3⟩ := l4.2.2.1 (ix i) e he ei
    obtain ⟨a1, a2, a3⟩ := l3.2 (ix i) e he
    obtain ⟨b1, b2⟩ := l2 e hm
    rw [if_pos hi]
    unfold fi5 rf5
    rw [a1, a2, a3, t1, t2, t3, sup_b hh b1 b2, ix_nI (by omega), ix_nI (by omega), zSV_sev _ b1]
    rcases sw5 x with rfl | rfl | rfl | rfl | rfl | h
    · rw [if_pos rfl, if_pos ⟨hi.1, hi.2, by decide⟩, if_pos (by decide)]
    · rw [if_neg (by decide), if_pos rfl, if_pos ⟨hi.1, hi.2, by decide⟩, if_neg (by decide), if_pos (by decide)]
    · rw [if_neg (by decide), if_neg (by decide), if_pos rfl, if_pos ⟨hi.1, hi.2, by decide⟩, if_neg (by decide), if_neg (by decide), if_pos (by decide)]
    · rw [if_neg (by decide), if_neg (by decide), if_neg (by decide), if_pos rfl, if_pos ⟨hi.1, hi.2, by decide⟩, if_neg (by decide), if_neg (by decide), if_neg (by decide), if_pos (by decide)]
    · rw [if_neg (by decide), if_neg (by decide), if_neg (by decide), if_neg (by decide), if_pos rfl, if_pos ⟨hi.1, hi.2, by decide⟩, if_neg (by decide), if_neg (by decide), if_neg (by decide), if_neg (by decide)]
      rcases ((hh e.1 b1).1 e.2.1 b2).1 with q | q <;> rw [q] <;> rfl
    · have hx : x < 0 ∨ (4 : Int32) < x := by
        rw [Int32.lt_iff_toInt_lt, Int32.lt_iff_toInt_lt, show (0 : Int32).toInt = 0 from by decide, show (4 : Int32).toInt = 4 from by decide]
        exact h
      rw [if_neg (sw5_0 h (j := 0) (by omega)), if_neg (sw5_0 h (j := 1) (by omega)), if_neg (sw5_0 h (j := 2) (by omega)), if_neg (sw5_0 h (j := 3) (by omega)), if_neg (sw5_0 h (j := 4) (by omega)), if_neg (fun z => z.2.2 hx)]
  · rw [if_neg hi, if_neg (fun z => hi ⟨z.1, z.2.1⟩)]
theorem vdl_eq {μ ν : Nat → Nat → Int32} {L : List fnT} (hr : Rep μ L) (hb : ∀ e ∈ L, e.1 < 14 ∧ e.2.1 < 12) (hh : hE μ ν) : ∀ (k i : Nat) (a : Int32), i + k = L.length → vdl μ i k a = (L.drop i).foldl (wsf (ν 291)) a := by
  intro k
  induction k with
  | zero =>
    intro i a hi
    rw [List.drop_eq_nil_of_le (by omega)]
    rfl
  | succ k ih =>
    intro i a hi
    have hl : i < L.length := by omega
    rw [List.drop_eq_getElem_cons hl, List.foldl_cons, vdl, ih (i + 1) _ (by omega)]
    congr 1
    obtain ⟨b1, b2⟩ := hb _ (List.getElem_mem hl)
    obtain ⟨a1, a2, _⟩ := hr.2 i _ (List.getElem?_eq_getElem hl)
    generalize L[i] = e at a1 a2 b1 b2 ⊢
    have hs := sup_iff hh b1 b2
    unfold wsf
    rw [a1, a2]
    by_cases q : ν 291 (12 * e.1 + e.2.1) = 0
    · have hn : ¬ sup μ (nI e.1) (nI e.2.1) := fun z => hs.mp z q
      rw [if_neg hn, if_pos q, ix_nI (by omega), zSV_sev _ b1]
      by_cases z : sev (nI e.1) ≤ a
      · have z' : ¬ a < sev (nI e.1) := Int32.not_lt.mpr z
        rw [if_pos z, if_neg z']
      · have z' : a < sev (nI e.1) := Int32.not_le.mp z
        rw [if_neg z, if_pos z']
    · rw [if_pos (hs.mpr q), if_neg q]
theorem op_verdict {o : Nat} {M A B : fl_M} (hI : INV o M) (hA : A = but M (zb o 0) (zb o 1)) (hB : B = xAl A (-1)) : (CIv o A ∧ RIv A.1 ∧ INV o B) ∧ vdl A.1 0 (cz A.1) 0 = B.1 278 20 := by
  obtain ⟨L, l1, l2, l3, l4⟩ := (fresh hI hA).2.2.2.2.2 (-1)
  have hh := hE_all (d := -1) hI hA
  refine ⟨op_all hI hA hB, ?_⟩
  rw [← hB] at l4 hh
  have hz : cz A.1 = L.length := by
    unfold cz
    rw [l3.1, ix_nI (by omega)]
  rw [hz, vdl_eq l3 l2 hh L.length 0 0 (by omega), l4.2.2.2.1, List.drop_zero]
theorem brl_eq {μ ν : Nat → Nat → Int32} {L : List fnT} {r : Nat} (hr14 : r < 14) (hr : Rep μ L) (hb : ∀ e ∈ L, e.1 < 14 ∧ e.2.1 < 12) (hh : hE μ ν) : ∀ (k i : Nat) (a : Int32), i + k = L.length → brl μ (nI r) i k a = (L.drop i).foldl (ldf (ν 291) r) a := by
  intro k
  induction k with
  | zero =>
    intro i a hi
    rw [List.drop_eq_nil_of_le (by omega)]
    rfl
  | succ k ih =>
    intro i a hi
    have hl : i < L.length := by omega
    rw [List.drop_eq_getElem_cons hl, List.foldl_cons, brl, ih (i + 1) _ (by omega)]
    congr 1
    obtain ⟨b1, b2⟩ := hb _ (List.getElem_mem hl)
    obtain ⟨a1, a2, _⟩ := hr.2 i _ (List.getElem?_eq_getElem hl)
    generalize L[i] = e at a1 a2 b1 b2 ⊢
    unfold ldf
    rw [a1, a2]
    by_cases hre : e.1 = r
    · have hs := sup_iff hh b1 b2
      rw [hre] at hs
      by_cases q : ν 291 (12 * e.1 + e.2.1) = 0
      · have q' : ν 291 (12 * r + e.2.1) = 0 := by rw [← hre]; exact q
        have h1 : nI e.1 = nI r ∧ ¬ sup μ (nI r) (nI e.2.1) := ⟨by rw [hre], fun z => hs.mp z q'⟩
        rw [if_pos h1, if_pos ⟨q, hre⟩]
      · have q' : ¬ ν 291 (12 * r + e.2.1) = 0 := by rw [← hre]; exact q
        have h1 : ¬ (nI e.1 = nI r ∧ ¬ sup μ (nI r) (nI e.2.1)) := fun z => z.2 (hs.mpr q')
        rw [if_neg h1, if_neg (fun z => q z.1)]
    · have h1 : ¬ (nI e.1 = nI r ∧ ¬ sup μ (nI r) (nI e.2.1)) := fun z => hre (nI_inj (by omega) (by omega) z.1)
      rw [if_neg h1, if_neg (fun z => hre z.2)]
theorem rr_iff {r : Int32} : (¬ r < 0 ∧ ¬ (14 : Int32) ≤ r) ↔ ¬ (r < 0 ∨ (13 : Int32) < r) := (out_in (v := r) (h := 13) (n := 14) (by omega) (by decide) (by decide) (by omega)).symm
theorem op_byRule {o : Nat} {M A B : fl_M} {r : Int32} (hI : INV o M) (hA : A = if ¬ r < 0 ∧ ¬ (14 : Int32) ≤ r then but M (zb o 0) (zb o 1) else M) (hB : B = if r < 0 ∨ (13 : Int32) < r then A else xAl A (-1)) : (CIv o A ∧ RIv A.1 ∧ INV o B) ∧ (if ¬ r < 0 ∧ ¬ (14 : Int32) ≤ r then brl (but M (zb o 0) (zb o 1)).1 r 0 (cz (but M (zb o 0) (zb o 1)).1) 0 else -1) = (if r < 0 ∨ (13 : Int32) < r then -1 else (xAl A (-1)).1 294 (ix r)) := by
  by_cases h : ¬ r < 0 ∧ ¬ (14 : Int32) ≤ r
  · have hn := rr_iff.mp h
    rw [if_pos h] at hA
    rw [if_neg hn] at hB
    rw [if_pos h, if_neg hn]
    obtain ⟨er, lr⟩ := ix_of 14 (by omega) h.1 h.2
    obtain ⟨L, l1, l2, l3, l4⟩ := (fresh hI hA).2.2.2.2.2 (-1)
    have hh := hE_all (d := -1) hI hA
    refine ⟨op_all hI hA hB, ?_⟩
    rw [← hA]
    have hz : cz A.1 = L.length := by
      unfold cz
      rw [l3.1, ix_nI (by omega)]
    have hb := brl_eq lr l3 l2 hh L.length 0 0 (by omega)
    rw [← er] at hb
    rw [hz, hb, l4.2.2.2.2 _ lr, List.drop_zero]
  · have hn : r < 0 ∨ (13 : Int32) < r := Classical.not_not.mp (fun z => h (rr_iff.mpr z))
    rw [if_neg h] at hA
    rw [if_pos hn, hA] at hB
    rw [if_neg h, if_pos hn, hB, hA]
    exact ⟨op_nil hI, rfl⟩
