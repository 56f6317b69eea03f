/-! SUPPRESS, SUPERTYPES, LOOK, COUNT -/
theorem bdS_iff {r t : Int32} : ¬ bdS r t ↔ okS r t := by
  have h1 := out_in (v := r) (h := 13) (n := 14) (by omega) (by decide) (by decide) (by omega)
  have h2 := out_in (v := t) (h := 11) (n := 12) (by omega) (by decide) (by decide) (by omega)
  constructor
  · intro h
    exact ⟨h1.mp (fun q => h (Or.inl q)), h2.mp (fun q => h (Or.inr q))⟩
  · rintro ⟨a, b⟩ (q | q)
    · exact h1.mpr a q
    · exact h2.mpr b q
/-- a finding is suppressed on both sides alike -/
theorem sup_iff {μ ν : Nat → Nat → Int32} {r t : Nat} (h : hE μ ν) (hr : r < 14) (ht : t < 12) : sup μ (nI r) (nI t) ↔ ¬ ν 291 (12 * r + t) = 0 := by
  have := b_cn (x := μ 277 (ix (nI r))) (s := t) (by omega)
  rw [ix_nI (by omega)] at this
  unfold sup
  rw [ix_nI (by omega)]
  exact this.trans ((h r hr).1 t ht).2
theorem sup_b {μ ν : Nat → Nat → Int32} {r t : Nat} (h : hE μ ν) (hr : r < 14) (ht : t < 12) : bI (sup μ (nI r) (nI t)) = ν 291 (12 * r + t) := by
  have hs := sup_iff h hr ht
  rcases ((h r hr).1 t ht).1 with q | q
  · rw [q]
    exact bI_f (fun z => hs.mp z q)
  · rw [q]
    exact bI_t (hs.mpr (by rw [q]; decide))
theorem op_suppress {o : Nat} {M A B : fl_M} (hI : INV o M) {r t z : Int32} (hz : isZ z) (hA : A = if ySu M r t z then xSu M r t else M) (hB : B = if bdS r t then A else xRS A r t z) : (CIv o A ∧ RIv A.1 ∧ INV o B) ∧ (if okS r t then (if ySu M r t z then (1 : Int32) else 0) else -1) = (if bdS r t then -1 else if A.1 291 (12 * ix r + ix t) = z then 0 else 1) := by
  by_cases hy : okS r t
  · have hn : ¬ bdS r t := bdS_iff.mpr hy
    rw [if_neg hn] at hB
    rw [if_pos hy, if_neg hn]
    obtain ⟨er, lr⟩ := ix_of 14 (by omega) hy.1.1 hy.1.2
    obtain ⟨et, lt⟩ := ix_of 12 (by omega) hy.2.1 hy.2.2
    have hh := hI.2.2.2.2
    obtain ⟨h1, h2⟩ := hh (ix r) lr
    obtain ⟨z1, b1⟩ := h1 (ix t) lt
    have hsb : bI (sup M.1 r t) = M.1 291 (12 * ix r + ix t) := by
      have := sup_b hh lr lt
      rwa [← er, ← et] at this
    have hyy : ySu M r t z ↔ ¬ M.1 291 (12 * ix r + ix t) = z := by
      constructor
      · intro q
        have := q.2
        rwa [hsb] at this
      · intro q
        exact ⟨hy, by rwa [hsb]⟩
    have rA : ∀ a k, a ≠ 277 → A.1 a k = M.1 a k := fun a k q => by
      rw [hA]
      split
      · exact rdI_ne (Or.inl q)
      · rfl
    have e2 : A.2 = M.2 := by
      rw [hA]
      split <;> rfl
    have rB : ∀ a k, a ≠ 291 → B.1 a k = A.1 a k := fun a k q => by
      rw [hB]
      exact rdI_ne (Or.inl q)
    have b2 : B.2 = A.2 := by rw [hB]; rfl
    have bb : ∀ k, B.1 291 k = if k = 12 * ix r + ix t then z else M.1 291 k := fun k => by
      rw [hB]
      unfold xRS
      by_cases q : k = 12 * ix r + ix t
      · rw [if_pos q, q, rdI_eq]
      · rw [if_neg q, rdI_ne (Or.inr q), rA _ _ (by omega)]
    have a7 : ∀ u, ¬ (u = ix r ∧ ySu M r t z) → A.1 277 u = M.1 277 u := fun u q => by
      rw [hA]
      split
      · rename_i w
        exact rdI_ne (Or.inr (fun v => q ⟨v, w⟩))
      · rfl
    have hC : CIv o A := CIv_cg (fun a k q => rA a k (by omega)) e2 hI.1
    refine ⟨⟨hC, RIv_cg (fun a k q1 q2 => rA a k (by omega)) hI.2.2.1, INV_of hC (Fr_cg hI.1.1.oo (fun a k q => rA a k (by omega)) hI.2.1) ⟨fun a k q => rB a k (by omega), b2⟩ (RIv_cg (fun a k q1 q2 => by rw [rB a k (by omega), rA a k (by omega)]) hI.2.2.1) (SIv_ref (fun a k q1 q2 => by rw [rB a k (by omega), rA a k (by omega)]) (SIv_cls hI.1.1.oo hI.1.2.1 (fun a k q => rA a k (by omega)) hI.2.2.2.1)) ?_⟩, ?_⟩
    · intro u hu
      by_cases hur : u = ix r ∧ ySu M r t z
      · obtain ⟨hu1, hyt⟩ := hur
        rw [hu1]
        have e7 : A.1 277 (ix r) = M.1 277 (ix r) ^^^ 1 <<< (t &&& 31) := by
          rw [hA, if_pos hyt]
          exact rdI_eq
        have hb : ∀ i, i < 32 → bt (A.1 277 (ix r)) i = (bt (M.1 277 (ix r)) i ^^ decide (i = ix t)) := fun i hi => by
          have e1 := b_one (d := ix t) (i := i) (by omega) hi
          rw [← et] at e1
          rw [e7, b_xor, e1]
        refine ⟨fun v hv => ?_, fun i hi => ?_⟩
        · obtain ⟨zv, bv⟩ := h1 v hv
          rw [bb, hb v (by omega)]
          by_cases hvt : v = ix t
          · have hd : decide (ix t = ix t) = true := decide_eq_true rfl
            rw [hvt, if_pos rfl, hd]
            refine ⟨hz, ?_⟩
            have hne := hyy.mp hyt
            rcases z1 with q | q <;> rcases hz with w | w
            · exact absurd (q.trans w.symm) hne
            · have : bt (M.1 277 (ix r)) (ix t) = false := by
                rcases hv9 : bt (M.1 277 (ix r)) (ix t) with _ | _
                · rfl
                · exact absurd q (b1.mp hv9)
              rw [this, w]
              decide
            · have : bt (M.1 277 (ix r)) (ix t) = true := b1.mpr (by rw [q]; decide)
              rw [this, w]
              decide
            · exact absurd (q.trans w.symm) hne
          · rw [if_neg (by omega), decide_eq_false hvt, Bool.xor_false]
            exact ⟨zv, bv⟩
        · by_cases h32 : i < 32
          · rw [hb i h32, h2 i hi, decide_eq_false (show ¬ i = ix t by omega)]
            rfl
          · exact b_big (by omega)
      · rw [a7 u hur]
        refine ⟨fun v hv => ?_, (hh u hu).2⟩
        rw [bb]
        by_cases hq : 12 * u + v = 12 * ix r + ix t
        · have hw : u = ix r ∧ v = ix t := by omega
          rw [if_pos hq]
          have e := Classical.not_not.mp (fun q => hur ⟨hw.1, hyy.mpr q⟩)
          rw [← e, hw.1, hw.2]
          exact ⟨z1, b1⟩
        · rw [if_neg hq]
          exact (hh u hu).1 v hv
    · rw [rA _ _ (by omega)]
      by_cases hyt : ySu M r t z
      · rw [if_pos hyt, if_neg (hyy.mp hyt)]
      · rw [if_neg hyt, if_pos (Classical.not_not.mp (fun q => hyt (hyy.mpr q)))]
  · have hn : bdS r t := Classical.not_not.mp (fun q => hy (bdS_iff.mp q))
    have hn2 : ¬ ySu M r t z := fun q => hy q.1
    rw [if_neg hn2] at hA
    rw [if_pos hn, hA] at hB
    rw [if_neg hy, if_pos hn, hB, hA]
    exact ⟨op_nil hI, rfl⟩
theorem op_supertypes {o : Nat} {M : fl_M} (hI : INV o M) {b t : Int32} : (if okT b t then M.1 (zb o (ix b) + 2 + 11 * ix t) 9 else -1) = (if badT b t then -1 else qSet M.1 (ix b) (ix t)) := by
  by_cases h : okT b t
  · rw [if_pos h, if_neg (badT_iff.mpr h)]
    obtain ⟨hb, ht⟩ := okT_ix h
    exact (E_set (hI.2.2.2.1 _ hb.2) (hI.1.2.1 _ hb.2) ht.2).symm
  · rw [if_neg h, if_pos (Classical.not_not.mp (fun q => h (badT_iff.mp q)))]
/-- only scratch rows have changed -/
theorem fo_CIv {o : Nat} {M A : fl_M} (h : CIv o M) (e2 : zRf o A.2) (e : ∀ a k, a < 276 → a ≠ 136 → a ≠ 271 → A.1 a k = M.1 a k) (hf : ∀ x, x < 2 → foOk A.1 (zb o x)) : CIv o A := by
  obtain ⟨h1, h2, h3, h4, h5⟩ := h
  refine ⟨e2, fun x hx => ?_, fun a ha => ?_, ?_, ?_⟩
  · have := zb_2 h1.oo hx
    exact bG_fo (fun a k q1 q2 => e a k (by omega) (by omega) (by omega)) (hf x hx) (h2 x hx)
  · have hl := zsM_lt ha
    rw [e a 3 (by omega) (by rintro rfl; exact absurd ha (by decide +kernel)) (by rintro rfl; exact absurd ha (by decide +kernel))]
    exact h3 a ha
  · unfold zOk cz
    rw [e _ _ (by omega) (by omega) (by omega)]
    exact h4
  · exact lOk_kept (fun a k q1 q2 => e a k (by omega) (by omega) (by omega)) h5
theorem fo_Fr {o : Nat} {M A : fl_M} (ho : o = 2 ∨ o = 137) (e : ∀ a k, a < 276 → a ≠ 136 → a ≠ 271 → A.1 a k = M.1 a k) (h : Fr o M) : Fr o A := by
  rcases h with h | ⟨M0, h1, h2, h3, h4, h5⟩
  · exact Or.inl (by rw [e _ _ (by omega) (by omega) (by omega)]; exact h)
  · refine Or.inr ⟨M0, h1, h2, fun x hx a k q1 q2 => ?_, by rw [e _ _ (by omega) (by omega) (by omega)]; exact h4, fun a i q1 q2 => by rw [e _ _ (by omega) (by omega) (by omega)]; exact h5 a i q1 q2⟩
    have := zb_2 ho hx
    rw [e _ _ (by omega) (by omega) (by omega)]
    exact h3 x hx a k q1 q2
theorem fo_SIv {o : Nat} {μ μ' ν : Nat → Nat → Int32} (hG : ∀ x, x < 2 → bG μ (zb o x)) (e : ∀ x, x < 2 → ∀ a k, zb o x ≤ a → a < zb o x + 134 → μ' a k = μ a k) (h : SIv o μ ν) : SIv o μ' ν := by
  intro x hx t ht
  exact rE_cg ((hG x hx).cnt ht) (fun a k h1 h2 _ => e x hx a k (by omega) (by omega)) RK.rf (h x hx t ht)
theorem op_look {o : Nat} {M A B : fl_M} (hI : INV o M) {b t k q : Int32} (hA : A = if okT b t ∧ okK k q then whM M (zb o (ix b)) (ix t) k q else M) (hB : B = if badT b t ∨ bdK k q then A else mFd A (ix b) (ix t) k q) : (CIv o A ∧ RIv A.1 ∧ INV o B) ∧ (if okT b t ∧ okK k q then whr M (zb o (ix b)) (ix t) k q else -1) = (if badT b t ∨ bdK k q then -1 else vLk A (ix b) (ix t) k q) := by
  by_cases hy : okT b t ∧ okK k q
  · have hn : ¬ (badT b t ∨ bdK k q) := by
      rintro (z | z)
      · exact badT_iff.mpr hy.1 z
      · exact (kK_iff.mp hy.2) z
    rw [if_pos hy] at hA
    rw [if_neg hn] at hB
    rw [if_pos hy, if_neg hn]
    obtain ⟨hb, ht⟩ := okT_ix hy.1
    have hz := zb_2 hI.1.1.oo hb.2
    have eA : ∀ a j, a ≠ 136 → a ≠ 271 → A.1 a j = M.1 a j := fun a j q1 q2 => by
      rw [hA]
      exact whM_rd (by omega)
    have eA2 : A.2 = M.2 := by
      rw [hA]
      exact whM_2
    have hf : ∀ x, x < 2 → foOk A.1 (zb o x) := by
      intro x hx
      rw [hA]
      by_cases hxb : x = ix b
      · rw [hxb]
        exact (whM_all ht.2 (hI.1.2.1 _ hb.2).1).2.2
      · have hd := zb_d hI.1.1.oo hx hb.2 hxb
        exact (whM_oth (hI.1.1.shb hb.2) (hI.1.1.shb hx) (by omega) (hI.1.2.1 _ hx).1).2.2
    have hC : CIv o A := fo_CIv hI.1 (by rw [eA2]; exact hI.1.1) (fun a j _ q2 q3 => eA a j q2 q3) hf
    have hF : Fr o A := fo_Fr hI.1.1.oo (fun a j _ q2 q3 => eA a j q2 q3) hI.2.1
    have hR : RIv A.1 := RIv_cg (fun a j q1 q2 => eA a j (by omega) (by omega)) hI.2.2.1
    have hSM : SIv o M.1 A.1 := SIv_ref (fun a j q1 q2 => eA a j (by omega) (by omega)) hI.2.2.2.1
    have hS : SIv o A.1 A.1 := fo_SIv hI.1.2.1 (fun x hx a j q1 q2 => by
      have := zb_2 hI.1.1.oo hx
      exact eA a j (by omega) (by omega)) hSM
    have rB : ∀ a j, a ≠ 292 → a ≠ 293 → B.1 a j = A.1 a j := fun a j q1 q2 => by
      rw [hB]
      exact mFd_rd q1 q2
    refine ⟨⟨hC, hR, INV_of hC hF ⟨fun a j q1 => rB a j (by omega) (by omega), by rw [hB]; exact mFd_2⟩ (RIv_cg (fun a j q1 q2 => rB a j (by omega) (by omega)) hR) (SIv_ref (fun a j q1 q2 => rB a j (by omega) (by omega)) hS) (hE_cg (fun j => eA _ _ (by omega) (by omega)) (fun j => by rw [rB _ _ (by omega) (by omega), eA _ _ (by omega) (by omega)]) hI.2.2.2.2)⟩, ?_⟩
    exact look_eq hb.2 (hSM _ hb.2) (hI.1.2.1 _ hb.2) ht.2 (okK_k hy.2)
  · have hn : badT b t ∨ bdK k q := by
      by_cases h1 : okT b t
      · exact Or.inr (Classical.not_not.mp (fun z => hy ⟨h1, kK_iff.mpr z⟩))
      · exact Or.inl (Classical.not_not.mp (fun z => h1 (badT_iff.mp z)))
    rw [if_neg hy] at hA
    rw [if_pos hn, hA] at hB
    rw [if_neg hy, if_pos hn, hB, hA]
    exact ⟨op_nil hI, rfl⟩
theorem c_R_count (l : Launch) (w : fl_W) (M : fl_M) (o : Nat) (hR : zRf o M.2) (x : Int32) : CT l y_R_count w_R_count rm_R_count w zN [.ref (w.2.2 + 278), .int x] M (some (.int (if x = nI 0 then vCn M.1 0 else if x = nI 1 then vCn M.1 1 else if x = nI 2 then vCn M.1 2 else if x = nI 3 then vCn M.1 3 else if x = nI 4 then vCn M.1 4 else -1))) M := by
  rcases sw5 x with rfl | rfl | rfl | rfl | rfl | h
  · rw [if_pos rfl]
    exact c_R_countN l w M o hR 0 (by omega)
  · rw [if_neg (by decide), if_pos rfl]
    exact c_R_countN l w M o hR 1 (by omega)
  · rw [if_neg (by decide), if_neg (by decide), if_pos rfl]
    exact c_R_countN l w M o hR 2 (by omega)
  · rw [if_neg (by decide), if_neg (by decide), if_neg (by decide), if_pos rfl]
    exact c_R_countN l w M o hR 3 (by omega)
  · rw [if_neg (by decide), if_neg (by decide), if_neg (by decide), if_neg (by decide), if_pos rfl]
    exact c_R_countN l w M o hR 4 (by omega)
  · rw [if_neg (sw5_0 h (j := 0) (by omega)), if_neg (sw5_0 h (j := 1) (by omega)), if_neg (sw5_0 h (j := 2) (by omega)), if_neg (sw5_0 h (j := 3) (by omega)), if_neg (sw5_0 h (j := 4) (by omega))]
    refine c_R_countX l w M o hR x ?_
    rw [Int32.lt_iff_toInt_lt, Int32.lt_iff_toInt_lt, show (0 : Int32).toInt = 0 from by decide, show (4 : Int32).toInt = 4 from by decide]
    exact h
theorem op_count {o : Nat} {M : fl_M} (hI : INV o M) {x : Int32} : (if x = nI 0 then tct M.1 (zb o 0) 0 12 0 else if x = nI 1 then tct M.1 (zb o 1) 0 12 0 else if x = nI 2 then mct M.1 (zb o 0) 0 12 0 else if x = nI 3 then mct M.1 (zb o 1) 0 12 0 else if x = nI 4 then scl M.1 0 14 0 else -1) = (if x = nI 0 then vCn M.1 0 else if x = nI 1 then vCn M.1 1 else if x = nI 2 then vCn M.1 2 else if x = nI 3 then vCn M.1 3 else if x = nI 4 then vCn M.1 4 else -1) := by
  obtain ⟨h1, h2, h3⟩ := cnt_eq hI.1.2.1 hI.2.2.2.1 hI.2.2.2.2
  have e2 := h2 0 (by omega)
  have e3 := h2 1 (by omega)
  rw [Nat.add_zero] at e2
  rw [show 2 + 1 = 3 from rfl] at e3
  rw [h1 0 (by omega), h1 1 (by omega), e2, e3, h3]
