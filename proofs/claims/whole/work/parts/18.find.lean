/-- the listed rules and types are rules and types -/
def lOk (μ : Nat → Nat → Int32) : Prop := ∀ i, i < cz μ → inL 14 (μ 273 i) ∧ inL 12 (μ 274 i)
theorem lOk_add {M : fl_M} {r t d : Int32} (h : lOk M.1) (hr : inL 14 r) (ht : inL 12 t) (hz : zOk M.1) : lOk (cAdd M r t d).1 := by
  unfold cAdd
  split
  · rename_i h9
    have h9 : ix (M.1 272 3) < 636 := h9
    intro i hi
    have hi : i < ix (M.1 272 3) + 1 := by
      unfold cz at hi
      rw [rdI_eq, ix_nI (by omega)] at hi
      exact hi
    have e3 : (wI (wI (wI (wI M 273 (cz M.1) r) 274 (cz M.1) t) 275 (cz M.1) d) 272 3 (nI (cz M.1 + 1))).1 273 i = if i = cz M.1 then r else M.1 273 i := by
      rw [rdI_ne (Or.inl (by decide)), rdI_ne (Or.inl (by decide)), rdI_ne (Or.inl (by decide))]
      by_cases q : i = cz M.1
      · rw [if_pos q, q, rdI_eq]
      · rw [if_neg q, rdI_ne (Or.inr q)]
    have e4 : (wI (wI (wI (wI M 273 (cz M.1) r) 274 (cz M.1) t) 275 (cz M.1) d) 272 3 (nI (cz M.1 + 1))).1 274 i = if i = cz M.1 then t else M.1 274 i := by
      rw [rdI_ne (Or.inl (by decide)), rdI_ne (Or.inl (by decide))]
      by_cases q : i = cz M.1
      · rw [if_pos q, q, rdI_eq]
      · rw [if_neg q, rdI_ne (Or.inr q), rdI_ne (Or.inl (by decide))]
    rw [e3, e4]
    by_cases q : i = cz M.1
    · rw [if_pos q, if_pos q]; exact ⟨hr, ht⟩
    · rw [if_neg q, if_neg q]
      exact h i (by have : i ≠ ix (M.1 272 3) := q; show i < ix (M.1 272 3); omega)
  · exact h
theorem lOk_kept {μ μ' : Nat → Nat → Int32} (e : ∀ a k, 272 ≤ a → a ≤ 275 → μ' a k = μ a k) (h : lOk μ) : lOk μ' := by
  intro i hi
  unfold cz at hi
  rw [e 272 3 (by omega) (by omega)] at hi
  rw [e 273 i (by omega) (by omega), e 274 i (by omega) (by omega)]
  exact h i hi
theorem jhl_l {lost : Int32} {t : Int32} (ht : inL 12 t) : ∀ (k i : Nat) (M : fl_M), lOk M.1 ∧ zOk M.1 → lOk (jhl M lost t i k).1 ∧ zOk (jhl M lost t i k).1 := by
  intro k
  induction k with
  | zero => intro i M h; exact h
  | succ k ih =>
    intro i M h
    rw [jhl]
    split
    · exact ih _ _ ⟨lOk_add h.1 (by unfold inL; decide) ht h.2, cAdd_z h.2⟩
    · exact ih _ _ h
theorem jhA_l {M : fl_M} {n1 n2 : Nat} {f r t : Int32} (hr : inL 14 r) (ht : inL 12 t) (h : lOk M.1 ∧ zOk M.1) : lOk (jhA M n1 n2 f r t).1 ∧ zOk (jhA M n1 n2 f r t).1 := by
  unfold jhA
  split
  · exact ⟨lOk_add h.1 hr ht h.2, cAdd_z h.2⟩
  · exact h
theorem whM_l {M : fl_M} {b f : Nat} {k key : Int32} (hB : zSh b = zsB) (h : lOk M.1 ∧ zOk M.1) : lOk (whM M b f k key).1 ∧ zOk (whM M b f k key).1 := by
  have hb := shB2 hB
  have e : ∀ a k9, 272 ≤ a → a ≤ 275 → (whM M b f k key).1 a k9 = M.1 a k9 := fun a k9 q1 q2 => whM_rd (by omega)
  refine ⟨lOk_kept e h.1, ?_⟩
  unfold zOk cz
  rw [e 272 3 (by omega) (by omega)]
  exact h.2
theorem fpl_l {n1 b t : Nat} (hB : zSh b = zsB) : ∀ (k i : Nat) (M : fl_M), lOk M.1 ∧ zOk M.1 → lOk (fpl M n1 b t i k).1 ∧ zOk (fpl M n1 b t i k).1 := by
  intro k
  induction k with
  | zero => intro i M h; exact h
  | succ k ih => intro i M h; rw [fpl]; exact ih _ _ (whM_l hB h)
theorem joi_l {n1 r t : Nat} (hr : r < 14) (ht : t < 12) : ∀ (k i : Nat) (M : fl_M), lOk M.1 ∧ zOk M.1 → lOk (joi M n1 r t i k).1 ∧ zOk (joi M n1 r t i k).1 := by
  intro k
  induction k with
  | zero => intro i M h; exact h
  | succ k ih =>
    intro i M h
    rw [joi]
    by_cases q : (¬ (M.1 (n1 + 3 + i) 2 &&& 3) < 2) ∧ brP M r n1 i
    · rw [cIf_t q]; exact ih _ _ ⟨lOk_add h.1 (inL_nI (by omega) hr) (inL_nI (by omega) ht) h.2, cAdd_z h.2⟩
    · rw [cIf_f q]; exact ih _ _ h
theorem joo_l {n1 t c : Nat} (ht : t < 12) : ∀ (k r : Nat) (M : fl_M), r + k ≤ 14 → lOk M.1 ∧ zOk M.1 → lOk (joo M n1 t c r k).1 ∧ zOk (joo M n1 t c r k).1 := by
  intro k
  induction k with
  | zero => intro r M _ h; exact h
  | succ k ih => intro r M h1 h; rw [joo]; exact ih _ _ (by omega) (joi_l (by omega) ht _ _ _ h)
theorem jni_l {n1 n2 r t : Nat} (hr : r < 14) (ht : t < 12) : ∀ (k i : Nat) (M : fl_M), lOk M.1 ∧ zOk M.1 → lOk (jni M n1 n2 r t i k).1 ∧ zOk (jni M n1 n2 r t i k).1 := by
  intro k
  induction k with
  | zero => intro i M h; exact h
  | succ k ih =>
    intro i M h
    rw [jni]
    by_cases q : tOwn M.1 n1 (M.1 (n2 + 3 + i) 0) (M.1 (n2 + 3 + i) 1) = none ∧ bnP M r n2 i
    · rw [cIf_t q]; exact ih _ _ ⟨lOk_add h.1 (inL_nI (by omega) hr) (inL_nI (by omega) ht) h.2, cAdd_z h.2⟩
    · rw [cIf_f q]; exact ih _ _ h
theorem jno_l {n1 n2 t c : Nat} (ht : t < 12) : ∀ (k r : Nat) (M : fl_M), r + k ≤ 14 → lOk M.1 ∧ zOk M.1 → lOk (jno M n1 n2 t c r k).1 ∧ zOk (jno M n1 n2 t c r k).1 := by
  intro k
  induction k with
  | zero => intro r M _ h; exact h
  | succ k ih => intro r M h1 h; rw [jno]; exact ih _ _ (by omega) (jni_l (by omega) ht _ _ _ h)
theorem jt_l {b1 b2 t : Nat} {M : fl_M} (h1 : zSh b1 = zsB) (h2 : zSh b2 = zsB) (ht : t < 12) (h : lOk M.1 ∧ zOk M.1) : lOk (jt M b1 b2 t).1 ∧ zOk (jt M b1 b2 t).1 := by
  have h12 : inL 12 (nI t) := inL_nI (by omega) ht
  unfold jt
  split
  · exact ⟨lOk_add h.1 (by unfold inL; decide) h12 h.2, cAdd_z h.2⟩
  · split
    · exact jno_l ht _ _ _ (by omega) (fpl_l h1 _ _ _ (joo_l ht _ _ _ (by omega) (fpl_l h2 _ _ _ (jhl_l h12 _ _ _ (jhA_l (by unfold inL; decide) h12 (jhA_l (by unfold inL; decide) h12 h))))))
    · exact ⟨lOk_add h.1 (by unfold inL; decide) h12 h.2, cAdd_z h.2⟩
theorem bul_ok {o b1 b2 : Nat} (h1 : zSh b1 = zsB) (h2 : zSh b2 = zsB) (hne : b1 ≠ b2) : ∀ (k t : Nat) (M : fl_M), t + k ≤ 12 → cOk o b1 b2 M → lOk M.1 → cOk o b1 b2 (bul M b1 b2 t k) ∧ lOk (bul M b1 b2 t k).1 ∧ kept M (bul M b1 b2 t k) := by
  intro k
  induction k with
  | zero => intro t M _ h hl; exact ⟨h, hl, kept.rf⟩
  | succ k ih =>
    intro t M h9 h hl
    rw [bul]
    split
    · obtain ⟨a, b⟩ := jt_ok h1 h2 hne (t := t) (by omega) h
      obtain ⟨c, d⟩ := jt_l (M := M) h1 h2 (t := t) (by omega) ⟨hl, h.2.2.2⟩
      obtain ⟨e, f, g⟩ := ih (t + 1) _ (by omega) a c
      exact ⟨e, f, b.tr g⟩
    · exact ih (t + 1) _ (by omega) h hl
/-- what the class keeps at every time -/
def jOk (o : Nat) (M : fl_M) : Prop := zRf o M.2 ∧ (∀ x, x < 2 → bAll M.1 (zb o x)) ∧ zOk M.1 ∧ lOk M.1
theorem but_ok {o : Nat} {M : fl_M} (h : jOk o M) : jOk o (but M (zb o 0) (zb o 1)) ∧ kept M (but M (zb o 0) (zb o 1)) := by
  obtain ⟨hR, hA, hz, hl⟩ := h
  unfold but
  split
  · exact ⟨⟨hR, hA, hz, hl⟩, kept.rf⟩
  · have h1 := hR.shb (x := 0) (by decide)
    have h2 := hR.shb (x := 1) (by decide)
    have hc := cOk_go h1 h2 hR (hA 0 (by decide)) (hA 1 (by decide))
    have hl0 : lOk (wI (wI M 272 4 0) 272 3 0).1 := fun i hi => by
      unfold cz at hi
      rw [rdI_eq] at hi
      exact absurd hi (by rw [show ix 0 = 0 by decide]; omega)
    obtain ⟨a, b, c⟩ := bul_ok h1 h2 (Ne.symm (zb_ne hR)) 12 0 _ (by omega) hc hl0
    refine ⟨⟨a.1, fun x hx => ?_, a.2.2.2, b⟩, fun i k q1 q2 => (c i k q1 q2).trans (by rw [rdI_ne (Or.inl (by omega)), rdI_ne (Or.inl (by omega))])⟩
    rcases (show x = 0 ∨ x = 1 by omega) with rfl | rfl
    · exact a.2.1
    · exact a.2.2.1
set_option maxHeartbeats 4000000 in
set_option maxRecDepth 100000 in
theorem c_J_findings (l : Launch) (w : fl_W) (M : fl_M) (o : Nat) (hj : jOk o M)  : CT l y_J_findings w_J_findings rm_J_findings w zN [.ref (w.2.2 + 0)] M (some (.int ((but M (zb o 0) (zb o 1)).1 272 3))) (but M (zb o 0) (zb o 1)) := by
  refine CT.of (cc := b_J_findings) (own := "CompatibilityJudge") (by decide) rfl rfl (Nat.le_of_ble_eq_true rfl) ?_
  intro p9 e9 s9 m9 ag9 bl9 mt9 c9 K
  have hR := hj.1
  have hA := hj.2.1
  have hb9 : CT l y_C_bringUpToDate w_C_bringUpToDate rm_C_bringUpToDate w zN [.ref (w.2.2 + 272), .ref (w.2.2 + zb o 0), .ref (w.2.2 + zb o 1)] M none (but M (zb o 0) (zb o 1)) := c_C_bringUpToDate l w M (zb o 0) (zb o 1) (hR.shb (by decide)) (hR.shb (by decide)) (Ne.symm (zb_ne hR)) o hR (hA 0 (by decide)) (hA 1 (by decide))
  have hjY := (but_ok hj).1
  generalize but M (zb o 0) (zb o 1) = Y at hb9 hjY ⊢
  obtain ⟨hRY, hAY, hzY, hlY⟩ := hjY
  show XW p9 l e9 (rm_J_findings) s9 m9 ag9 bl9 mt9 c9 1 0 0 (MQ bl9 (CQ w zN (some (.int ((Y).1 272 3))) (Y)) ag9 s9 0 0 (fun q : Nat => w.2.2 ≤ q)) w zN M 0 [(0, .ref (w.2.2 + 0))] []
  refine x_aload_n (pc := 0) K 0 d_J_findings_0 rfl ?_
  refine x_getr (pc := 1) K (n := 0) (n' := 272) (k := 1) (zlt shJ) shJ rfl hR.Jc rfl (by decide) (fun _ q => zmem (uw_J _ q)) (zmem lk_J_19) d_J_findings_1 ?_
  refine x_aload_n (pc := 4) K 0 d_J_findings_4 rfl ?_
  refine x_getr (pc := 5) K (n := 0) (n' := 1) (k := 0) (zlt shJ) shJ rfl hR.Ja rfl (by decide) (fun _ q => zmem (uw_J _ q)) (zmem lk_J_12) d_J_findings_5 ?_
  refine x_iconst (pc := 8) K (v := 0) d_J_findings_8 (by decide) ?_
  refine x_aald (pc := 9) K (n := 1) (n' := zb o 0) (j := 0) (by decide) (by decide) (hR.Jb (by decide)) (zlt shA) shA rfl (by decide) d_J_findings_9 ?_
  refine x_aload_n (pc := 10) K 0 d_J_findings_10 rfl ?_
  refine x_getr (pc := 11) K (n := 0) (n' := 1) (k := 0) (zlt shJ) shJ rfl hR.Ja rfl (by decide) (fun _ q => zmem (uw_J _ q)) (zmem lk_J_12) d_J_findings_11 ?_
  refine x_iconst (pc := 14) K (v := 1) d_J_findings_14 (by decide) ?_
  refine x_aald (pc := 15) K (n := 1) (n' := zb o 1) (j := 1) (by decide) (by decide) (hR.Jb (by decide)) (zlt shA) shA rfl (by decide) d_J_findings_15 ?_
  refine x_callVv (pc := 16) K (As := [.ref (w.2.2 + (zb o 0)), .ref (w.2.2 + (zb o 1))]) (rest := []) hb9 (zcwV K.ts lk_J_132 im_C_bringUpToDate se_C_bringUpToDate ii_C co_C_bringUpToDate pd_C_bringUpToDate ⟨rfl, rfl⟩ ⟨by decide, by decide⟩) (zlt shC) shC rfl rfl rfl (Nat.le_of_ble_eq_true rfl) ⟨Nat.zero_le _, Nat.zero_le _⟩ d_J_findings_16 ?_
  refine x_aload_n (pc := 19) K 0 d_J_findings_19 rfl ?_
  refine x_getr (pc := 20) K (n := 0) (n' := 272) (k := 1) (zlt shJ) shJ rfl hRY.Jc rfl (by decide) (fun _ q => zmem (uw_J _ q)) (zmem lk_J_19) d_J_findings_20 ?_
  refine x_geti (pc := 23) K (n := 272) (k := 3) (zlt shC) shC rfl rfl (by decide) (fun _ q => zmem (uw_C _ q)) (zmem lk_J_136) d_J_findings_23 ?_
  exact x_iret (pc := 26) K (rfl) (rfl) d_J_findings_26
abbrev fi5 (μ : Nat → Nat → Int32) (i x : Int32) : Int32 := if x = nI 0 then μ 273 (ix i) else if x = nI 1 then μ 274 (ix i) else if x = nI 2 then μ 275 (ix i) else if x = nI 3 then zSV (ix (μ 273 (ix i))) else if x = nI 4 then bI (sup μ (μ 273 (ix i)) (μ 274 (ix i))) else -1
set_option maxHeartbeats 4000000 in
set_option maxRecDepth 100000 in
theorem c_J_finding (l : Launch) (w : fl_W) (M : fl_M) (o : Nat) (hj : jOk o M) (i x : Int32) : CT l y_J_finding w_J_finding rm_J_finding w zN [.ref (w.2.2 + 0), .int i, .int x] M (some (.int (if ¬ i < 0 ∧ ¬ (but M (zb o 0) (zb o 1)).1 272 3 ≤ i then fi5 (but M (zb o 0) (zb o 1)).1 i x else -1))) (but M (zb o 0) (zb o 1)) := by
  refine CT.of (cc := b_J_finding) (own := "CompatibilityJudge") (by decide) rfl rfl (Nat.le_of_ble_eq_true rfl) ?_
  intro p9 e9 s9 m9 ag9 bl9 mt9 c9 K
  have hR := hj.1
  have hA := hj.2.1
  have hb9 : CT l y_C_bringUpToDate w_C_bringUpToDate rm_C_bringUpToDate w zN [.ref (w.2.2 + 272), .ref (w.2.2 + zb o 0), .ref (w.2.2 + zb o 1)] M none (but M (zb o 0) (zb o 1)) := c_C_bringUpToDate l w M (zb o 0) (zb o 1) (hR.shb (by decide)) (hR.shb (by decide)) (Ne.symm (zb_ne hR)) o hR (hA 0 (by decide)) (hA 1 (by decide))
  have hjY := (but_ok hj).1
  generalize but M (zb o 0) (zb o 1) = Y at hb9 hjY ⊢
  obtain ⟨hRY, hAY, hzY, hlY⟩ := hjY
  show XW p9 l e9 (rm_J_finding) s9 m9 ag9 bl9 mt9 c9 5 0 0 (MQ bl9 (CQ w zN (some (.int (if ¬ i < 0 ∧ ¬ (Y).1 272 3 ≤ i then fi5 (Y).1 i x else -1))) (Y)) ag9 s9 0 0 (fun q : Nat => w.2.2 ≤ q)) w zN M 0 [(0, .ref (w.2.2 + 0)), (1, .int i), (2, .int x)] []
  refine x_aload_n (pc := 0) K 0 d_J_finding_0 rfl ?_
  refine x_getr (pc := 1) K (n := 0) (n' := 272) (k := 1) (zlt shJ) shJ rfl hR.Jc rfl (by decide) (fun _ q => zmem (uw_J _ q)) (zmem lk_J_19) d_J_finding_1 ?_
  refine x_aload_n (pc := 4) K 0 d_J_finding_4 rfl ?_
  refine x_getr (pc := 5) K (n := 0) (n' := 1) (k := 0) (zlt shJ) shJ rfl hR.Ja rfl (by decide) (fun _ q => zmem (uw_J _ q)) (zmem lk_J_12) d_J_finding_5 ?_
  refine x_iconst (pc := 8) K (v := 0) d_J_finding_8 (by decide) ?_
  refine x_aald (pc := 9) K (n := 1) (n' := zb o 0) (j := 0) (by decide) (by decide) (hR.Jb (by decide)) (zlt shA) shA rfl (by decide) d_J_finding_9 ?_
  refine x_aload_n (pc := 10) K 0 d_J_finding_10 rfl ?_
  refine x_getr (pc := 11) K (n := 0) (n' := 1) (k := 0) (zlt shJ) shJ rfl hR.Ja rfl (by decide) (fun _ q => zmem (uw_J _ q)) (zmem lk_J_12) d_J_finding_11 ?_
  refine x_iconst (pc := 14) K (v := 1) d_J_finding_14 (by decide) ?_
  refine x_aald (pc := 15) K (n := 1) (n' := zb o 1) (j := 1) (by decide) (by decide) (hR.Jb (by decide)) (zlt shA) shA rfl (by decide) d_J_finding_15 ?_
  refine x_callVv (pc := 16) K (As := [.ref (w.2.2 + (zb o 0)), .ref (w.2.2 + (zb o 1))]) (rest := []) hb9 (zcwV K.ts lk_J_132 im_C_bringUpToDate se_C_bringUpToDate ii_C co_C_bringUpToDate pd_C_bringUpToDate ⟨rfl, rfl⟩ ⟨by decide, by decide⟩) (zlt shC) shC rfl rfl rfl (Nat.le_of_ble_eq_true rfl) ⟨Nat.zero_le _, Nat.zero_le _⟩ d_J_finding_16 ?_
  refine x_iload_n (pc := 19) K 1 d_J_finding_19 rfl ?_
  refine x_aload_n (pc := 20) K 0 d_J_finding_20 rfl ?_
  refine x_getr (pc := 21) K (n := 0) (n' := 272) (k := 1) (zlt shJ) shJ rfl hRY.Jc rfl (by decide) (fun _ q => zmem (uw_J _ q)) (zmem lk_J_19) d_J_finding_21 ?_
  refine x_geti (pc := 24) K (n := 272) (k := 3) (zlt shC) shC rfl rfl (by decide) (fun _ q => zmem (uw_C _ q)) (zmem lk_J_136) d_J_finding_24 ?_
  refine x_callS (pc := 27) K (As := [.int i, .int (Y.1 272 3)]) (rest := []) (c_J_isWithin l w Y i (Y.1 272 3)) (zcwS K.ts lk_J_31 sm_J_isWithin ii_J co_J_isWithin pd_J_isWithin ⟨rfl, rfl⟩ ⟨by decide, by decide⟩) rfl rfl (Nat.le_of_ble_eq_true rfl) ⟨Nat.zero_le _, Nat.zero_le _⟩ d_J_finding_27 ?_
  refine x_ifneB (pc := 30) K (tgt := 35) d_J_finding_30 (by decide) (fun c30 => ?_) (fun c30 => ?_)
  · skip
    have hix := ix_of (cz Y.1) (by have := hzY.2; omega) c30.1 (fun z => c30.2 (by rw [hzY.1]; exact z))
    have h636 : ix i < 636 := by have := hzY.2; have := hix.2; omega
    have hlx := hlY (ix i) hix.2
    refine x_aload_n (pc := 35) K 0 d_J_finding_35 rfl ?_
    refine x_getr (pc := 36) K (n := 0) (n' := 272) (k := 1) (zlt shJ) shJ rfl hRY.Jc rfl (by decide) (fun _ q => zmem (uw_J _ q)) (zmem lk_J_19) d_J_finding_36 ?_
    refine x_getr (pc := 39) K (n := 272) (n' := 273) (k := 0) (zlt shC) shC rfl hRY.c273 rfl (by decide) (fun _ q => zmem (uw_C _ q)) (zmem lk_J_139) d_J_finding_39 ?_
    refine x_iload_n (pc := 42) K 1 d_J_finding_42 rfl ?_
    refine x_iald (pc := 43) K (n := 273) (j := ix i) hix.1 h636 (zlt sh273) sh273 rfl (by decide) d_J_finding_43 ?_
    refine x_istore_n (pc := 44) K (lv' := [(3, .int (Y.1 273 (ix i))), (0, .ref (w.2.2 + 0)), (1, .int i), (2, .int x)]) d_J_finding_44 (by decide) rfl ?_
    refine x_aload_n (pc := 45) K 1 d_J_finding_45 rfl ?_
    refine x_getr (pc := 46) K (n := 0) (n' := 272) (k := 1) (zlt shJ) shJ rfl hRY.Jc rfl (by decide) (fun _ q => zmem (uw_J _ q)) (zmem lk_J_19) d_J_finding_46 ?_
    refine x_getr (pc := 49) K (n := 272) (n' := 274) (k := 1) (zlt shC) shC rfl hRY.c274 rfl (by decide) (fun _ q => zmem (uw_C _ q)) (zmem lk_J_142) d_J_finding_49 ?_
    refine x_iload_n (pc := 52) K 2 d_J_finding_52 rfl ?_
    refine x_iald (pc := 53) K (n := 274) (j := ix i) hix.1 h636 (zlt sh274) sh274 rfl (by decide) d_J_finding_53 ?_
    refine x_istore (pc := 54) K (lv' := [(4, .int (Y.1 274 (ix i))), (3, .int (Y.1 273 (ix i))), (0, .ref (w.2.2 + 0)), (1, .int i), (2, .int x)]) d_J_finding_54 (by decide) rfl ?_
    refine x_iload_n (pc := 56) K 4 d_J_finding_56 rfl ?_
    rcases sw5 x with h57 | h57 | h57 | h57 | h57 | h57
    · skip
      refine x_tableIn (pc := 57) K (tgt := 92) d_J_finding_57 (by rw [h57]; decide) (by rw [h57]; decide) (off := 35) (by rw [h57]; decide) (by decide) ?_
      refine x_iload_n (pc := 92) K 1 d_J_finding_92 rfl ?_
      exact x_iret (pc := 93) K (by rw [if_pos c30]; unfold fi5; rw [if_pos h57]) rfl d_J_finding_93
    · skip
      refine x_tableIn (pc := 57) K (tgt := 94) d_J_finding_57 (by rw [h57]; decide) (by rw [h57]; decide) (off := 37) (by rw [h57]; decide) (by decide) ?_
      refine x_iload (pc := 94) K 0 d_J_finding_94 rfl ?_
      exact x_iret (pc := 96) K (by rw [if_pos c30]; unfold fi5; rw [if_neg (by rw [h57]; decide), if_pos h57]) rfl d_J_finding_96
    · skip
      refine x_tableIn (pc := 57) K (tgt := 97) d_J_finding_57 (by rw [h57]; decide) (by rw [h57]; decide) (off := 40) (by rw [h57]; decide) (by decide) ?_
      refine x_aload_n (pc := 97) K 2 d_J_finding_97 rfl ?_
      refine x_getr (pc := 98) K (n := 0) (n' := 272) (k := 1) (zlt shJ) shJ rfl hRY.Jc rfl (by decide) (fun _ q => zmem (uw_J _ q)) (zmem lk_J_19) d_J_finding_98 ?_
      refine x_getr (pc := 101) K (n := 272) (n' := 275) (k := 2) (zlt shC) shC rfl hRY.c275 rfl (by decide) (fun _ q => zmem (uw_C _ q)) (zmem lk_J_144) d_J_finding_101 ?_
      refine x_iload_n (pc := 104) K 3 d_J_finding_104 rfl ?_
      refine x_iald (pc := 105) K (n := 275) (j := ix i) hix.1 h636 (zlt sh275) sh275 rfl (by decide) d_J_finding_105 ?_
      exact x_iret (pc := 106) K (by rw [if_pos c30]; unfold fi5; rw [if_neg (by rw [h57]; decide), if_neg (by rw [h57]; decide), if_pos h57]) rfl d_J_finding_106
    · skip
      refine x_tableIn (pc := 57) K (tgt := 107) d_J_finding_57 (by rw [h57]; decide) (by rw [h57]; decide) (off := 50) (by rw [h57]; decide) (by decide) ?_
      refine x_SV (pc := 107) K rfl (zmem lk_J_147) d_J_finding_107 (fun t107 hT107 => ?_)
      refine x_iload_n (pc := 110) K 1 d_J_finding_110 rfl ?_
      refine x_tald (pc := 111) K (j := ix (Y.1 273 (ix i))) hT107 hlx.1.1 hlx.1.2 (by decide) d_J_finding_111 ?_
      exact x_iret (pc := 112) K (by rw [if_pos c30]; unfold fi5; rw [if_neg (by rw [h57]; decide), if_neg (by rw [h57]; decide), if_neg (by rw [h57]; decide), if_pos h57]) rfl d_J_finding_112
    · skip
      refine x_tableIn (pc := 57) K (tgt := 113) d_J_finding_57 (by rw [h57]; decide) (by rw [h57]; decide) (off := 56) (by rw [h57]; decide) (by decide) ?_
      refine x_aload_n (pc := 113) K 2 d_J_finding_113 rfl ?_
      refine x_iload_n (pc := 114) K 1 d_J_finding_114 rfl ?_
      refine x_iload (pc := 115) K 0 d_J_finding_115 rfl ?_
      refine x_callV (pc := 117) K (As := [.int (Y.1 273 (ix i)), .int (Y.1 274 (ix i))]) (rest := []) (c_J_isSuppressed l w Y o hRY (Y.1 273 (ix i)) (Y.1 274 (ix i)) hlx.1) (zcwV K.ts lk_J_122 im_J_isSuppressed se_J_isSuppressed ii_J co_J_isSuppressed pd_J_isSuppressed ⟨rfl, rfl⟩ ⟨by decide, by decide⟩) (zlt shJ) shJ rfl rfl rfl (Nat.le_of_ble_eq_true rfl) ⟨Nat.zero_le _, Nat.zero_le _⟩ d_J_finding_117 ?_
      refine x_ifeqB (pc := 120) K (tgt := 127) d_J_finding_120 (by decide) (fun c120 => ?_) (fun c120 => ?_)
      · skip
        refine x_iconst (pc := 127) K (v := 0) d_J_finding_127 (by decide) ?_
        exact x_iret (pc := 128) K (by rw [if_pos c30]; unfold fi5; rw [if_neg (by rw [h57]; decide), if_neg (by rw [h57]; decide), if_neg (by rw [h57]; decide), if_neg (by rw [h57]; decide), if_pos h57]; rw [bI_f c120]) rfl d_J_finding_128
      · skip
        refine x_iconst (pc := 123) K (v := 1) d_J_finding_123 (by decide) ?_
        refine x_goto (pc := 124) K (tgt := 128) d_J_finding_124 (by decide) ?_
        exact x_iret (pc := 128) K (by rw [if_pos c30]; unfold fi5; rw [if_neg (by rw [h57]; decide), if_neg (by rw [h57]; decide), if_neg (by rw [h57]; decide), if_neg (by rw [h57]; decide), if_pos h57]; rw [bI_t c120]) rfl d_J_finding_128
    · skip
      refine x_tableOut (pc := 57) K (tgt := 129) d_J_finding_57 h57 (by decide) ?_
      refine x_iconst (pc := 129) K (v := (-1)) d_J_finding_129 (by decide) ?_
      exact x_iret (pc := 130) K (by rw [if_pos c30]; unfold fi5; rw [if_neg (sw5_0 h57 (j := 0) (by decide)), if_neg (sw5_0 h57 (j := 1) (by decide)), if_neg (sw5_0 h57 (j := 2) (by decide)), if_neg (sw5_0 h57 (j := 3) (by decide)), if_neg (sw5_0 h57 (j := 4) (by decide))]) rfl d_J_finding_130
  · skip
    refine x_iconst (pc := 33) K (v := (-1)) d_J_finding_33 (by decide) ?_
    exact x_iret (pc := 34) K (by rw [if_neg c30]) rfl d_J_finding_34
def vdl (μ : Nat → Nat → Int32) : Nat → Nat → Int32 → Int32
  | _, 0, a => a
  | i, k + 1, a => vdl μ (i + 1) k (if sup μ (μ 273 i) (μ 274 i) then a else if a < zSV (ix (μ 273 i)) then zSV (ix (μ 273 i)) else a)
def brl (μ : Nat → Nat → Int32) (r : Int32) : Nat → Nat → Int32 → Int32
  | _, 0, a => a
  | i, k + 1, a => brl μ r (i + 1) k (if μ 273 i = r ∧ ¬ sup μ r (μ 274 i) then a + 1 else a)
set_option maxHeartbeats 4000000 in
set_option maxRecDepth 100000 in
theorem lp_J_verdict (l : Launch) (w : fl_W) (M : fl_M) (Y : fl_M) (o : Nat) (hR : zRf o Y.2) (hz : zOk Y.1) (hl : lOk Y.1) (F : Int32) {p9 : Program} {e9 : Env} {s9 : State} {m9 : MethodId} {ag9 : Array Value} {bl9 : List Frame} {mt9 : Method} {c9 : Code} (K : XC p9 s9 m9 ag9 mt9 c9 b_J_verdict 4 (some .int) w_J_verdict "CompatibilityJudge" w) : ∀ (k : Nat) (i : Nat) (a : Int32), i ≤ cz Y.1 → cz Y.1 + 1 ≤ i + k → vdl Y.1 i (cz Y.1 - i) a = F → XW p9 l e9 (rm_J_verdict) s9 m9 ag9 bl9 mt9 c9 4 0 0 (MQ bl9 (CQ w zN (some (.int F)) Y) ag9 s9 0 0 (fun q : Nat => w.2.2 ≤ q)) w zN Y 23 [(2, .int (nI i)), (1, .int a), (0, .ref (w.2.2 + 0))] [] := by
  have h6 := hz.2
  intro k
  induction k with
  | zero =>
    intro i a hi hk
    exact absurd hk (by omega)
  | succ k ih =>
    intro i a hi hk hf
    refine x_iload_n (pc := 23) K 0 d_J_verdict_23 rfl ?_
    refine x_aload_n (pc := 24) K 2 d_J_verdict_24 rfl ?_
    refine x_getr (pc := 25) K (n := 0) (n' := 272) (k := 1) (zlt shJ) shJ rfl hR.Jc rfl (by decide) (fun _ q => zmem (uw_J _ q)) (zmem lk_J_19) d_J_verdict_25 ?_
    refine x_geti (pc := 28) K (n := 272) (k := 3) (zlt shC) shC rfl rfl (by decide) (fun _ q => zmem (uw_C _ q)) (zmem lk_J_136) d_J_verdict_28 ?_
    refine x_eqi (y := nI (cz Y.1)) (hz.1) ?_
    refine x_icmp_ge (pc := 31) K (tgt := 77) d_J_verdict_31 (by decide) (fun c31 => ?_) (fun c31 => ?_)
    · skip
      have hic : i = cz Y.1 := by have := (nI_leI (by omega) (by omega)).mp c31; omega
      rw [hic, Nat.sub_self] at hf
      refine x_iload_n (pc := 77) K 1 d_J_verdict_77 rfl ?_
      exact x_iret (pc := 78) K (by subst hf; rfl) (rfl) d_J_verdict_78
    · skip
      have hic : i < cz Y.1 := Nat.not_le.mp (fun q => c31 (nI_le q (by omega)))
      rw [show cz Y.1 - i = (cz Y.1 - (i + 1)) + 1 by omega, vdl] at hf
      have hlx := hl i hic
      refine x_aload_n (pc := 34) K 2 d_J_verdict_34 rfl ?_
      refine x_getr (pc := 35) K (n := 0) (n' := 272) (k := 1) (zlt shJ) shJ rfl hR.Jc rfl (by decide) (fun _ q => zmem (uw_J _ q)) (zmem lk_J_19) d_J_verdict_35 ?_
      refine x_getr (pc := 38) K (n := 272) (n' := 273) (k := 0) (zlt shC) shC rfl hR.c273 rfl (by decide) (fun _ q => zmem (uw_C _ q)) (zmem lk_J_139) d_J_verdict_38 ?_
      refine x_iload_n (pc := 41) K 0 d_J_verdict_41 rfl ?_
      refine x_iald (pc := 42) K (n := 273) (j := i) rfl (by omega) (zlt sh273) sh273 rfl (by decide) d_J_verdict_42 ?_
      refine x_istore_n (pc := 43) K (lv' := [(3, .int (Y.1 273 i)), (2, .int (nI i)), (1, .int a), (0, .ref (w.2.2 + 0))]) d_J_verdict_43 (by decide) rfl ?_
      refine x_aload_n (pc := 44) K 3 d_J_verdict_44 rfl ?_
      refine x_iload_n (pc := 45) K 0 d_J_verdict_45 rfl ?_
      refine x_aload_n (pc := 46) K 3 d_J_verdict_46 rfl ?_
      refine x_getr (pc := 47) K (n := 0) (n' := 272) (k := 1) (zlt shJ) shJ rfl hR.Jc rfl (by decide) (fun _ q => zmem (uw_J _ q)) (zmem lk_J_19) d_J_verdict_47 ?_
      refine x_getr (pc := 50) K (n := 272) (n' := 274) (k := 1) (zlt shC) shC rfl hR.c274 rfl (by decide) (fun _ q => zmem (uw_C _ q)) (zmem lk_J_142) d_J_verdict_50 ?_
      refine x_iload_n (pc := 53) K 1 d_J_verdict_53 rfl ?_
      refine x_iald (pc := 54) K (n := 274) (j := i) rfl (by omega) (zlt sh274) sh274 rfl (by decide) d_J_verdict_54 ?_
      refine x_callV (pc := 55) K (As := [.int (Y.1 273 i), .int (Y.1 274 i)]) (rest := []) (c_J_isSuppressed l w Y o hR (Y.1 273 i) (Y.1 274 i) hlx.1) (zcwV K.ts lk_J_122 im_J_isSuppressed se_J_isSuppressed ii_J co_J_isSuppressed pd_J_isSuppressed ⟨rfl, rfl⟩ ⟨by decide, by decide⟩) (zlt shJ) shJ rfl rfl rfl (Nat.le_of_ble_eq_true rfl) ⟨Nat.zero_le _, Nat.zero_le _⟩ d_J_verdict_55 ?_
      refine x_ifneB (pc := 58) K (tgt := 71) d_J_verdict_58 (by decide) (fun c58 => ?_) (fun c58 => ?_)
      · skip
        rw [if_pos c58] at hf
        refine x_iinc (pc := 71) K (v := nI (i + 1)) (lv' := [(2, .int (nI (i + 1))), (3, .int (Y.1 273 i)), (1, .int a), (0, .ref (w.2.2 + 0))]) 1 d_J_verdict_71 rfl (nI_1 _) (by decide) rfl ?_
        refine x_goto (pc := 74) K (tgt := 23) d_J_verdict_74 (by decide) ?_
        refine x_lv [0, 2, 3] rfl ?_
        exact ih (i + 1) _ (by omega) (by omega) hf
      · skip
        rw [if_neg c58] at hf
        refine x_iload_n (pc := 61) K 2 d_J_verdict_61 rfl ?_
        refine x_SV (pc := 62) K rfl (zmem lk_J_147) d_J_verdict_62 (fun t62 hT62 => ?_)
        refine x_iload_n (pc := 65) K 0 d_J_verdict_65 rfl ?_
        refine x_tald (pc := 66) K (j := ix (Y.1 273 i)) hT62 hlx.1.1 hlx.1.2 (by decide) d_J_verdict_66 ?_
        refine x_max (pc := 67) K (zmem lk_J_150) (zmem sm_Mt_max) (zmem ii_Mt) (zmem co_Mt_max) (by decide) (Nat.le_of_ble_eq_true rfl) ⟨Nat.zero_le _, Nat.zero_le _⟩ d_J_verdict_67 ?_
        refine x_istore_n (pc := 70) K (lv' := [(1, .int (if a < zSV (ix (Y.1 273 i)) then zSV (ix (Y.1 273 i)) else a)), (3, .int (Y.1 273 i)), (2, .int (nI i)), (0, .ref (w.2.2 + 0))]) d_J_verdict_70 (by decide) rfl ?_
        refine x_iinc (pc := 71) K (v := nI (i + 1)) (lv' := [(2, .int (nI (i + 1))), (1, .int (if a < zSV (ix (Y.1 273 i)) then zSV (ix (Y.1 273 i)) else a)), (3, .int (Y.1 273 i)), (0, .ref (w.2.2 + 0))]) 2 d_J_verdict_71 rfl (nI_1 _) (by decide) rfl ?_
        refine x_goto (pc := 74) K (tgt := 23) d_J_verdict_74 (by decide) ?_
        refine x_lv [0, 1, 3] rfl ?_
        exact ih (i + 1) _ (by omega) (by omega) hf
set_option maxHeartbeats 4000000 in
set_option maxRecDepth 100000 in
theorem c_J_verdict (l : Launch) (w : fl_W) (M : fl_M) (o : Nat) (hj : jOk o M)  : CT l y_J_verdict w_J_verdict rm_J_verdict w zN [.ref (w.2.2 + 0)] M (some (.int (vdl (but M (zb o 0) (zb o 1)).1 0 (cz (but M (zb o 0) (zb o 1)).1) 0))) (but M (zb o 0) (zb o 1)) := by
  refine CT.of (cc := b_J_verdict) (own := "CompatibilityJudge") (by decide) rfl rfl (Nat.le_of_ble_eq_true rfl) ?_
  intro p9 e9 s9 m9 ag9 bl9 mt9 c9 K
  have hR := hj.1
  have hA := hj.2.1
  have hb9 : CT l y_C_bringUpToDate w_C_bringUpToDate rm_C_bringUpToDate w zN [.ref (w.2.2 + 272), .ref (w.2.2 + zb o 0), .ref (w.2.2 + zb o 1)] M none (but M (zb o 0) (zb o 1)) := c_C_bringUpToDate l w M (zb o 0) (zb o 1) (hR.shb (by decide)) (hR.shb (by decide)) (Ne.symm (zb_ne hR)) o hR (hA 0 (by decide)) (hA 1 (by decide))
  have hjY := (but_ok hj).1
  generalize but M (zb o 0) (zb o 1) = Y at hb9 hjY ⊢
  obtain ⟨hRY, hAY, hzY, hlY⟩ := hjY
  show XW p9 l e9 (rm_J_verdict) s9 m9 ag9 bl9 mt9 c9 4 0 0 (MQ bl9 (CQ w zN (some (.int (vdl (Y).1 0 (cz (Y).1) 0))) (Y)) ag9 s9 0 0 (fun q : Nat => w.2.2 ≤ q)) w zN M 0 [(0, .ref (w.2.2 + 0))] []
  refine x_aload_n (pc := 0) K 0 d_J_verdict_0 rfl ?_
  refine x_getr (pc := 1) K (n := 0) (n' := 272) (k := 1) (zlt shJ) shJ rfl hR.Jc rfl (by decide) (fun _ q => zmem (uw_J _ q)) (zmem lk_J_19) d_J_verdict_1 ?_
  refine x_aload_n (pc := 4) K 0 d_J_verdict_4 rfl ?_
  refine x_getr (pc := 5) K (n := 0) (n' := 1) (k := 0) (zlt shJ) shJ rfl hR.Ja rfl (by decide) (fun _ q => zmem (uw_J _ q)) (zmem lk_J_12) d_J_verdict_5 ?_
  refine x_iconst (pc := 8) K (v := 0) d_J_verdict_8 (by decide) ?_
  refine x_aald (pc := 9) K (n := 1) (n' := zb o 0) (j := 0) (by decide) (by decide) (hR.Jb (by decide)) (zlt shA) shA rfl (by decide) d_J_verdict_9 ?_
  refine x_aload_n (pc := 10) K 0 d_J_verdict_10 rfl ?_
  refine x_getr (pc := 11) K (n := 0) (n' := 1) (k := 0) (zlt shJ) shJ rfl hR.Ja rfl (by decide) (fun _ q => zmem (uw_J _ q)) (zmem lk_J_12) d_J_verdict_11 ?_
  refine x_iconst (pc := 14) K (v := 1) d_J_verdict_14 (by decide) ?_
  refine x_aald (pc := 15) K (n := 1) (n' := zb o 1) (j := 1) (by decide) (by decide) (hR.Jb (by decide)) (zlt shA) shA rfl (by decide) d_J_verdict_15 ?_
  refine x_callVv (pc := 16) K (As := [.ref (w.2.2 + (zb o 0)), .ref (w.2.2 + (zb o 1))]) (rest := []) hb9 (zcwV K.ts lk_J_132 im_C_bringUpToDate se_C_bringUpToDate ii_C co_C_bringUpToDate pd_C_bringUpToDate ⟨rfl, rfl⟩ ⟨by decide, by decide⟩) (zlt shC) shC rfl rfl rfl (Nat.le_of_ble_eq_true rfl) ⟨Nat.zero_le _, Nat.zero_le _⟩ d_J_verdict_16 ?_
  refine x_iconst (pc := 19) K (v := 0) d_J_verdict_19 (by decide) ?_
  refine x_istore_n (pc := 20) K (lv' := [(1, .int 0), (0, .ref (w.2.2 + 0))]) d_J_verdict_20 (by decide) rfl ?_
  refine x_iconst (pc := 21) K (v := nI 0) d_J_verdict_21 (by decide) ?_
  refine x_istore_n (pc := 22) K (lv' := [(2, .int (nI 0)), (1, .int 0), (0, .ref (w.2.2 + 0))]) d_J_verdict_22 (by decide) rfl ?_
  refine x_lv [0, 1, 2] rfl ?_
  exact lp_J_verdict l w M Y o hRY hzY hlY _ K (cz Y.1 + 1) 0 _ (by omega) (by omega) (by rw [Nat.sub_zero])
set_option maxHeartbeats 4000000 in
set_option maxRecDepth 100000 in
theorem lp_J_byRule (l : Launch) (w : fl_W) (M : fl_M) (Y : fl_M) (o : Nat) (hR : zRf o Y.2) (hz : zOk Y.1) (hl : lOk Y.1) (r : Int32) (hr : inL 14 r) (F : Int32) {p9 : Program} {e9 : Env} {s9 : State} {m9 : MethodId} {ag9 : Array Value} {bl9 : List Frame} {mt9 : Method} {c9 : Code} (K : XC p9 s9 m9 ag9 mt9 c9 b_J_byRule 4 (some .int) w_J_byRule "CompatibilityJudge" w) : ∀ (k : Nat) (i : Nat) (a : Int32), i ≤ cz Y.1 → cz Y.1 + 1 ≤ i + k → brl Y.1 r i (cz Y.1 - i) a = F → XW p9 l e9 (rm_J_byRule) s9 m9 ag9 bl9 mt9 c9 4 0 0 (MQ bl9 (CQ w zN (some (.int F)) Y) ag9 s9 0 0 (fun q : Nat => w.2.2 ≤ q)) w zN Y 34 [(3, .int (nI i)), (2, .int a), (0, .ref (w.2.2 + 0)), (1, .int r)] [] := by
  have h6 := hz.2
  intro k
  induction k with
  | zero =>
    intro i a hi hk
    exact absurd hk (by omega)
  | succ k ih =>
    intro i a hi hk hf
    refine x_iload_n (pc := 34) K 0 d_J_byRule_34 rfl ?_
    refine x_aload_n (pc := 35) K 2 d_J_byRule_35 rfl ?_
    refine x_getr (pc := 36) K (n := 0) (n' := 272) (k := 1) (zlt shJ) shJ rfl hR.Jc rfl (by decide) (fun _ q => zmem (uw_J _ q)) (zmem lk_J_19) d_J_byRule_36 ?_
    refine x_geti (pc := 39) K (n := 272) (k := 3) (zlt shC) shC rfl rfl (by decide) (fun _ q => zmem (uw_C _ q)) (zmem lk_J_136) d_J_byRule_39 ?_
    refine x_eqi (y := nI (cz Y.1)) (hz.1) ?_
    refine x_icmp_ge (pc := 42) K (tgt := 84) d_J_byRule_42 (by decide) (fun c42 => ?_) (fun c42 => ?_)
    · skip
      have hic : i = cz Y.1 := by have := (nI_leI (by omega) (by omega)).mp c42; omega
      rw [hic, Nat.sub_self] at hf
      refine x_iload_n (pc := 84) K 1 d_J_byRule_84 rfl ?_
      exact x_iret (pc := 85) K (by subst hf; rfl) (rfl) d_J_byRule_85
    · skip
      have hic : i < cz Y.1 := Nat.not_le.mp (fun q => c42 (nI_le q (by omega)))
      rw [show cz Y.1 - i = (cz Y.1 - (i + 1)) + 1 by omega, brl] at hf
      refine x_aload_n (pc := 45) K 2 d_J_byRule_45 rfl ?_
      refine x_getr (pc := 46) K (n := 0) (n' := 272) (k := 1) (zlt shJ) shJ rfl hR.Jc rfl (by decide) (fun _ q => zmem (uw_J _ q)) (zmem lk_J_19) d_J_byRule_46 ?_
      refine x_getr (pc := 49) K (n := 272) (n' := 273) (k := 0) (zlt shC) shC rfl hR.c273 rfl (by decide) (fun _ q => zmem (uw_C _ q)) (zmem lk_J_139) d_J_byRule_49 ?_
      refine x_iload_n (pc := 52) K 0 d_J_byRule_52 rfl ?_
      refine x_iald (pc := 53) K (n := 273) (j := i) rfl (by omega) (zlt sh273) sh273 rfl (by decide) d_J_byRule_53 ?_
      refine x_iload_n (pc := 54) K 3 d_J_byRule_54 rfl ?_
      refine x_icmp_ne (pc := 55) K (tgt := 78) d_J_byRule_55 (by decide) (fun c55 => ?_) (fun c55 => ?_)
      · skip
        rw [if_neg (fun q => c55 q.1)] at hf
        refine x_iinc (pc := 78) K (v := nI (i + 1)) (lv' := [(3, .int (nI (i + 1))), (2, .int a), (0, .ref (w.2.2 + 0)), (1, .int r)]) 0 d_J_byRule_78 rfl (nI_1 _) (by decide) rfl ?_
        refine x_goto (pc := 81) K (tgt := 34) d_J_byRule_81 (by decide) ?_
        refine x_lv [0, 1, 2, 3] rfl ?_
        exact ih (i + 1) _ (by omega) (by omega) hf
      · skip
        refine x_aload_n (pc := 58) K 2 d_J_byRule_58 rfl ?_
        refine x_iload_n (pc := 59) K 3 d_J_byRule_59 rfl ?_
        refine x_aload_n (pc := 60) K 2 d_J_byRule_60 rfl ?_
        refine x_getr (pc := 61) K (n := 0) (n' := 272) (k := 1) (zlt shJ) shJ rfl hR.Jc rfl (by decide) (fun _ q => zmem (uw_J _ q)) (zmem lk_J_19) d_J_byRule_61 ?_
        refine x_getr (pc := 64) K (n := 272) (n' := 274) (k := 1) (zlt shC) shC rfl hR.c274 rfl (by decide) (fun _ q => zmem (uw_C _ q)) (zmem lk_J_142) d_J_byRule_64 ?_
        refine x_iload_n (pc := 67) K 0 d_J_byRule_67 rfl ?_
        refine x_iald (pc := 68) K (n := 274) (j := i) rfl (by omega) (zlt sh274) sh274 rfl (by decide) d_J_byRule_68 ?_
        refine x_callV (pc := 69) K (As := [.int r, .int (Y.1 274 i)]) (rest := []) (c_J_isSuppressed l w Y o hR r (Y.1 274 i) hr) (zcwV K.ts lk_J_122 im_J_isSuppressed se_J_isSuppressed ii_J co_J_isSuppressed pd_J_isSuppressed ⟨rfl, rfl⟩ ⟨by decide, by decide⟩) (zlt shJ) shJ rfl rfl rfl (Nat.le_of_ble_eq_true rfl) ⟨Nat.zero_le _, Nat.zero_le _⟩ d_J_byRule_69 ?_
        refine x_ifneB (pc := 72) K (tgt := 78) d_J_byRule_72 (by decide) (fun c72 => ?_) (fun c72 => ?_)
        · skip
          rw [if_neg (fun q => q.2 c72)] at hf
          refine x_iinc (pc := 78) K (v := nI (i + 1)) (lv' := [(3, .int (nI (i + 1))), (2, .int a), (0, .ref (w.2.2 + 0)), (1, .int r)]) 0 d_J_byRule_78 rfl (nI_1 _) (by decide) rfl ?_
          refine x_goto (pc := 81) K (tgt := 34) d_J_byRule_81 (by decide) ?_
          refine x_lv [0, 1, 2, 3] rfl ?_
          exact ih (i + 1) _ (by omega) (by omega) hf
        · skip
          rw [if_pos ⟨c55, c72⟩] at hf
          refine x_iinc (pc := 75) K (v := a + 1) (lv' := [(2, .int (a + 1)), (3, .int (nI i)), (0, .ref (w.2.2 + 0)), (1, .int r)]) 1 d_J_byRule_75 rfl (rfl) (by decide) rfl ?_
          refine x_iinc (pc := 78) K (v := nI (i + 1)) (lv' := [(3, .int (nI (i + 1))), (2, .int (a + 1)), (0, .ref (w.2.2 + 0)), (1, .int r)]) 1 d_J_byRule_78 rfl (nI_1 _) (by decide) rfl ?_
          refine x_goto (pc := 81) K (tgt := 34) d_J_byRule_81 (by decide) ?_
          refine x_lv [0, 1, 2, 3] rfl ?_
          exact ih (i + 1) _ (by omega) (by omega) hf
set_option maxHeartbeats 4000000 in
set_option maxRecDepth 100000 in
theorem c_J_byRule (l : Launch) (w : fl_W) (M : fl_M) (o : Nat) (hj : jOk o M) (r : Int32) : CT l y_J_byRule w_J_byRule rm_J_byRule w zN [.ref (w.2.2 + 0), .int r] M (some (.int (if ¬ r < 0 ∧ ¬ (14 : Int32) ≤ r then brl (but M (zb o 0) (zb o 1)).1 r 0 (cz (but M (zb o 0) (zb o 1)).1) 0 else -1))) (if ¬ r < 0 ∧ ¬ (14 : Int32) ≤ r then but M (zb o 0) (zb o 1) else M) := by
  refine CT.of (cc := b_J_byRule) (own := "CompatibilityJudge") (by decide) rfl rfl (Nat.le_of_ble_eq_true rfl) ?_
  intro p9 e9 s9 m9 ag9 bl9 mt9 c9 K
  have hR := hj.1
  have hA := hj.2.1
  have hb9 : CT l y_C_bringUpToDate w_C_bringUpToDate rm_C_bringUpToDate w zN [.ref (w.2.2 + 272), .ref (w.2.2 + zb o 0), .ref (w.2.2 + zb o 1)] M none (but M (zb o 0) (zb o 1)) := c_C_bringUpToDate l w M (zb o 0) (zb o 1) (hR.shb (by decide)) (hR.shb (by decide)) (Ne.symm (zb_ne hR)) o hR (hA 0 (by decide)) (hA 1 (by decide))
  have hjY := (but_ok hj).1
  generalize but M (zb o 0) (zb o 1) = Y at hb9 hjY ⊢
  obtain ⟨hRY, hAY, hzY, hlY⟩ := hjY
  show XW p9 l e9 (rm_J_byRule) s9 m9 ag9 bl9 mt9 c9 4 0 0 (MQ bl9 (CQ w zN (some (.int (if ¬ r < 0 ∧ ¬ (14 : Int32) ≤ r then brl (Y).1 r 0 (cz (Y).1) 0 else -1))) (if ¬ r < 0 ∧ ¬ (14 : Int32) ≤ r then Y else M)) ag9 s9 0 0 (fun q : Nat => w.2.2 ≤ q)) w zN M 0 [(0, .ref (w.2.2 + 0)), (1, .int r)] []
  refine x_iload_n (pc := 0) K 1 d_J_byRule_0 rfl ?_
  refine x_bipush (pc := 1) K (v := 14) d_J_byRule_1 (by decide) ?_
  refine x_callS (pc := 3) K (As := [.int r, .int 14]) (rest := []) (c_J_isWithin l w M r 14) (zcwS K.ts lk_J_31 sm_J_isWithin ii_J co_J_isWithin pd_J_isWithin ⟨rfl, rfl⟩ ⟨by decide, by decide⟩) rfl rfl (Nat.le_of_ble_eq_true rfl) ⟨Nat.zero_le _, Nat.zero_le _⟩ d_J_byRule_3 ?_
  refine x_ifneB (pc := 6) K (tgt := 11) d_J_byRule_6 (by decide) (fun c6 => ?_) (fun c6 => ?_)
  · skip
    refine x_aload_n (pc := 11) K 0 d_J_byRule_11 rfl ?_
    refine x_getr (pc := 12) K (n := 0) (n' := 272) (k := 1) (zlt shJ) shJ rfl hR.Jc rfl (by decide) (fun _ q => zmem (uw_J _ q)) (zmem lk_J_19) d_J_byRule_12 ?_
    refine x_aload_n (pc := 15) K 0 d_J_byRule_15 rfl ?_
    refine x_getr (pc := 16) K (n := 0) (n' := 1) (k := 0) (zlt shJ) shJ rfl hR.Ja rfl (by decide) (fun _ q => zmem (uw_J _ q)) (zmem lk_J_12) d_J_byRule_16 ?_
    refine x_iconst (pc := 19) K (v := 0) d_J_byRule_19 (by decide) ?_
    refine x_aald (pc := 20) K (n := 1) (n' := zb o 0) (j := 0) (by decide) (by decide) (hR.Jb (by decide)) (zlt shA) shA rfl (by decide) d_J_byRule_20 ?_
    refine x_aload_n (pc := 21) K 0 d_J_byRule_21 rfl ?_
    refine x_getr (pc := 22) K (n := 0) (n' := 1) (k := 0) (zlt shJ) shJ rfl hR.Ja rfl (by decide) (fun _ q => zmem (uw_J _ q)) (zmem lk_J_12) d_J_byRule_22 ?_
    refine x_iconst (pc := 25) K (v := 1) d_J_byRule_25 (by decide) ?_
    refine x_aald (pc := 26) K (n := 1) (n' := zb o 1) (j := 1) (by decide) (by decide) (hR.Jb (by decide)) (zlt shA) shA rfl (by decide) d_J_byRule_26 ?_
    refine x_callVv (pc := 27) K (As := [.ref (w.2.2 + (zb o 0)), .ref (w.2.2 + (zb o 1))]) (rest := []) hb9 (zcwV K.ts lk_J_132 im_C_bringUpToDate se_C_bringUpToDate ii_C co_C_bringUpToDate pd_C_bringUpToDate ⟨rfl, rfl⟩ ⟨by decide, by decide⟩) (zlt shC) shC rfl rfl rfl (Nat.le_of_ble_eq_true rfl) ⟨Nat.zero_le _, Nat.zero_le _⟩ d_J_byRule_27 ?_
    refine x_iconst (pc := 30) K (v := 0) d_J_byRule_30 (by decide) ?_
    refine x_istore_n (pc := 31) K (lv' := [(2, .int 0), (0, .ref (w.2.2 + 0)), (1, .int r)]) d_J_byRule_31 (by decide) rfl ?_
    refine x_iconst (pc := 32) K (v := nI 0) d_J_byRule_32 (by decide) ?_
    refine x_istore_n (pc := 33) K (lv' := [(3, .int (nI 0)), (2, .int 0), (0, .ref (w.2.2 + 0)), (1, .int r)]) d_J_byRule_33 (by decide) rfl ?_
    refine x_lv [0, 1, 2, 3] rfl ?_
    rw [if_pos c6, if_pos c6]
    exact lp_J_byRule l w M Y o hRY hzY hlY r (ix_of 14 (by omega) c6.1 c6.2) _ K (cz Y.1 + 1) 0 _ (by omega) (by omega) (by rw [Nat.sub_zero])
  · skip
    refine x_iconst (pc := 9) K (v := (-1)) d_J_byRule_9 (by decide) ?_
    exact x_iret (pc := 10) K (by rw [if_neg c6]) (by rw [if_neg c6]) d_J_byRule_10
