/-! THE CLAIM OUT OF ONE WALK OF THE LAW'S BODY. Your part is whole_start (and what it stands on); all else here is the same for every law, but numbers. -/
def R_law : String := "CompatibilityJudgeLaw"
def lw_P (b : Addr) (xs : List Int32) (args : Array Value) (s : State) : Prop := args = #[.ref b] ∧ s.IntsAt b xs ∧ xs.length ≤ 3072 ∧ (Jvm.Cond.and given_1 narrow_1).before args s = true
def lw_Q (_ : Array Value) (s : State) (o : Outcome) (t : State) : Prop := o = .returned (some (.int 1)) ∧ Framed s o t [] 600000 7302250
def lw_Z (below : List Frame) (a : Array Value) (s : State) : State → Prop := fun t => ∃ o, t.status = .running ∧ Ended t below o ∧ lw_Q a s o t
/-- the law's own end, with 1 on the stack, nothing written that was there before, its room as the claim has it -/
theorem lw_ret {p : Program} {l : Launch} {e : Env} {s : State} {m : MethodId} {below : List Frame} {meth : Method} {c : Code} {b : Nat} (hx : p.tables.exec = Jvm.exec) (hb : c.code = code) (hr : meth.sig.returnType = ret) (hlocks : meth.locks = false) {pc : Nat} {H : Heap} {ls : Array Slot} (hdg : decode code pc = .ok (.ireturn, 1)) : W p l e room_1 s m #[Value.ref b] below meth c H [] 600000 7302250 (lw_Z below #[Value.ref b] s) (F0 m pc ls [.int 1]) := by
  intro T hT X
  obtain ⟨fs, hret, hrun, hended, hW, hframe⟩ := X.leave (v := some (.int 1)) (hlocks := hlocks) (fun h => by rw [hr] at h; cases h)
  have hmeth' : T.vm.method? m = some meth := X.method'
  refine ⟨T.setFrames fs, ?_, .returned (some (.int 1)), hrun, hended, rfl, ⟨_, rfl⟩, hW, hframe⟩
  jvm_step X.here [X.here.top, hx, hb, hdg, hmeth', hr, ret, narrow_b1]
  (try refine ⟨rfl, ?_⟩); (try refine ⟨rfl, ?_⟩)
  first | (intro acts; rw [hret _ acts rfl rfl rfl]) | rw [hret _ _ rfl rfl rfl]
  exact Steps.refl _
/-- what holds at the law's entry: the machine, the code, the tables' words (any of lw_tbl by 'hts w (by decide +kernel)'), the script of L ints xs at the cell b, what the Statement gives of the start (any of its parts by flat_of_before) -/
def lw_At (p : Program) (s : State) (m : MethodId) (meth : Method) (c : Code) (b L : Nat) (xs : Nat → Int32) : Prop :=
  p.tables.exec = Jvm.exec ∧ c.code = code ∧ meth.sig.returnType = ret ∧ c.maxLocals = 4 ∧ s.vm.findClass R_law = some m.cls ∧ (∀ w ∈ lw_tbl, w.before #[Value.ref b] s = true) ∧ va_X b L xs s s.heap ∧ b < s.heap.size ∧ meth.locks = false ∧ (Jvm.Cond.and given_1 narrow_1).before #[Value.ref b] s = true
theorem and15 (x : Int32) : ∃ j, j < 16 ∧ x &&& 15 = nI j := by
  have h15 : ∀ i, i < 32 → 4 ≤ i → bt 15 i = false := by decide +kernel
  refine ⟨(x &&& 15).toBitVec.toNat, ?_, ?_⟩
  · have : (x &&& 15).toBitVec.toNat < 2 ^ 4 := Nat.lt_pow_two_of_testBit _ (fun i hi => by
      have e : bt (x &&& 15) i = false := by
        by_cases h32 : i < 32
        · rw [b_and, h15 i h32 hi, Bool.and_false]
        · exact b_big (by omega)
      unfold bt at e
      rwa [BitVec.getLsbD] at e)
    exact this
  · apply Int32.toBitVec_inj.mp
    show (x &&& 15).toBitVec = BitVec.ofNat 32 (x &&& 15).toBitVec.toNat
    rw [BitVec.ofNat_toNat, BitVec.setWidth_eq]
theorem go6_0 : ∀ L, L < 6 → ∀ i, i < 6 → nI L - 6 < nI i := by decide +kernel
theorem go6 {i L : Nat} (hi : i ≤ L) (hL : L < 2 ^ 30) (c : ¬ (nI L - 6 < nI i)) : i + 6 ≤ L := by
  rcases Nat.lt_or_ge L 6 with q | q
  · exact absurd (go6_0 L q i (by omega)) c
  · have e : nI L - 6 = nI (L - 6) := by
      rw [show (6 : Int32) = nI 6 by decide]
      exact pk_sub (by omega)
    rw [e] at c
    rcases Nat.lt_or_ge L (i + 6) with z | z
    · exact absurd ((nI_ltI (by omega) (by omega)).mpr (by omega)) c
    · exact z
set_option maxHeartbeats 4000000 in
set_option maxRecDepth 100000 in
theorem law_loop {p : Program} {l : Launch} {e : Env} {s : State} {m : MethodId} {below : List Frame} {meth : Method} {c : Code} {w : fl_W} {b L : Nat} {xs : Nat → Int32} (K : XC p s m #[Value.ref b] meth c code 4 ret (Cond.initialized "CompatibilityJudgeLaw" :: zG) "CompatibilityJudgeLaw" w) (hX : va_X b L xs s s.heap) (hbl : b < s.heap.size) (hws : w.2.2 = s.heap.size) (hL : L < 2 ^ 30) : ∀ (k i o : Nat) (M : fl_M), i ≤ L → L + 1 ≤ i + k → INV o M → XW p l e room_1 s m #[Value.ref b] below meth c 4 295 4897 (lw_Z below #[Value.ref b] s) w zN M 18 [(3, .int (nI i)), (2, .ref (w.2.2 + 278)), (1, .ref (w.2.2 + 0)), (0, .ref b)] [] := by
  have hwb : ¬ w.2.2 ≤ b := by omega
  intro k
  induction k with
  | zero => intro i o M h1 h2; omega
  | succ k ih =>
    intro i o M h1 h2 hI
    refine x_iload_n (pc := 18) K 0 d_L_law_18 rfl ?_
    refine x_aload_n (pc := 19) K 3 d_L_law_19 rfl ?_
    refine x_slen (pc := 20) K hX hbl hwb d_L_law_20 ?_
    refine x_bipush (pc := 21) K (v := 6) d_L_law_21 (by decide) ?_
    refine x_isub (pc := 23) K d_L_law_23 ?_
    refine x_icmp_gt (pc := 24) K (tgt := 690) d_L_law_24 (by decide) (fun c24 => ?_) (fun c24 => ?_)
    · refine x_iconst (pc := 690) K (v := 1) d_L_law_690 (by decide) ?_
      intro H locs ls hP hS hl
      exact va_forget (fun q hq => by rw [← hws]; exact hS.2.2 q hq) (W.widen (by decide) (by decide) (lw_ret K.x K.b K.rt K.lk d_L_law_691))
    · have hi6 := go6 h1 hL c24
      have nxt : ∀ (o9 : Nat) (B9 : fl_M), INV o9 B9 → XW p l e room_1 s m #[Value.ref b] below meth c 4 295 4897 (lw_Z below #[Value.ref b] s) w zN B9 684 [(3, .int (nI i)), (2, .ref (w.2.2 + 278)), (1, .ref (w.2.2 + 0)), (0, .ref b)] [] := fun o9 B9 h9 => by
        refine x_iinc (pc := 684) K 0 (v := nI (i + 6)) (lv' := [(3, .int (nI (i + 6))), (2, .ref (w.2.2 + 278)), (1, .ref (w.2.2 + 0)), (0, .ref b)]) d_L_law_684 rfl (by rw [show Int32.ofInt 6 = nI 6 by decide]; exact nI_add i 6) (by decide) rfl ?_
        refine x_goto (pc := 687) K (tgt := 18) d_L_law_687 (by decide) ?_
        exact ih (i + 6) o9 B9 hi6 (by omega) h9
      refine x_aload_n (pc := 27) K 3 d_L_law_27 rfl ?_
      refine x_iload_n (pc := 28) K 0 d_L_law_28 rfl ?_
      refine x_sld (pc := 29) K hX hbl hwb (j := i) rfl (by omega) (by omega) d_L_law_29 ?_
      refine x_bipush (pc := 30) K (v := 15) d_L_law_30 (by decide) ?_
      refine x_iand (pc := 32) K d_L_law_32 ?_
      obtain ⟨j, hj, ej⟩ := and15 (xs i)
      refine x_eqi ej ?_
      rcases (show j = 0 ∨ j = 1 ∨ j = 2 ∨ j = 3 ∨ j = 4 ∨ j = 5 ∨ j = 6 ∨ j = 7 ∨ j = 8 ∨ j = 9 ∨ j = 10 ∨ j = 11 ∨ j = 12 ∨ j = 13 ∨ j = 14 ∨ j = 15 by omega) with rfl | rfl | rfl | rfl | rfl | rfl | rfl | rfl | rfl | rfl | rfl | rfl | rfl | rfl | rfl | rfl
      · exact x_tableIn (pc := 33) K (off := 79) (tgt := 112) d_L_law_33 (by decide) (by decide) (by decide) (by decide) (law_0 K hX hbl hwb (by omega) hi6 hI nxt)
      · exact x_tableIn (pc := 33) K (off := 142) (tgt := 175) d_L_law_33 (by decide) (by decide) (by decide) (by decide) (law_1 K hX hbl hwb (by omega) hi6 hI nxt)
      · exact x_tableIn (pc := 33) K (off := 185) (tgt := 218) d_L_law_33 (by decide) (by decide) (by decide) (by decide) (law_2 K hX hbl hwb (by omega) hi6 hI nxt)
      · exact x_tableIn (pc := 33) K (off := 248) (tgt := 281) d_L_law_33 (by decide) (by decide) (by decide) (by decide) (law_3 K hX hbl hwb (by omega) hi6 hI nxt)
      · exact x_tableIn (pc := 33) K (off := 301) (tgt := 334) d_L_law_33 (by decide) (by decide) (by decide) (by decide) (law_4 K hX hbl hwb (by omega) hi6 hI nxt)
      · exact x_tableIn (pc := 33) K (off := 334) (tgt := 367) d_L_law_33 (by decide) (by decide) (by decide) (by decide) (law_5 K hX hbl hwb (by omega) hi6 hI nxt)
      · exact x_tableIn (pc := 33) K (off := 377) (tgt := 410) d_L_law_33 (by decide) (by decide) (by decide) (by decide) (law_6 K hX hbl hwb (by omega) hi6 hI nxt)
      · exact x_tableIn (pc := 33) K (off := 390) (tgt := 423) d_L_law_33 (by decide) (by decide) (by decide) (by decide) (law_7 K hX hbl hwb (by omega) hi6 hI nxt)
      · exact x_tableIn (pc := 33) K (off := 401) (tgt := 434) d_L_law_33 (by decide) (by decide) (by decide) (by decide) (law_8 K hX hbl hwb (by omega) hi6 hI nxt)
      · exact x_tableIn (pc := 33) K (off := 460) (tgt := 493) d_L_law_33 (by decide) (by decide) (by decide) (by decide) (law_9 K hX hbl hwb (by omega) hi6 hI nxt)
      · exact x_tableIn (pc := 33) K (off := 493) (tgt := 526) d_L_law_33 (by decide) (by decide) (by decide) (by decide) (law_10 K hX hbl hwb (by omega) hi6 hI nxt)
      · exact x_tableIn (pc := 33) K (off := 546) (tgt := 579) d_L_law_33 (by decide) (by decide) (by decide) (by decide) (law_11 K hX hbl hwb (by omega) hi6 hI nxt)
      · exact x_tableIn (pc := 33) K (off := 559) (tgt := 592) d_L_law_33 (by decide) (by decide) (by decide) (by decide) (law_12 K hX hbl hwb (by omega) hi6 hI nxt)
      · exact x_tableIn (pc := 33) K (off := 592) (tgt := 625) d_L_law_33 (by decide) (by decide) (by decide) (by decide) (law_13 K hX hbl hwb (by omega) hi6 hI nxt)
      · exact x_tableIn (pc := 33) K (off := 605) (tgt := 638) d_L_law_33 (by decide) (by decide) (by decide) (by decide) (law_14 K hX hbl hwb (by omega) hi6 hI nxt)
      · exact x_tableIn (pc := 33) K (off := 628) (tgt := 661) d_L_law_33 (by decide) (by decide) (by decide) (by decide) (law_15 K hX hbl hwb (by omega) hi6 hI nxt)
theorem arr_p {args : Array Value} {s : State} {ty : FieldType} (h : (Cond.arrayClass ty).before args s = true) : ∃ cA : ClassId, ArrOfT s cA ty ∧ s.vm.findClass ("[" ++ ty.toString) = some cA := by
  obtain ⟨cA, kA, comp, h1, h2, h3⟩ := Cond.arrayClass_spec h
  exact ⟨cA, fun N z => ⟨(fun k h => by cases h), kA, h2, comp, h3⟩, h1⟩
theorem arr_o {args : Array Value} {s : State} {C : String} (h : (Cond.arrayOver (.object C)).before args s = true) : ∃ cA : ClassId, ArrOfT s cA (.object C) ∧ va_RA s cA (.object C) := by
  obtain ⟨comp, cA, kA, h1, _, h2, h3, h4⟩ := Cond.arrayOver_spec h
  exact ⟨cA, fun N z => ⟨(fun k h => by cases h), kA, h2, comp, h3⟩, kA, comp, h2, h3, h1, h4⟩
set_option maxHeartbeats 4000000 in
set_option maxRecDepth 100000 in
theorem whole_start {p : Program} {e : Env} {s : State} {m : MethodId} {below : List Frame} {meth : Method} {c : Code} (l : Launch) {b L : Nat} {xs : Nat → Int32} (hL : L ≤ 3072) (C0 : lw_At p s m meth c b L xs) : W p l e room_1 s m #[Value.ref b] below meth c s.heap [] 0 0 (lw_Z below #[Value.ref b] s) (entryFrame m ([Value.ref b] : List Value).toArray 4) := by
  obtain ⟨hx, hb, hr, hml, hown, hts, hX, hbl, hlocks, hgv⟩ := id C0
  obtain ⟨c0, i0, k0⟩ := u_known (C := "CompatibilityJudge") (T := uT_J) (N := 3) (n := 3) hts (fun t h => zmemL (uw_J t h)) (hts _ (zmemL in_J))
  obtain ⟨c1, i1, k1⟩ := u_known (C := "CompatibilityJudge$Baseline") (T := uT_B) (N := 2) (n := 2) hts (fun t h => zmemL (uw_B t h)) (hts _ (zmemL in_B))
  obtain ⟨c2, i2, k2⟩ := u_known (C := "CompatibilityJudge$Comparison") (T := uT_C) (N := 6) (n := 6) hts (fun t h => zmemL (uw_C t h)) (hts _ (zmemL in_C))
  obtain ⟨c3, i3, k3⟩ := u_known (C := "CompatibilityJudge$Type") (T := uT_T) (N := 10) (n := 10) hts (fun t h => zmemL (uw_T t h)) (hts _ (zmemL in_T))
  obtain ⟨c4, i4, k4⟩ := u_known (C := "CompatibilityJudge$Member") (T := uT_M) (N := 5) (n := 5) hts (fun t h => zmemL (uw_M t h)) (hts _ (zmemL in_M))
  obtain ⟨c5, i5, k5⟩ := u_known (C := "CompatibilityJudgeModel") (T := uT_R) (N := 22) (n := 22) hts (fun t h => zmemL (uw_R t h)) (hts _ (zmemL in_R))
  obtain ⟨a0, x0, y0⟩ := arr_p (hts _ (zmemL ac_int))
  obtain ⟨a1, x1, y1⟩ := arr_p (hts _ (zmemL ac_boolean))
  obtain ⟨a2, x2, y2⟩ := arr_o (hts _ ao_B)
  obtain ⟨a3, x3, y3⟩ := arr_o (hts _ ao_T)
  obtain ⟨a4, x4, y4⟩ := arr_o (hts _ ao_M)
  obtain ⟨w, hws, hKk⟩ : ∃ w : fl_W, w.2.2 = s.heap.size ∧ va_K w.1 zCl (zTy w) s := by
    refine ⟨((fun k => match k with | 0 => c0 | 1 => c1 | 2 => c2 | 3 => c3 | 4 => c4 | _ => c5, fun k => match k with | 0 => i0 | 1 => i1 | 2 => i2 | 3 => i3 | 4 => i4 | _ => i5), (fun k => match k with | 0 => a0 | 1 => a1 | 2 => a2 | 3 => a3 | _ => a4), s.heap.size), rfl, fun k q hq => ?_, fun k q hq => ?_⟩
    · match k, hq with
      | 0, hq => cases hq; exact k0
      | 1, hq => cases hq; exact k1
      | 2, hq => cases hq; exact k2
      | 3, hq => cases hq; exact k3
      | 4, hq => cases hq; exact k4
      | 5, hq => cases hq; exact k5
      | k + 6, hq => simp [zCl] at hq
    · match k, hq with
      | 0, hq => cases hq; exact ⟨x0, y0⟩
      | 1, hq => cases hq; exact ⟨x1, y1⟩
      | 2, hq => cases hq; exact ⟨x2, y2⟩
      | 3, hq => cases hq; exact ⟨x3, y3⟩
      | 4, hq => cases hq; exact ⟨x4, y4⟩
      | k + 5, hq => simp [zTy] at hq
  have hA9 : ∀ a : Nat, a < s.heap.size → ¬ w.2.2 ≤ a := fun a ha => by omega
  have hgs := flat_of_before _ hgv
  have hZ : zS w s s.heap := by
    refine ⟨?_, ⟨va_Nw.of rfl (hts _ lk_T_21), va_Nw.of rfl (hts _ lk_B_60), va_Nw.of rfl (hts _ lk_B_78), va_Nw.of rfl (hts _ lk_C_79)⟩, va_AO.of (hts _ ao_B), va_AO.of (hts _ ao_T), va_AO.of (hts _ ao_M)⟩
    have g1 : ∀ j : Nat, j < 3 → (Term.elem (.static "CompatibilityJudge" "KEY_LIMITS" "[I") (.int (Int32.ofNat j))).eval #[Value.ref b] s none [] s = some (.int (zKL j)) := by
      intro j hj
      rcases (show j = 0 ∨ j = 1 ∨ j = 2 by omega) with rfl | rfl | rfl
      · exact va_eqt (z := 64) (hgs (.eq (.elem (.static "CompatibilityJudge" "KEY_LIMITS" "[I") (.int 0)) (.int 64)) (by decide +kernel))
      · exact va_eqt (z := 512) (hgs (.eq (.elem (.static "CompatibilityJudge" "KEY_LIMITS" "[I") (.int 1)) (.int 512)) (by decide +kernel))
      · exact va_eqt (z := 8) (hgs (.eq (.elem (.static "CompatibilityJudge" "KEY_LIMITS" "[I") (.int 2)) (.int 8)) (by decide +kernel))
    obtain ⟨t1, e1, v1⟩ := va_Tof (tm := .static "CompatibilityJudge" "KEY_LIMITS" "[I") (ty := .int) (N := 3) (f := fun j => .int (zKL j)) (A := fun q : Nat => w.2.2 ≤ q) (by decide) (hgs (.arrayOf (.static "CompatibilityJudge" "KEY_LIMITS" "[I") .int) (by decide +kernel)) (va_eqt (z := 3) (hgs (.eq (.length (.static "CompatibilityJudge" "KEY_LIMITS" "[I")) (.int 3)) (by decide +kernel))) g1 hA9
    have g2 : ∀ j : Nat, j < 14 → (Term.elem (.static "CompatibilityJudge" "SEVERITIES" "[I") (.int (Int32.ofNat j))).eval #[Value.ref b] s none [] s = some (.int (zSV j)) := by
      intro j hj
      rcases (show j = 0 ∨ j = 1 ∨ j = 2 ∨ j = 3 ∨ j = 4 ∨ j = 5 ∨ j = 6 ∨ j = 7 ∨ j = 8 ∨ j = 9 ∨ j = 10 ∨ j = 11 ∨ j = 12 ∨ j = 13 by omega) with rfl | rfl | rfl | rfl | rfl | rfl | rfl | rfl | rfl | rfl | rfl | rfl | rfl | rfl
      · exact va_eqt (z := 3) (hgs (.eq (.elem (.static "CompatibilityJudge" "SEVERITIES" "[I") (.int 0)) (.int 3)) (by decide +kernel))
      · exact va_eqt (z := 3) (hgs (.eq (.elem (.static "CompatibilityJudge" "SEVERITIES" "[I") (.int 1)) (.int 3)) (by decide +kernel))
      · exact va_eqt (z := 2) (hgs (.eq (.elem (.static "CompatibilityJudge" "SEVERITIES" "[I") (.int 2)) (.int 2)) (by decide +kernel))
      · exact va_eqt (z := 2) (hgs (.eq (.elem (.static "CompatibilityJudge" "SEVERITIES" "[I") (.int 3)) (.int 2)) (by decide +kernel))
      · exact va_eqt (z := 3) (hgs (.eq (.elem (.static "CompatibilityJudge" "SEVERITIES" "[I") (.int 4)) (.int 3)) (by decide +kernel))
      · exact va_eqt (z := 3) (hgs (.eq (.elem (.static "CompatibilityJudge" "SEVERITIES" "[I") (.int 5)) (.int 3)) (by decide +kernel))
      · exact va_eqt (z := 3) (hgs (.eq (.elem (.static "CompatibilityJudge" "SEVERITIES" "[I") (.int 6)) (.int 3)) (by decide +kernel))
      · exact va_eqt (z := 3) (hgs (.eq (.elem (.static "CompatibilityJudge" "SEVERITIES" "[I") (.int 7)) (.int 3)) (by decide +kernel))
      · exact va_eqt (z := 2) (hgs (.eq (.elem (.static "CompatibilityJudge" "SEVERITIES" "[I") (.int 8)) (.int 2)) (by decide +kernel))
      · exact va_eqt (z := 1) (hgs (.eq (.elem (.static "CompatibilityJudge" "SEVERITIES" "[I") (.int 9)) (.int 1)) (by decide +kernel))
      · exact va_eqt (z := 3) (hgs (.eq (.elem (.static "CompatibilityJudge" "SEVERITIES" "[I") (.int 10)) (.int 3)) (by decide +kernel))
      · exact va_eqt (z := 2) (hgs (.eq (.elem (.static "CompatibilityJudge" "SEVERITIES" "[I") (.int 11)) (.int 2)) (by decide +kernel))
      · exact va_eqt (z := 2) (hgs (.eq (.elem (.static "CompatibilityJudge" "SEVERITIES" "[I") (.int 12)) (.int 2)) (by decide +kernel))
      · exact va_eqt (z := 1) (hgs (.eq (.elem (.static "CompatibilityJudge" "SEVERITIES" "[I") (.int 13)) (.int 1)) (by decide +kernel))
    obtain ⟨t2, e2, v2⟩ := va_Tof (tm := .static "CompatibilityJudge" "SEVERITIES" "[I") (ty := .int) (N := 14) (f := fun j => .int (zSV j)) (A := fun q : Nat => w.2.2 ≤ q) (by decide) (hgs (.arrayOf (.static "CompatibilityJudge" "SEVERITIES" "[I") .int) (by decide +kernel)) (va_eqt (z := 14) (hgs (.eq (.length (.static "CompatibilityJudge" "SEVERITIES" "[I")) (.int 14)) (by decide +kernel))) g2 hA9
    exact ⟨t1, t2, va_Zref (hts _ ls_KEY_LIMITS) (hts _ (zmemL ii_J)) e1 hA9, v1, va_Zref (hts _ ls_SEVERITIES) (hts _ (zmemL ii_J)) e2 hA9, v2⟩
  have K : XC p s m #[Value.ref b] meth c code 4 ret (Cond.initialized "CompatibilityJudgeLaw" :: zG) "CompatibilityJudgeLaw" w := ⟨hx, hb, hml, hown, fun t ht => (List.mem_cons.mp ht).elim (fun q => by rw [q]; exact hts _ (zmemL ii_L)) (fun q => hts _ (zmemL q)), hKk, hlocks, hr, hZ⟩
  obtain ⟨Y, hY⟩ : ∃ Y, cJ M00 = Y := ⟨_, rfl⟩
  have hYa := cJ_all hY
  have hI := INV_0
  have hJ := c_J_init l w M00 (fun _ => rfl) (fun _ => rfl)
  rw [hY] at hI hJ
  have hY1 : ∀ a, 278 ≤ a → Y.1 a = fun _ => 0 := fun a ha => by
    funext k
    exact hYa.1 a k (fun t ht => by omega)
  have hR := c_R_init l w Y hY1
  obtain ⟨V, hV⟩ : ∃ V, cR Y = V := ⟨_, rfl⟩
  rw [hV] at hI hR
  have hl := lv_entry ([.ref b]) (n := 4) (Nat.le_of_ble_eq_true rfl)
  rw [lg_entry_eq]
  have go : XW p l e room_1 s m #[Value.ref b] below meth c 4 0 0 (lw_Z below #[Value.ref b] s) w 0 M00 0 [(0, .ref b)] [] := by
    refine x_new (pc := 0) K (ci := 0) (C := "CompatibilityJudge") uY_J tk_J (by omega) (Or.inr (by omega)) shJ rfl rfl rfl (fun _ q => zmem (uw_J _ q)) (zmem lk_L_7) (zmem in_J) (zmem ii_J) hfsJ (by decide) (by decide) d_L_law_0 ?_
    refine x_re (cells' := 1) (slots' := 3) (N' := 1) rfl rfl rfl rfl ?_
    refine x_dup (pc := 3) K d_L_law_3 rfl ?_
    refine x_callI (pc := 4) K (n0 := 0) (k := 277) (ms := 3454) hJ (zcwI K.ts lk_L_9 im_J_init ii_J co_J_init rfl pd_J_init ⟨rfl, rfl⟩ ⟨by decide, by decide⟩) (by omega) (by omega) (Nat.le_of_ble_eq_true rfl) ⟨by decide, by decide⟩ d_L_law_4 ?_
    refine x_re (cells' := 278) (slots' := 3457) (N' := 278) rfl rfl rfl rfl ?_
    refine x_astore_n (pc := 7) K (lv' := [(1, .ref (w.2.2 + 0)), (0, .ref b)]) d_L_law_7 (by decide) rfl ?_
    refine x_new (pc := 8) K (ci := 5) (C := "CompatibilityJudgeModel") uY_R tk_R (by omega) (Or.inl (by omega)) shR (hY1 278 (by omega)) (hYa.2.2.1 278 (by omega)) rfl (fun _ q => zmem (uw_R _ q)) (zmem lk_L_10) (zmem in_R) (zmem ii_R) hfsR (by decide) (by decide) d_L_law_8 ?_
    refine x_re (cells' := 279) (slots' := 3479) (N' := 279) rfl rfl rfl rfl ?_
    refine x_dup (pc := 11) K d_L_law_11 rfl ?_
    refine x_callI (pc := 12) K (n0 := 278) (k := 16) (ms := 1418) hR (zcwI K.ts lk_L_12 im_R_init ii_R co_R_init rfl pd_R_init ⟨rfl, rfl⟩ ⟨by decide, by decide⟩) (by omega) (by omega) (Nat.le_of_ble_eq_true rfl) ⟨by decide, by decide⟩ d_L_law_12 ?_
    refine x_re (cells' := 295) (slots' := 4897) (N' := zN) rfl rfl rfl rfl ?_
    refine x_astore_n (pc := 15) K (lv' := [(2, .ref (w.2.2 + 278)), (1, .ref (w.2.2 + 0)), (0, .ref b)]) d_L_law_15 (by decide) rfl ?_
    refine x_iconst (pc := 16) K (v := nI 0) d_L_law_16 (by decide) ?_
    refine x_istore_n (pc := 17) K (lv' := [(3, .int (nI 0)), (2, .ref (w.2.2 + 278)), (1, .ref (w.2.2 + 0)), (0, .ref b)]) d_L_law_17 (by decide) rfl ?_
    exact law_loop K hX hbl hws (by omega) (L + 1) 0 2 V (Nat.zero_le L) (by omega) hI
  exact go s.heap [] _ (fun k q h => by simp [fl_ws] at h) va_S.rf hl
set_option maxHeartbeats 4000000 in
theorem lw_walk (l : Launch) (b : Addr) (xs : List Int32) : MetFree l x (headSpec (Jvm.Cond.code x code maxLocals ret :: tables_1) room_1) (lw_P b xs) (fun _ _ _ _ _ => True) lw_Q := by
  refine MetFree.of_bodyS (code := code) (maxLocals := maxLocals) (ret := ret) (by decide) ?_ ?_
  · intro args s m h hn
    obtain ⟨meth, c, h1, h2, h3, h4, h5, h6, -, -⟩ := Cond.code_spec hn (atoms_spec (ws := Jvm.Cond.code x code maxLocals ret :: tables_1) h _ List.mem_cons_self)
    exact ⟨meth, c, h1, h2, h3, h4, h5, h6⟩
  · intro p e s m args below meth c s₁ B hml0 hP _
    obtain ⟨rfl, hx, hbd, hgv⟩ := hP
    obtain ⟨scr, harrAt, hlist, hof, hsmall⟩ := hx
    obtain ⟨hcb, hkn, -, -⟩ := State.arrayAt?_spec harrAt
    have hown : s.vm.findClass R_law = some m.cls := findClass_of_methodNamed B.named
    have hts0 : ∀ c ∈ (Jvm.Cond.code x code maxLocals ret :: tables_1), c.before #[Value.ref b] s = true := atoms_spec (ws := Jvm.Cond.code x code maxLocals ret :: tables_1) B.pre
    have hts : ∀ w ∈ lw_tbl, w.before #[Value.ref b] s = true := k2_hts_sels lw_privs (fun w hw => hts0 w (List.mem_cons_of_mem _ hw)) lw_privs_ok
    have hml : c.maxLocals = 4 := B.maxLocals_eq (hts0 _ List.mem_cons_self)
    have X₀ : Stand p l e room_1 s m #[Value.ref b] below meth c s₁ [] 0 0 := Stand.of_body B
    have hh0 : s₁.heap = s.heap := by rw [B.state]; rfl
    have hsz : scr.slots.size = xs.length := by rw [← Array.length_toList, hlist, List.length_map]
    have hval : ∀ j : Nat, j < xs.length → scr.slots[j]? = some (.int (xs.getD j 0)) := fun j hj => by
      rw [← Array.getElem?_toList, hlist]
      simp [hj]
    have hbl : b < s.heap.size := (Array.getElem?_eq_some_iff.mp hcb).1
    have hX : va_X b xs.length (fun j => xs.getD j 0) s s.heap := ⟨scr, hcb, hof, hkn, hsz, hval⟩
    have K : W p l e room_1 s m #[Value.ref b] below meth c s₁.heap [] 0 0 (lw_Z below #[Value.ref b] s) (entryFrame m ([Value.ref b] : List Value).toArray 4) := by
      rw [hh0]
      exact whole_start l hbd ⟨B.exec, B.bytes, B.returns, hml, hown, hts, hX, hbl, B.notSynchronized, hgv⟩
    obtain ⟨t, a1, o, b1, b2, b3⟩ := K s₁ rfl X₀
    exact ⟨t, o, a1, b1, b2, b3⟩
theorem lw_pre_spec {args : Array Value} {s : State} (h : (Jvm.Cond.and given_1 narrow_1).before args s = true) (hr : rest_1_c.before args s = true) : ∃ (b : Addr) (xs : List Int32), lw_P b xs args s := by
  have hs := flat_of_before _ h
  have hq := flat_of_before _ hr
  have hc : (Cond.count 1).before args s = true := hs _ (by decide +kernel)
  have harr : (Cond.arrayOf (.arg 0) .int).before args s = true := hs _ (by decide +kernel)
  have hle : (Cond.le (.length (.arg 0)) (.int 3072)).before args s = true := hs _ (by decide +kernel)
  have hlen : (Cond.isInt (.length (.arg 0))).before args s = true := hq _ (by decide +kernel)
  have hall : (Cond.all (.arg 0) (.isInt (.elem (.arg 0) (.index 0)))).before args s = true := hq _ (by decide +kernel)
  obtain ⟨b, xs, hb, hx⟩ := State.ints_of_pre rfl harr hlen hall
  have hsm : xs.length < 2 ^ 31 := hx.choose_spec.2.2.2
  have hev : (Term.length (.arg 0)).eval args s none [] s = some (.int xs.length.toInt32) := hx.length_eval hb
  have hv := Cond.le_ints hev (show (Term.int 3072).eval args s none [] s = some (.int 3072) from rfl)
  have hd : xs.length.toInt32 ≤ 3072 := by
    simpa [Cond.before, Cond.holds, hv] using hle
  have hN : xs.length ≤ 3072 := (Int32.ofNat_le_ofNat hsm (by decide)).mp (show Int32.ofNat xs.length ≤ Int32.ofNat 3072 from hd)
  exact ⟨b, xs, Cond.one_arg hc (show args[0]? = some (.ref b) from hb), hx, hN, h⟩
theorem lw_comes (l : Launch) : Comes l x (Jvm.Cond.code x code maxLocals ret :: tables_1) room_1 (fun tb e args s => Calls_1 tb e args s ∧ rest_1 tb e args s ∧ Pre_1 tb e args s)
    (fun _ _ args s o t => lw_Q args s o t) := by
  intro p e ha hc hk s m args below hf hfit hheap happ hpre
  obtain ⟨b, xs, hP⟩ := lw_pre_spec hpre.2.2 hpre.2.1
  obtain ⟨k, o, h1, h2, h3, hQ⟩ := lw_walk l b xs p e ha hc hk s m args below hf ((Spec.applies_iff_loose hf).mp happ).1 hP trivial
  exact ⟨k, o, h1, h2, h3, hQ⟩
theorem lw_frame {s t : State} {o : Outcome} {args : Array Value} (h : Framed s o t [] 600000 7302250) :
    Framed s o t (fieldLocs frame_1_writes args s ++ arrayLocs frame_1_arrays args s ++ staticLocs frame_1_statics s) 600000 7302250 := h
theorem lw_limb (L : Cond) (hL : ∀ (args : Array Value) (s t : State), L.after args s (.returned (some (.int 1))) t = true) :
    ArmFor flags0 classFile x code maxLocals ret World_1 tables_1 room_1 Calls_1 rest_1 Pre_1
      (fun tb e a s o t => postC L tb e a s o t ∧ Framed s o t (fieldLocs frame_1_writes a s ++ arrayLocs frame_1_arrays a s ++ staticLocs frame_1_statics s) 600000 7302250) := by
  intro l _ _ _ p e ha hc hk s m args below hf hfit hheap happ hpre
  obtain ⟨k, o, h1, h2, h3, rfl, hF⟩ := lw_comes l p e ha hc hk s m args below hf hfit hheap happ hpre
  exact ⟨k, _, h1, h2, h3, hL args s _, lw_frame hF⟩
theorem i_vc : Claimed_1_1 ∧ Claimed_1_2 := ⟨lw_limb limb_1_1 (fun args s t => by simp [limb_1_1, Cond.after, Cond.holds, Cond.value]), lw_limb limb_1_2 (fun args s t => Cond.after_iff.mpr (by
  first | (rw [show limb_1_2 = Cond.eq .result (.int 1) from rfl, Cond.eq_ints (x := 1) (y := 1) rfl rfl]; simp; done) | (simp [limb_1_2, Cond.value, Term.eval]; done)))⟩
