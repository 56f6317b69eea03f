noncomputable def cIf {α : Type} (P : Prop) (a b : α) : α := @ite α P (Classical.propDecidable P) a b
theorem cIf_t {α : Type} {P : Prop} {a b : α} (h : P) : cIf P a b = a := @if_pos P (Classical.propDecidable P) h α a b
theorem cIf_f {α : Type} {P : Prop} {a b : α} (h : ¬ P) : cIf P a b = b := @if_neg P (Classical.propDecidable P) h α a b
theorem cOk_b {o b1 b2 b : Nat} {M : fl_M} (h : cOk o b1 b2 M) (hb : b = b1 ∨ b = b2) : bAll M.1 b := by
  rcases hb with rfl | rfl
  · exact h.2.1
  · exact h.2.2.1
/-- what looking up on the side b from t gives for the member a -/
def fpR (M : fl_M) (b t a : Nat) : Option Nat := if whr M b t (M.1 a 0) (M.1 a 1) = 12 then none else (tOwn (whM M b t (M.1 a 0) (M.1 a 1)).1 (tn b (whr M b t (M.1 a 0) (M.1 a 1))) ((whM M b t (M.1 a 0) (M.1 a 1)).1 a 0) ((whM M b t (M.1 a 0) (M.1 a 1)).1 a 1)).map (fun j => tn b (whr M b t (M.1 a 0) (M.1 a 1)) + 3 + j)
def fpl (M : fl_M) (n1 b t : Nat) : Nat → Nat → fl_M
  | _, 0 => M
  | i, k + 1 => fpl (wR (whM M b t (M.1 (n1 + 3 + i) 0) (M.1 (n1 + 3 + i) 1)) 276 i (fpR M b t (n1 + 3 + i))) n1 b t (i + 1) k
theorem neTF {n b : Nat} (h : zSh n = zsT) (hB : zSh b = zsB) : n ≠ b + 134 := by
  intro q
  rw [q, shBf hB] at h
  exact absurd h (by decide)
set_option maxHeartbeats 4000000 in
set_option maxRecDepth 100000 in
theorem lp_C_findPartners (l : Launch) (w : fl_W) (M : fl_M) (b1 b2 : Nat) (h1 : zSh b1 = zsB) (h2 : zSh b2 = zsB) (hne : b1 ≠ b2) (o : Nat) (n1 : Nat) (hT : zSh n1 = zsT) (b : Nat) (hB : zSh b = zsB) (hb : b = b1 ∨ b = b2) (t : Nat) (ht : t < 12) (c : Nat) (h8 : c ≤ 8) (Y : fl_M) {p9 : Program} {e9 : Env} {s9 : State} {m9 : MethodId} {ag9 : Array Value} {bl9 : List Frame} {mt9 : Method} {c9 : Code} (K : XC p9 s9 m9 ag9 mt9 c9 b_C_findPartners 7 none w_C_findPartners "CompatibilityJudge$Comparison" w) : ∀ (k : Nat) (i : Nat) (X : fl_M), i ≤ c → c + 1 ≤ i + k → cOk o b1 b2 X → X.1 n1 7 = nI c → fpl X n1 b t i (c - i) = Y → XW p9 l e9 (rm_C_findPartners) s9 m9 ag9 bl9 mt9 c9 7 0 0 (MQ bl9 (CQ w zN none Y) ag9 s9 0 0 (fun q : Nat => w.2.2 ≤ q)) w zN X 3 [(4, .int (nI i)), (0, .ref (w.2.2 + 272)), (1, .ref (w.2.2 + n1)), (2, .ref (w.2.2 + b)), (3, .int (nI t))] [] := by
  intro k
  induction k with
  | zero =>
    intro i X hi hk
    exact absurd hk (by omega)
  | succ k ih =>
    intro i X hi hk hX hc hf
    refine x_iload (pc := 3) K 0 d_C_findPartners_3 rfl ?_
    refine x_aload_n (pc := 5) K 2 d_C_findPartners_5 rfl ?_
    refine x_geti (pc := 6) K (n := n1) (k := 7) (zlt hT) hT rfl rfl (by decide) (fun _ q => zmem (uw_T _ q)) (zmem lk_C_83) d_C_findPartners_6 ?_
    refine x_eqi (y := nI c) (hc) ?_
    refine x_icmp_ge (pc := 9) K (tgt := 82) d_C_findPartners_9 (by decide) (fun c9 => ?_) (fun c9 => ?_)
    · skip
      have hic : i = c := by have := (nI_leI (by omega) (by omega)).mp c9; omega
      rw [hic, Nat.sub_self] at hf
      exact x_vret (pc := 82) K rfl (by subst hf; rfl) d_C_findPartners_82
    · skip
      have hic : i < c := Nat.not_le.mp (fun q => c9 (nI_le q (by omega)))
      rw [show c - i = (c - (i + 1)) + 1 by omega, fpl] at hf
      have hBa := cOk_b hX hb
      refine x_aload_n (pc := 12) K 2 d_C_findPartners_12 rfl ?_
      refine x_getr (pc := 13) K (n := n1) (n' := n1 + 2) (k := 6) (zlt hT) hT rfl (hX.1.Ta hT) rfl (by decide) (fun _ q => zmem (uw_T _ q)) (zmem lk_C_86) d_C_findPartners_13 ?_
      refine x_iload (pc := 16) K 0 d_C_findPartners_16 rfl ?_
      refine x_aald (pc := 18) K (n := n1 + 2) (n' := n1 + 3 + i) (j := i) rfl (by omega) (hX.1.Tm hT (by omega)) (zlt (shTa hT)) (shTa hT) rfl (by decide) d_C_findPartners_18 ?_
      refine x_astore (pc := 19) K (lv' := [(5, .ref (w.2.2 + (n1 + 3 + i))), (4, .int (nI i)), (0, .ref (w.2.2 + 272)), (1, .ref (w.2.2 + n1)), (2, .ref (w.2.2 + b)), (3, .int (nI t))]) d_C_findPartners_19 (by decide) rfl ?_
      refine x_aload_n (pc := 21) K 4 d_C_findPartners_21 rfl ?_
      refine x_iload_n (pc := 22) K 5 d_C_findPartners_22 rfl ?_
      refine x_aload (pc := 23) K 0 d_C_findPartners_23 rfl ?_
      refine x_geti (pc := 25) K (n := n1 + 3 + i) (k := 0) (zlt (shTm hT (by omega))) (shTm hT (by omega)) rfl rfl (by decide) (fun _ q => zmem (uw_M _ q)) (zmem lk_C_96) d_C_findPartners_25 ?_
      refine x_aload (pc := 28) K 0 d_C_findPartners_28 rfl ?_
      refine x_geti (pc := 30) K (n := n1 + 3 + i) (k := 1) (zlt (shTm hT (by omega))) (shTm hT (by omega)) rfl rfl (by decide) (fun _ q => zmem (uw_M _ q)) (zmem lk_C_97) d_C_findPartners_30 ?_
      refine x_callV (pc := 33) K (As := [.int (nI t), .int (X.1 (n1 + 3 + i) 0), .int (X.1 (n1 + 3 + i) 1)]) (rest := []) (c_B_whereIs l w X b hB o hX.1 hBa.1 hBa.2.1 t ht (X.1 (n1 + 3 + i) 0) (X.1 (n1 + 3 + i) 1)) (zcwV K.ts lk_C_108 im_B_whereIs se_B_whereIs ii_B co_B_whereIs pd_B_whereIs ⟨rfl, rfl⟩ ⟨by decide, by decide⟩) (zlt hB) hB rfl rfl rfl (Nat.le_of_ble_eq_true rfl) ⟨Nat.zero_le _, Nat.zero_le _⟩ d_C_findPartners_33 ?_
      have hX1 : cOk o b1 b2 (whM X b t (X.1 (n1 + 3 + i) 0) (X.1 (n1 + 3 + i) 1)) := cOk_wh h1 h2 hne hb ht hX
      have hBa1 := cOk_b hX1 hb
      refine x_istore (pc := 36) K (lv' := [(6, .int (whr X b t (X.1 (n1 + 3 + i) 0) (X.1 (n1 + 3 + i) 1))), (5, .ref (w.2.2 + (n1 + 3 + i))), (4, .int (nI i)), (0, .ref (w.2.2 + 272)), (1, .ref (w.2.2 + n1)), (2, .ref (w.2.2 + b)), (3, .int (nI t))]) d_C_findPartners_36 (by decide) rfl ?_
      refine x_aload_n (pc := 38) K 3 d_C_findPartners_38 rfl ?_
      refine x_getr (pc := 39) K (n := 272) (n' := 276) (k := 5) (zlt shC) shC rfl hX1.1.c276 rfl (by decide) (fun _ q => zmem (uw_C _ q)) (zmem lk_C_23) d_C_findPartners_39 ?_
      refine x_iload (pc := 42) K 2 d_C_findPartners_42 rfl ?_
      refine x_iload (pc := 44) K 0 d_C_findPartners_44 rfl ?_
      refine x_bipush (pc := 46) K (v := 12) d_C_findPartners_46 (by decide) ?_
      refine x_icmp_ne (pc := 48) K (tgt := 55) d_C_findPartners_48 (by decide) (fun c48 => ?_) (fun c48 => ?_)
      · skip
        have hw := (whr_in ht hBa).resolve_left c48
        refine x_aload_n (pc := 55) K 5 d_C_findPartners_55 rfl ?_
        refine x_getr (pc := 56) K (n := b) (n' := b + 1) (k := 0) (zlt hB) hB rfl (hX1.1.Ba hB) rfl (by decide) (fun _ q => zmem (uw_B _ q)) (zmem lk_C_35) d_C_findPartners_56 ?_
        refine x_iload (pc := 59) K 0 d_C_findPartners_59 rfl ?_
        refine x_aald (pc := 61) K (n := b + 1) (n' := b + 2 + 11 * (ix (whr X b t (X.1 (n1 + 3 + i) 0) (X.1 (n1 + 3 + i) 1)))) (j := ix (whr X b t (X.1 (n1 + 3 + i) 0) (X.1 (n1 + 3 + i) 1))) hw.1 hw.2 (hX1.1.Bt hB hw.2) (zlt (shBa hB)) (shBa hB) rfl (by decide) d_C_findPartners_61 ?_
        refine x_aload (pc := 62) K 1 d_C_findPartners_62 rfl ?_
        refine x_geti (pc := 64) K (n := n1 + 3 + i) (k := 0) (zlt (shTm hT (by omega))) (shTm hT (by omega)) rfl rfl (by decide) (fun _ q => zmem (uw_M _ q)) (zmem lk_C_96) d_C_findPartners_64 ?_
        refine x_aload (pc := 67) K 1 d_C_findPartners_67 rfl ?_
        refine x_geti (pc := 69) K (n := n1 + 3 + i) (k := 1) (zlt (shTm hT (by omega))) (shTm hT (by omega)) rfl rfl (by decide) (fun _ q => zmem (uw_M _ q)) (zmem lk_C_97) d_C_findPartners_69 ?_
        refine x_callV (pc := 72) K (As := [.int ((whM X b t (X.1 (n1 + 3 + i) 0) (X.1 (n1 + 3 + i) 1)).1 (n1 + 3 + i) 0), .int ((whM X b t (X.1 (n1 + 3 + i) 0) (X.1 (n1 + 3 + i) 1)).1 (n1 + 3 + i) 1)]) (rest := [.int (nI i), .ref (w.2.2 + 276)]) (c_T_own l w (whM X b t (X.1 (n1 + 3 + i) 0) (X.1 (n1 + 3 + i) 1)) (b + 2 + 11 * (ix (whr X b t (X.1 (n1 + 3 + i) 0) (X.1 (n1 + 3 + i) 1)))) (shBt hB hw.2) o hX1.1 (hBa1.1 (ix (whr X b t (X.1 (n1 + 3 + i) 0) (X.1 (n1 + 3 + i) 1))) hw.2).1 ((whM X b t (X.1 (n1 + 3 + i) 0) (X.1 (n1 + 3 + i) 1)).1 (n1 + 3 + i) 0) ((whM X b t (X.1 (n1 + 3 + i) 0) (X.1 (n1 + 3 + i) 1)).1 (n1 + 3 + i) 1)) (zcwV K.ts lk_C_100 im_T_own se_T_own ii_T co_T_own pd_T_own ⟨rfl, rfl⟩ ⟨by decide, by decide⟩) (zlt (shBt hB hw.2)) (shBt hB hw.2) rfl rfl rfl (Nat.le_of_ble_eq_true rfl) ⟨Nat.zero_le _, Nat.zero_le _⟩ d_C_findPartners_72 ?_
        refine x_opt (n := b + 2 + 11 * (ix (whr X b t (X.1 (n1 + 3 + i) 0) (X.1 (n1 + 3 + i) 1)))) (F := tOwn (whM X b t (X.1 (n1 + 3 + i) 0) (X.1 (n1 + 3 + i) 1)).1 (b + 2 + 11 * (ix (whr X b t (X.1 (n1 + 3 + i) 0) (X.1 (n1 + 3 + i) 1)))) ((whM X b t (X.1 (n1 + 3 + i) 0) (X.1 (n1 + 3 + i) 1)).1 (n1 + 3 + i) 0) ((whM X b t (X.1 (n1 + 3 + i) 0) (X.1 (n1 + 3 + i) 1)).1 (n1 + 3 + i) 1)) (fun ho72 => ?_) (fun j72 ho72 => ?_)
        · skip
          have e9 : fpR X b t (n1 + 3 + i) = none := by unfold fpR; rw [if_neg c48, ho72]; rfl
          refine x_aastN (pc := 75) K (n := 276) (j := i) rfl (by omega) (zlt sh276) sh276 rfl (by decide) d_C_findPartners_75 ?_
          refine x_iinc (pc := 76) K (v := nI (i + 1)) (lv' := [(4, .int (nI (i + 1))), (6, .int (whr X b t (X.1 (n1 + 3 + i) 0) (X.1 (n1 + 3 + i) 1))), (5, .ref (w.2.2 + (n1 + 3 + i))), (0, .ref (w.2.2 + 272)), (1, .ref (w.2.2 + n1)), (2, .ref (w.2.2 + b)), (3, .int (nI t))]) 2 d_C_findPartners_76 rfl (nI_1 _) (by decide) rfl ?_
          refine x_goto (pc := 79) K (tgt := 3) d_C_findPartners_79 (by decide) ?_
          rw [e9] at hf
          refine x_lv [0, 3, 4, 5, 6] rfl ?_
          exact ih (i + 1) _ (by omega) (by omega) (cOk_p hX1) (by show (whM X b t _ _).1 n1 7 = nI c; rw [whM_rd (neTF hT hB)]; exact hc) hf
        · skip
          have hj72 : j72 < 8 := by have := (fnd_lt ho72).2.1; have := (hBa1.1 (ix (whr X b t (X.1 (n1 + 3 + i) 0) (X.1 (n1 + 3 + i) 1))) hw.2).1.2.2; omega
          have e9 : fpR X b t (n1 + 3 + i) = some (tn b (whr X b t (X.1 (n1 + 3 + i) 0) (X.1 (n1 + 3 + i) 1)) + 3 + j72) := by unfold fpR; rw [if_neg c48, ho72]; rfl
          refine x_aast (pc := 75) K (n := 276) (n' := (b + 2 + 11 * (ix (whr X b t (X.1 (n1 + 3 + i) 0) (X.1 (n1 + 3 + i) 1)))) + 3 + j72) (j := i) rfl (by omega) (zlt sh276) sh276 rfl (zlt (shTm (shBt hB hw.2) hj72)) (shTm (shBt hB hw.2) hj72) rfl (by decide) d_C_findPartners_75 ?_
          refine x_iinc (pc := 76) K (v := nI (i + 1)) (lv' := [(4, .int (nI (i + 1))), (6, .int (whr X b t (X.1 (n1 + 3 + i) 0) (X.1 (n1 + 3 + i) 1))), (5, .ref (w.2.2 + (n1 + 3 + i))), (0, .ref (w.2.2 + 272)), (1, .ref (w.2.2 + n1)), (2, .ref (w.2.2 + b)), (3, .int (nI t))]) 2 d_C_findPartners_76 rfl (nI_1 _) (by decide) rfl ?_
          refine x_goto (pc := 79) K (tgt := 3) d_C_findPartners_79 (by decide) ?_
          rw [e9] at hf
          refine x_lv [0, 3, 4, 5, 6] rfl ?_
          exact ih (i + 1) _ (by omega) (by omega) (cOk_p hX1) (by show (whM X b t _ _).1 n1 7 = nI c; rw [whM_rd (neTF hT hB)]; exact hc) hf
      · skip
        have e9 : fpR X b t (n1 + 3 + i) = none := if_pos c48
        refine x_null (pc := 51) K d_C_findPartners_51 ?_
        refine x_goto (pc := 52) K (tgt := 75) d_C_findPartners_52 (by decide) ?_
        refine x_aastN (pc := 75) K (n := 276) (j := i) rfl (by omega) (zlt sh276) sh276 rfl (by decide) d_C_findPartners_75 ?_
        refine x_iinc (pc := 76) K (v := nI (i + 1)) (lv' := [(4, .int (nI (i + 1))), (6, .int (whr X b t (X.1 (n1 + 3 + i) 0) (X.1 (n1 + 3 + i) 1))), (5, .ref (w.2.2 + (n1 + 3 + i))), (0, .ref (w.2.2 + 272)), (1, .ref (w.2.2 + n1)), (2, .ref (w.2.2 + b)), (3, .int (nI t))]) 2 d_C_findPartners_76 rfl (nI_1 _) (by decide) rfl ?_
        refine x_goto (pc := 79) K (tgt := 3) d_C_findPartners_79 (by decide) ?_
        rw [e9] at hf
        refine x_lv [0, 3, 4, 5, 6] rfl ?_
        exact ih (i + 1) _ (by omega) (by omega) (cOk_p hX1) (by show (whM X b t _ _).1 n1 7 = nI c; rw [whM_rd (neTF hT hB)]; exact hc) hf
set_option maxHeartbeats 4000000 in
set_option maxRecDepth 100000 in
theorem c_C_findPartners (l : Launch) (w : fl_W) (M : fl_M) (b1 b2 : Nat) (h1 : zSh b1 = zsB) (h2 : zSh b2 = zsB) (hne : b1 ≠ b2) (o : Nat) (n1 : Nat) (hT : zSh n1 = zsT) (b : Nat) (hB : zSh b = zsB) (hb : b = b1 ∨ b = b2) (t : Nat) (ht : t < 12) (hM : cOk o b1 b2 M) (h7 : M.1 n1 7 = nI (cM M.1 n1)) (h8 : cM M.1 n1 ≤ 8) : CT l y_C_findPartners w_C_findPartners rm_C_findPartners w zN [.ref (w.2.2 + 272), .ref (w.2.2 + n1), .ref (w.2.2 + b), .int (nI t)] M none (fpl M n1 b t 0 (cM M.1 n1)) := by
  refine CT.of (cc := b_C_findPartners) (own := "CompatibilityJudge$Comparison") (by decide) rfl rfl (Nat.le_of_ble_eq_true rfl) ?_
  intro p9 e9 s9 m9 ag9 bl9 mt9 c9 K
  show XW p9 l e9 (rm_C_findPartners) s9 m9 ag9 bl9 mt9 c9 7 0 0 (MQ bl9 (CQ w zN none (fpl M n1 b t 0 (cM M.1 n1))) ag9 s9 0 0 (fun q : Nat => w.2.2 ≤ q)) w zN M 0 [(0, .ref (w.2.2 + 272)), (1, .ref (w.2.2 + n1)), (2, .ref (w.2.2 + b)), (3, .int (nI t))] []
  refine x_iconst (pc := 0) K (v := nI 0) d_C_findPartners_0 (by decide) ?_
  refine x_istore (pc := 1) K (lv' := [(4, .int (nI 0)), (0, .ref (w.2.2 + 272)), (1, .ref (w.2.2 + n1)), (2, .ref (w.2.2 + b)), (3, .int (nI t))]) d_C_findPartners_1 (by decide) rfl ?_
  refine x_lv [0, 1, 2, 3, 4] rfl ?_
  exact lp_C_findPartners l w M b1 b2 h1 h2 hne o n1 hT b hB hb t ht (cM M.1 n1) h8 _ K (cM M.1 n1 + 1) 0 M (by omega) (by omega) hM h7 (by rw [Nat.sub_zero])
/-- the rule r is broken by the old member at place i, its partner being at hand -/
def brP (M : fl_M) (r n1 i : Nat) : Prop := match M.2 276 i with
  | none => r = 5
  | some q => brO M.1 r n1 (n1 + 3 + i) q
noncomputable def joi (M : fl_M) (n1 r t : Nat) : Nat → Nat → fl_M
  | _, 0 => M
  | i, k + 1 => joi (cIf ((¬ (M.1 (n1 + 3 + i) 2 &&& 3) < 2) ∧ brP M r n1 i) (cAdd M (nI r) (nI t) (nI i)) M) n1 r t (i + 1) k
noncomputable def joo (M : fl_M) (n1 t c : Nat) : Nat → Nat → fl_M
  | _, 0 => M
  | r, k + 1 => joo (joi M n1 r t 0 c) n1 t c (r + 1) k
/-- the partners are members -/
def pOk (c : Nat) (M : fl_M) : Prop := ∀ i, i < c → ∀ q, M.2 276 i = some q → zSh q = zsM
theorem pOk_add {c : Nat} {M : fl_M} {r t d : Int32} (h : pOk c M) : pOk c (cAdd M r t d) := by
  intro i hi q hq
  rw [cAdd_2] at hq
  exact h i hi q hq
theorem neTC {n : Nat} (h : zSh n = zsT) : n < 272 := by
  rcases Nat.lt_or_ge n 272 with q | q
  · exact q
  · have h9 : ∀ n, n < 295 → 272 ≤ n → shE (zSh n) zsT = false := by decide +kernel
    have := h9 n (zlt h) q
    rw [shE_t h] at this
    cases this
set_option maxHeartbeats 4000000 in
set_option maxRecDepth 100000 in
theorem li_C_judgeOldMembers (l : Launch) (w : fl_W) (M : fl_M) (b1 b2 : Nat) (h1 : zSh b1 = zsB) (h2 : zSh b2 = zsB) (hne : b1 ≠ b2) (o : Nat) (n1 : Nat) (hT : zSh n1 = zsT) (t r : Nat) (h5 : 5 ≤ r) (h11 : r ≤ 11) (c : Nat) (h8 : c ≤ 8) (Y Z : fl_M) {p9 : Program} {e9 : Env} {s9 : State} {m9 : MethodId} {ag9 : Array Value} {bl9 : List Frame} {mt9 : Method} {c9 : Code} (K : XC p9 s9 m9 ag9 mt9 c9 b_C_judgeOldMembers 6 none w_C_judgeOldMembers "CompatibilityJudge$Comparison" w) : ∀ (k : Nat) (i : Nat) (X : fl_M), i ≤ c → c + 1 ≤ i + k → cOk o b1 b2 X → X.1 n1 7 = nI c → pOk c X → joi X n1 r t i (c - i) = Y → (cOk o b1 b2 Y → Y.1 n1 7 = nI c → pOk c Y → XW p9 l e9 (rm_C_judgeOldMembers) s9 m9 ag9 bl9 mt9 c9 6 0 0 (MQ bl9 (CQ w zN none Z) ag9 s9 0 0 (fun q : Nat => w.2.2 ≤ q)) w zN Y 68 [(4, .int (nI c)), (3, .int (nI r)), (0, .ref (w.2.2 + 272)), (1, .ref (w.2.2 + n1)), (2, .int (nI t))] []) → XW p9 l e9 (rm_C_judgeOldMembers) s9 m9 ag9 bl9 mt9 c9 6 0 0 (MQ bl9 (CQ w zN none Z) ag9 s9 0 0 (fun q : Nat => w.2.2 ≤ q)) w zN X 11 [(4, .int (nI i)), (3, .int (nI r)), (0, .ref (w.2.2 + 272)), (1, .ref (w.2.2 + n1)), (2, .int (nI t))] [] := by
  intro k
  induction k with
  | zero =>
    intro i X hi hk
    exact absurd hk (by omega)
  | succ k ih =>
    intro i X hi hk hX hc hq hf hE
    refine x_iload (pc := 11) K 0 d_C_judgeOldMembers_11 rfl ?_
    refine x_aload_n (pc := 13) K 3 d_C_judgeOldMembers_13 rfl ?_
    refine x_geti (pc := 14) K (n := n1) (k := 7) (zlt hT) hT rfl rfl (by decide) (fun _ q => zmem (uw_T _ q)) (zmem lk_C_83) d_C_judgeOldMembers_14 ?_
    refine x_eqi (y := nI c) (hc) ?_
    refine x_icmp_ge (pc := 17) K (tgt := 68) d_C_judgeOldMembers_17 (by decide) (fun c17 => ?_) (fun c17 => ?_)
    · skip
      have hic : i = c := by have := (nI_leI (by omega) (by omega)).mp c17; omega
      rw [hic, Nat.sub_self] at hf
      subst hic
      refine x_lv [0, 1, 2, 3, 4] rfl ?_
      have hf : X = Y := hf
      subst hf
      exact hE hX hc hq
    · skip
      have hic : i < c := Nat.not_le.mp (fun q => c17 (nI_le q (by omega)))
      rw [show c - i = (c - (i + 1)) + 1 by omega, joi] at hf
      refine x_aload_n (pc := 20) K 3 d_C_judgeOldMembers_20 rfl ?_
      refine x_getr (pc := 21) K (n := n1) (n' := n1 + 2) (k := 6) (zlt hT) hT rfl (hX.1.Ta hT) rfl (by decide) (fun _ q => zmem (uw_T _ q)) (zmem lk_C_86) d_C_judgeOldMembers_21 ?_
      refine x_iload (pc := 24) K 0 d_C_judgeOldMembers_24 rfl ?_
      refine x_aald (pc := 26) K (n := n1 + 2) (n' := n1 + 3 + i) (j := i) rfl (by omega) (hX.1.Tm hT (by omega)) (zlt (shTa hT)) (shTa hT) rfl (by decide) d_C_judgeOldMembers_26 ?_
      refine x_astore (pc := 27) K (lv' := [(5, .ref (w.2.2 + (n1 + 3 + i))), (4, .int (nI i)), (3, .int (nI r)), (0, .ref (w.2.2 + 272)), (1, .ref (w.2.2 + n1)), (2, .int (nI t))]) d_C_judgeOldMembers_27 (by decide) rfl ?_
      refine x_aload (pc := 29) K 0 d_C_judgeOldMembers_29 rfl ?_
      refine x_callV (pc := 31) K (As := []) (rest := []) (c_M_isOpen l w X (n1 + 3 + i) (shTm hT (by omega))) (zcwV K.ts lk_C_89 im_M_isOpen se_M_isOpen ii_M co_M_isOpen pd_M_isOpen ⟨rfl, rfl⟩ ⟨by decide, by decide⟩) (zlt (shTm hT (by omega))) (shTm hT (by omega)) rfl rfl rfl (Nat.le_of_ble_eq_true rfl) ⟨Nat.zero_le _, Nat.zero_le _⟩ d_C_judgeOldMembers_31 ?_
      refine x_ifeqB (pc := 34) K (tgt := 62) d_C_judgeOldMembers_34 (by decide) (fun c34 => ?_) (fun c34 => ?_)
      · skip
        rw [cIf_f (fun q => c34 q.1)] at hf
        refine x_iinc (pc := 62) K (v := nI (i + 1)) (lv' := [(4, .int (nI (i + 1))), (5, .ref (w.2.2 + (n1 + 3 + i))), (3, .int (nI r)), (0, .ref (w.2.2 + 272)), (1, .ref (w.2.2 + n1)), (2, .int (nI t))]) 1 d_C_judgeOldMembers_62 rfl (nI_1 _) (by decide) rfl ?_
        refine x_goto (pc := 65) K (tgt := 11) d_C_judgeOldMembers_65 (by decide) ?_
        refine x_lv [0, 2, 3, 4, 5] rfl ?_
        exact ih (i + 1) _ (by omega) (by omega) hX hc hq hf hE
      · skip
        refine x_iload_n (pc := 37) K 2 d_C_judgeOldMembers_37 rfl ?_
        refine x_aload_n (pc := 38) K 4 d_C_judgeOldMembers_38 rfl ?_
        refine x_aload (pc := 39) K 0 d_C_judgeOldMembers_39 rfl ?_
        refine x_aload_n (pc := 41) K 3 d_C_judgeOldMembers_41 rfl ?_
        refine x_getr (pc := 42) K (n := 272) (n' := 276) (k := 5) (zlt shC) shC rfl hX.1.c276 rfl (by decide) (fun _ q => zmem (uw_C _ q)) (zmem lk_C_23) d_C_judgeOldMembers_42 ?_
        refine x_iload (pc := 45) K 1 d_C_judgeOldMembers_45 rfl ?_
        rcases hp47 : X.2 276 i with _ | q47
        · skip
          have eP : brP X r n1 i ↔ nI r = 5 := by unfold brP; rw [hp47]; exact (nI_eq (b := 5) (by omega) (by omega)).symm
          refine x_aaldN (pc := 47) K (n := 276) (j := i) rfl (by omega) hp47 (zlt sh276) sh276 rfl (by decide) d_C_judgeOldMembers_47 ?_
          refine x_callS (pc := 48) K (As := [.int (nI r), .ref (w.2.2 + n1), .ref (w.2.2 + (n1 + 3 + i)), .null]) (rest := []) (c_C_breaksAsOldN l w X n1 (n1 + 3 + i) hT (shTm hT (by omega)) (nI r)) (zcwS K.ts lk_C_92 sm_C_breaksAsOld ii_C co_C_breaksAsOld pd_C_breaksAsOld ⟨rfl, rfl⟩ ⟨by decide, by decide⟩) rfl rfl (Nat.le_of_ble_eq_true rfl) ⟨Nat.zero_le _, Nat.zero_le _⟩ d_C_judgeOldMembers_48 ?_
          refine x_ifeqB (pc := 51) K (tgt := 62) d_C_judgeOldMembers_51 (by decide) (fun c51 => ?_) (fun c51 => ?_)
          · skip
            rw [cIf_f (fun q => c51 (eP.mp q.2))] at hf
            refine x_iinc (pc := 62) K (v := nI (i + 1)) (lv' := [(4, .int (nI (i + 1))), (5, .ref (w.2.2 + (n1 + 3 + i))), (3, .int (nI r)), (0, .ref (w.2.2 + 272)), (1, .ref (w.2.2 + n1)), (2, .int (nI t))]) 1 d_C_judgeOldMembers_62 rfl (nI_1 _) (by decide) rfl ?_
            refine x_goto (pc := 65) K (tgt := 11) d_C_judgeOldMembers_65 (by decide) ?_
            refine x_lv [0, 2, 3, 4, 5] rfl ?_
            exact ih (i + 1) _ (by omega) (by omega) hX hc hq hf hE
          · skip
            rw [cIf_t ⟨c34, eP.mpr c51⟩] at hf
            refine x_aload_n (pc := 54) K 3 d_C_judgeOldMembers_54 rfl ?_
            refine x_iload_n (pc := 55) K 2 d_C_judgeOldMembers_55 rfl ?_
            refine x_iload_n (pc := 56) K 5 d_C_judgeOldMembers_56 rfl ?_
            refine x_iload (pc := 57) K 1 d_C_judgeOldMembers_57 rfl ?_
            refine x_callVv (pc := 59) K (As := [.int (nI r), .int (nI t), .int (nI i)]) (rest := []) (c_C_add l w X o hX.1 hX.2.2.2 (nI r) (nI t) (nI i)) (zcwV K.ts lk_C_50 im_C_add se_C_add ii_C co_C_add pd_C_add ⟨rfl, rfl⟩ ⟨by decide, by decide⟩) (zlt shC) shC rfl rfl rfl (Nat.le_of_ble_eq_true rfl) ⟨Nat.zero_le _, Nat.zero_le _⟩ d_C_judgeOldMembers_59 ?_
            refine x_iinc (pc := 62) K (v := nI (i + 1)) (lv' := [(4, .int (nI (i + 1))), (5, .ref (w.2.2 + (n1 + 3 + i))), (3, .int (nI r)), (0, .ref (w.2.2 + 272)), (1, .ref (w.2.2 + n1)), (2, .int (nI t))]) 1 d_C_judgeOldMembers_62 rfl (nI_1 _) (by decide) rfl ?_
            refine x_goto (pc := 65) K (tgt := 11) d_C_judgeOldMembers_65 (by decide) ?_
            refine x_lv [0, 2, 3, 4, 5] rfl ?_
            exact ih (i + 1) _ (by omega) (by omega) (cOk_add h1 h2 hX) (by rw [cAdd_rd (Or.inl (neTC hT))]; exact hc) (pOk_add hq) hf hE
        · skip
          have hq47 := hq i hic q47 hp47
          obtain ⟨P47, dP47, hP47, hC47⟩ := c_C_breaksAsOld l w X n1 (n1 + 3 + i) q47 hT (shTm hT (by omega)) hq47 r h5 h11
          have eP : brP X r n1 i ↔ P47 := by unfold brP; rw [hp47]; exact hP47.symm
          refine x_aald (pc := 47) K (n := 276) (n' := q47) (j := i) rfl (by omega) hp47 (zlt sh276) sh276 rfl (by decide) d_C_judgeOldMembers_47 ?_
          refine x_callS (pc := 48) K (As := [.int (nI r), .ref (w.2.2 + n1), .ref (w.2.2 + (n1 + 3 + i)), .ref (w.2.2 + q47)]) (rest := []) hC47 (zcwS K.ts lk_C_92 sm_C_breaksAsOld ii_C co_C_breaksAsOld pd_C_breaksAsOld ⟨rfl, rfl⟩ ⟨by decide, by decide⟩) rfl rfl (Nat.le_of_ble_eq_true rfl) ⟨Nat.zero_le _, Nat.zero_le _⟩ d_C_judgeOldMembers_48 ?_
          refine x_ifeqB (pc := 51) K (tgt := 62) d_C_judgeOldMembers_51 (by decide) (fun c51 => ?_) (fun c51 => ?_)
          · skip
            rw [cIf_f (fun q => c51 (eP.mp q.2))] at hf
            refine x_iinc (pc := 62) K (v := nI (i + 1)) (lv' := [(4, .int (nI (i + 1))), (5, .ref (w.2.2 + (n1 + 3 + i))), (3, .int (nI r)), (0, .ref (w.2.2 + 272)), (1, .ref (w.2.2 + n1)), (2, .int (nI t))]) 1 d_C_judgeOldMembers_62 rfl (nI_1 _) (by decide) rfl ?_
            refine x_goto (pc := 65) K (tgt := 11) d_C_judgeOldMembers_65 (by decide) ?_
            refine x_lv [0, 2, 3, 4, 5] rfl ?_
            exact ih (i + 1) _ (by omega) (by omega) hX hc hq hf hE
          · skip
            rw [cIf_t ⟨c34, eP.mpr c51⟩] at hf
            refine x_aload_n (pc := 54) K 3 d_C_judgeOldMembers_54 rfl ?_
            refine x_iload_n (pc := 55) K 2 d_C_judgeOldMembers_55 rfl ?_
            refine x_iload_n (pc := 56) K 5 d_C_judgeOldMembers_56 rfl ?_
            refine x_iload (pc := 57) K 1 d_C_judgeOldMembers_57 rfl ?_
            refine x_callVv (pc := 59) K (As := [.int (nI r), .int (nI t), .int (nI i)]) (rest := []) (c_C_add l w X o hX.1 hX.2.2.2 (nI r) (nI t) (nI i)) (zcwV K.ts lk_C_50 im_C_add se_C_add ii_C co_C_add pd_C_add ⟨rfl, rfl⟩ ⟨by decide, by decide⟩) (zlt shC) shC rfl rfl rfl (Nat.le_of_ble_eq_true rfl) ⟨Nat.zero_le _, Nat.zero_le _⟩ d_C_judgeOldMembers_59 ?_
            refine x_iinc (pc := 62) K (v := nI (i + 1)) (lv' := [(4, .int (nI (i + 1))), (5, .ref (w.2.2 + (n1 + 3 + i))), (3, .int (nI r)), (0, .ref (w.2.2 + 272)), (1, .ref (w.2.2 + n1)), (2, .int (nI t))]) 1 d_C_judgeOldMembers_62 rfl (nI_1 _) (by decide) rfl ?_
            refine x_goto (pc := 65) K (tgt := 11) d_C_judgeOldMembers_65 (by decide) ?_
            refine x_lv [0, 2, 3, 4, 5] rfl ?_
            exact ih (i + 1) _ (by omega) (by omega) (cOk_add h1 h2 hX) (by rw [cAdd_rd (Or.inl (neTC hT))]; exact hc) (pOk_add hq) hf hE
set_option maxHeartbeats 4000000 in
set_option maxRecDepth 100000 in
theorem lp_C_judgeOldMembers (l : Launch) (w : fl_W) (M : fl_M) (b1 b2 : Nat) (h1 : zSh b1 = zsB) (h2 : zSh b2 = zsB) (hne : b1 ≠ b2) (o : Nat) (n1 : Nat) (hT : zSh n1 = zsT) (t : Nat) (c : Nat) (h8 : c ≤ 8) (Y : fl_M) {p9 : Program} {e9 : Env} {s9 : State} {m9 : MethodId} {ag9 : Array Value} {bl9 : List Frame} {mt9 : Method} {c9 : Code} (K : XC p9 s9 m9 ag9 mt9 c9 b_C_judgeOldMembers 6 none w_C_judgeOldMembers "CompatibilityJudge$Comparison" w) : ∀ (k : Nat) (r : Nat) (X : fl_M), r ≤ 12 → 13 ≤ r + k → 5 ≤ r → cOk o b1 b2 X → X.1 n1 7 = nI c → pOk c X → joo X n1 t c r (12 - r) = Y → XW p9 l e9 (rm_C_judgeOldMembers) s9 m9 ag9 bl9 mt9 c9 6 0 0 (MQ bl9 (CQ w zN none Y) ag9 s9 0 0 (fun q : Nat => w.2.2 ≤ q)) w zN X 2 [(3, .int (nI r)), (0, .ref (w.2.2 + 272)), (1, .ref (w.2.2 + n1)), (2, .int (nI t))] [] := by
  intro k
  induction k with
  | zero =>
    intro r X hi hk
    exact absurd hk (by omega)
  | succ k ih =>
    intro r X hi hk h5 hX hc hq hf
    refine x_iload_n (pc := 2) K 0 d_C_judgeOldMembers_2 rfl ?_
    refine x_bipush (pc := 3) K (v := nI 11) d_C_judgeOldMembers_3 (by decide) ?_
    refine x_icmp_gt (pc := 5) K (tgt := 74) d_C_judgeOldMembers_5 (by decide) (fun c5 => ?_) (fun c5 => ?_)
    · skip
      have hic : r = 12 := by have := (nI_ltI (a := 11) (by omega) (by omega)).mp c5; omega
      rw [hic, Nat.sub_self] at hf
      exact x_vret (pc := 74) K rfl (by subst hf; rfl) d_C_judgeOldMembers_74
    · skip
      have hic : r < 12 := by have := Nat.not_lt.mp (fun q => c5 ((nI_ltI (a := 11) (b := r) (by omega) (by omega)).mpr q)); omega
      rw [show 12 - r = (12 - (r + 1)) + 1 by omega, joo] at hf
      refine x_iconst (pc := 8) K (v := nI 0) d_C_judgeOldMembers_8 (by decide) ?_
      refine x_istore (pc := 9) K (lv' := [(4, .int (nI 0)), (3, .int (nI r)), (0, .ref (w.2.2 + 272)), (1, .ref (w.2.2 + n1)), (2, .int (nI t))]) d_C_judgeOldMembers_9 (by decide) rfl ?_
      refine x_lv [0, 1, 2, 3, 4] rfl ?_
      refine li_C_judgeOldMembers l w M b1 b2 h1 h2 hne o n1 hT t r h5 (by omega) c h8 _ _ K (c + 1) 0 X (by omega) (by omega) hX hc hq (by rw [Nat.sub_zero]) (fun hX hc hq => ?_)
      refine x_iinc (pc := 68) K (v := nI (r + 1)) (lv' := [(3, .int (nI (r + 1))), (4, .int (nI c)), (0, .ref (w.2.2 + 272)), (1, .ref (w.2.2 + n1)), (2, .int (nI t))]) 1 d_C_judgeOldMembers_68 rfl (nI_1 _) (by decide) rfl ?_
      refine x_goto (pc := 71) K (tgt := 2) d_C_judgeOldMembers_71 (by decide) ?_
      refine x_lv [0, 2, 3, 4] rfl ?_
      exact ih (r + 1) _ (by omega) (by omega) (by omega) hX hc hq hf
set_option maxHeartbeats 4000000 in
set_option maxRecDepth 100000 in
theorem c_C_judgeOldMembers (l : Launch) (w : fl_W) (M : fl_M) (b1 b2 : Nat) (h1 : zSh b1 = zsB) (h2 : zSh b2 = zsB) (hne : b1 ≠ b2) (o : Nat) (n1 : Nat) (hT : zSh n1 = zsT) (t : Nat) (hM : cOk o b1 b2 M) (h7 : M.1 n1 7 = nI (cM M.1 n1)) (h8 : cM M.1 n1 ≤ 8) (hq : pOk (cM M.1 n1) M) : CT l y_C_judgeOldMembers w_C_judgeOldMembers rm_C_judgeOldMembers w zN [.ref (w.2.2 + 272), .ref (w.2.2 + n1), .int (nI t)] M none (joo M n1 t (cM M.1 n1) 5 7) := by
  refine CT.of (cc := b_C_judgeOldMembers) (own := "CompatibilityJudge$Comparison") (by decide) rfl rfl (Nat.le_of_ble_eq_true rfl) ?_
  intro p9 e9 s9 m9 ag9 bl9 mt9 c9 K
  show XW p9 l e9 (rm_C_judgeOldMembers) s9 m9 ag9 bl9 mt9 c9 6 0 0 (MQ bl9 (CQ w zN none (joo M n1 t (cM M.1 n1) 5 7)) ag9 s9 0 0 (fun q : Nat => w.2.2 ≤ q)) w zN M 0 [(0, .ref (w.2.2 + 272)), (1, .ref (w.2.2 + n1)), (2, .int (nI t))] []
  refine x_iconst (pc := 0) K (v := nI 5) d_C_judgeOldMembers_0 (by decide) ?_
  refine x_istore_n (pc := 1) K (lv' := [(3, .int (nI 5)), (0, .ref (w.2.2 + 272)), (1, .ref (w.2.2 + n1)), (2, .int (nI t))]) d_C_judgeOldMembers_1 (by decide) rfl ?_
  refine x_lv [0, 1, 2, 3] rfl ?_
  exact lp_C_judgeOldMembers l w M b1 b2 h1 h2 hne o n1 hT t (cM M.1 n1) h8 _ K 8 5 M (by omega) (by omega) (by omega) hM h7 hq rfl
def bnP (M : fl_M) (r n2 i : Nat) : Prop := match M.2 276 i with
  | none => brZ M.1 (nI r) (n2 + 3 + i)
  | some q => brN M.1 (nI r) (n2 + 3 + i) q
noncomputable def jni (M : fl_M) (n1 n2 r t : Nat) : Nat → Nat → fl_M
  | _, 0 => M
  | i, k + 1 => jni (cIf (tOwn M.1 n1 (M.1 (n2 + 3 + i) 0) (M.1 (n2 + 3 + i) 1) = none ∧ bnP M r n2 i) (cAdd M (nI r) (nI t) (nI i)) M) n1 n2 r t (i + 1) k
noncomputable def jno (M : fl_M) (n1 n2 t c : Nat) : Nat → Nat → fl_M
  | _, 0 => M
  | r, k + 1 => jno (jni M n1 n2 r t 0 c) n1 n2 t c (r + 1) k
theorem tOk_add {M : fl_M} {r t d : Int32} {n : Nat} (hT : zSh n = zsT) (h : tOk M.1 n) : tOk (cAdd M r t d).1 n := by
  unfold tOk cI cM
  rw [cAdd_rd (Or.inl (neTC hT)), cAdd_rd (Or.inl (neTC hT))]
  exact h
set_option maxHeartbeats 4000000 in
set_option maxRecDepth 100000 in
theorem li_C_judgeNewMembers (l : Launch) (w : fl_W) (M : fl_M) (b1 b2 : Nat) (h1 : zSh b1 = zsB) (h2 : zSh b2 = zsB) (hne : b1 ≠ b2) (o : Nat) (n1 n2 : Nat) (hT : zSh n1 = zsT) (hT2 : zSh n2 = zsT) (t r : Nat) (c : Nat) (h8 : c ≤ 8) (Y Z : fl_M) {p9 : Program} {e9 : Env} {s9 : State} {m9 : MethodId} {ag9 : Array Value} {bl9 : List Frame} {mt9 : Method} {c9 : Code} (K : XC p9 s9 m9 ag9 mt9 c9 b_C_judgeNewMembers 7 none w_C_judgeNewMembers "CompatibilityJudge$Comparison" w) : ∀ (k : Nat) (i : Nat) (X : fl_M), i ≤ c → c + 1 ≤ i + k → cOk o b1 b2 X → X.1 n2 7 = nI c → tOk X.1 n1 → pOk c X → jni X n1 n2 r t i (c - i) = Y → (cOk o b1 b2 Y → Y.1 n2 7 = nI c → tOk Y.1 n1 → pOk c Y → XW p9 l e9 (rm_C_judgeNewMembers) s9 m9 ag9 bl9 mt9 c9 7 0 0 (MQ bl9 (CQ w zN none Z) ag9 s9 0 0 (fun q : Nat => w.2.2 ≤ q)) w zN Y 81 [(5, .int (nI c)), (4, .int (nI r)), (0, .ref (w.2.2 + 272)), (1, .ref (w.2.2 + n1)), (2, .ref (w.2.2 + n2)), (3, .int (nI t))] []) → XW p9 l e9 (rm_C_judgeNewMembers) s9 m9 ag9 bl9 mt9 c9 7 0 0 (MQ bl9 (CQ w zN none Z) ag9 s9 0 0 (fun q : Nat => w.2.2 ≤ q)) w zN X 14 [(5, .int (nI i)), (4, .int (nI r)), (0, .ref (w.2.2 + 272)), (1, .ref (w.2.2 + n1)), (2, .ref (w.2.2 + n2)), (3, .int (nI t))] [] := by
  intro k
  induction k with
  | zero =>
    intro i X hi hk
    exact absurd hk (by omega)
  | succ k ih =>
    intro i X hi hk hX hc hk1 hq hf hE
    refine x_iload (pc := 14) K 0 d_C_judgeNewMembers_14 rfl ?_
    refine x_aload_n (pc := 16) K 4 d_C_judgeNewMembers_16 rfl ?_
    refine x_geti (pc := 17) K (n := n2) (k := 7) (zlt hT2) hT2 rfl rfl (by decide) (fun _ q => zmem (uw_T _ q)) (zmem lk_C_83) d_C_judgeNewMembers_17 ?_
    refine x_eqi (y := nI c) (hc) ?_
    refine x_icmp_ge (pc := 20) K (tgt := 81) d_C_judgeNewMembers_20 (by decide) (fun c20 => ?_) (fun c20 => ?_)
    · skip
      have hic : i = c := by have := (nI_leI (by omega) (by omega)).mp c20; omega
      rw [hic, Nat.sub_self] at hf
      subst hic
      refine x_lv [0, 1, 2, 3, 4, 5] rfl ?_
      have hf : X = Y := hf
      subst hf
      exact hE hX hc hk1 hq
    · skip
      have hic : i < c := Nat.not_le.mp (fun q => c20 (nI_le q (by omega)))
      rw [show c - i = (c - (i + 1)) + 1 by omega, jni] at hf
      refine x_aload_n (pc := 23) K 4 d_C_judgeNewMembers_23 rfl ?_
      refine x_getr (pc := 24) K (n := n2) (n' := n2 + 2) (k := 6) (zlt hT2) hT2 rfl (hX.1.Ta hT2) rfl (by decide) (fun _ q => zmem (uw_T _ q)) (zmem lk_C_86) d_C_judgeNewMembers_24 ?_
      refine x_iload (pc := 27) K 0 d_C_judgeNewMembers_27 rfl ?_
      refine x_aald (pc := 29) K (n := n2 + 2) (n' := n2 + 3 + i) (j := i) rfl (by omega) (hX.1.Tm hT2 (by omega)) (zlt (shTa hT2)) (shTa hT2) rfl (by decide) d_C_judgeNewMembers_29 ?_
      refine x_astore (pc := 30) K (lv' := [(6, .ref (w.2.2 + (n2 + 3 + i))), (5, .int (nI i)), (4, .int (nI r)), (0, .ref (w.2.2 + 272)), (1, .ref (w.2.2 + n1)), (2, .ref (w.2.2 + n2)), (3, .int (nI t))]) d_C_judgeNewMembers_30 (by decide) rfl ?_
      refine x_aload_n (pc := 32) K 4 d_C_judgeNewMembers_32 rfl ?_
      refine x_aload (pc := 33) K 0 d_C_judgeNewMembers_33 rfl ?_
      refine x_geti (pc := 35) K (n := n2 + 3 + i) (k := 0) (zlt (shTm hT2 (by omega))) (shTm hT2 (by omega)) rfl rfl (by decide) (fun _ q => zmem (uw_M _ q)) (zmem lk_C_96) d_C_judgeNewMembers_35 ?_
      refine x_aload (pc := 38) K 0 d_C_judgeNewMembers_38 rfl ?_
      refine x_geti (pc := 40) K (n := n2 + 3 + i) (k := 1) (zlt (shTm hT2 (by omega))) (shTm hT2 (by omega)) rfl rfl (by decide) (fun _ q => zmem (uw_M _ q)) (zmem lk_C_97) d_C_judgeNewMembers_40 ?_
      refine x_callV (pc := 43) K (As := [.int (X.1 (n2 + 3 + i) 0), .int (X.1 (n2 + 3 + i) 1)]) (rest := []) (c_T_own l w X n1 hT o hX.1 hk1 (X.1 (n2 + 3 + i) 0) (X.1 (n2 + 3 + i) 1)) (zcwV K.ts lk_C_100 im_T_own se_T_own ii_T co_T_own pd_T_own ⟨rfl, rfl⟩ ⟨by decide, by decide⟩) (zlt hT) hT rfl rfl rfl (Nat.le_of_ble_eq_true rfl) ⟨Nat.zero_le _, Nat.zero_le _⟩ d_C_judgeNewMembers_43 ?_
      refine x_opt (n := n1) (F := tOwn X.1 n1 (X.1 (n2 + 3 + i) 0) (X.1 (n2 + 3 + i) 1)) (fun ho43 => ?_) (fun j43 ho43 => ?_)
      · skip
        refine x_ifnonnullN (pc := 46) K d_C_judgeNewMembers_46 ?_
        refine x_iload (pc := 49) K 2 d_C_judgeNewMembers_49 rfl ?_
        refine x_aload (pc := 51) K 0 d_C_judgeNewMembers_51 rfl ?_
        refine x_aload_n (pc := 53) K 3 d_C_judgeNewMembers_53 rfl ?_
        refine x_getr (pc := 54) K (n := 272) (n' := 276) (k := 5) (zlt shC) shC rfl hX.1.c276 rfl (by decide) (fun _ q => zmem (uw_C _ q)) (zmem lk_C_23) d_C_judgeNewMembers_54 ?_
        refine x_iload (pc := 57) K 1 d_C_judgeNewMembers_57 rfl ?_
        rcases hp59 : X.2 276 i with _ | q59
        · skip
          have eP : bnP X r n2 i ↔ brZ X.1 (nI r) (n2 + 3 + i) := by unfold bnP; rw [hp59]
          refine x_aaldN (pc := 59) K (n := 276) (j := i) rfl (by omega) hp59 (zlt sh276) sh276 rfl (by decide) d_C_judgeNewMembers_59 ?_
          refine x_callS (pc := 60) K (As := [.int (nI r), .ref (w.2.2 + (n2 + 3 + i)), .null]) (rest := []) (c_C_breaksAsNewN l w X (n2 + 3 + i) (shTm hT2 (by omega)) (nI r)) (zcwS K.ts lk_C_104 sm_C_breaksAsNew ii_C co_C_breaksAsNew pd_C_breaksAsNew ⟨rfl, rfl⟩ ⟨by decide, by decide⟩) rfl rfl (Nat.le_of_ble_eq_true rfl) ⟨Nat.zero_le _, Nat.zero_le _⟩ d_C_judgeNewMembers_60 ?_
          refine x_ifeqB (pc := 63) K (tgt := 75) d_C_judgeNewMembers_63 (by decide) (fun c63 => ?_) (fun c63 => ?_)
          · skip
            rw [cIf_f (fun q => c63 (eP.mp q.2))] at hf
            refine x_iinc (pc := 75) K (v := nI (i + 1)) (lv' := [(5, .int (nI (i + 1))), (6, .ref (w.2.2 + (n2 + 3 + i))), (4, .int (nI r)), (0, .ref (w.2.2 + 272)), (1, .ref (w.2.2 + n1)), (2, .ref (w.2.2 + n2)), (3, .int (nI t))]) 1 d_C_judgeNewMembers_75 rfl (nI_1 _) (by decide) rfl ?_
            refine x_goto (pc := 78) K (tgt := 14) d_C_judgeNewMembers_78 (by decide) ?_
            refine x_lv [0, 2, 3, 4, 5, 6] rfl ?_
            exact ih (i + 1) _ (by omega) (by omega) hX hc hk1 hq hf hE
          · skip
            rw [cIf_t ⟨ho43, eP.mpr c63⟩] at hf
            refine x_aload_n (pc := 66) K 3 d_C_judgeNewMembers_66 rfl ?_
            refine x_iload (pc := 67) K 2 d_C_judgeNewMembers_67 rfl ?_
            refine x_iload_n (pc := 69) K 6 d_C_judgeNewMembers_69 rfl ?_
            refine x_iload (pc := 70) K 1 d_C_judgeNewMembers_70 rfl ?_
            refine x_callVv (pc := 72) K (As := [.int (nI r), .int (nI t), .int (nI i)]) (rest := []) (c_C_add l w X o hX.1 hX.2.2.2 (nI r) (nI t) (nI i)) (zcwV K.ts lk_C_50 im_C_add se_C_add ii_C co_C_add pd_C_add ⟨rfl, rfl⟩ ⟨by decide, by decide⟩) (zlt shC) shC rfl rfl rfl (Nat.le_of_ble_eq_true rfl) ⟨Nat.zero_le _, Nat.zero_le _⟩ d_C_judgeNewMembers_72 ?_
            refine x_iinc (pc := 75) K (v := nI (i + 1)) (lv' := [(5, .int (nI (i + 1))), (6, .ref (w.2.2 + (n2 + 3 + i))), (4, .int (nI r)), (0, .ref (w.2.2 + 272)), (1, .ref (w.2.2 + n1)), (2, .ref (w.2.2 + n2)), (3, .int (nI t))]) 1 d_C_judgeNewMembers_75 rfl (nI_1 _) (by decide) rfl ?_
            refine x_goto (pc := 78) K (tgt := 14) d_C_judgeNewMembers_78 (by decide) ?_
            refine x_lv [0, 2, 3, 4, 5, 6] rfl ?_
            exact ih (i + 1) _ (by omega) (by omega) (cOk_add h1 h2 hX) (by rw [cAdd_rd (Or.inl (neTC hT2))]; exact hc) (tOk_add hT hk1) (pOk_add hq) hf hE
        · skip
          have hq59 := hq i hic q59 hp59
          have eP : bnP X r n2 i ↔ brN X.1 (nI r) (n2 + 3 + i) q59 := by unfold bnP; rw [hp59]
          refine x_aald (pc := 59) K (n := 276) (n' := q59) (j := i) rfl (by omega) hp59 (zlt sh276) sh276 rfl (by decide) d_C_judgeNewMembers_59 ?_
          refine x_callS (pc := 60) K (As := [.int (nI r), .ref (w.2.2 + (n2 + 3 + i)), .ref (w.2.2 + q59)]) (rest := []) (c_C_breaksAsNew l w X (n2 + 3 + i) q59 (shTm hT2 (by omega)) hq59 (nI r)) (zcwS K.ts lk_C_104 sm_C_breaksAsNew ii_C co_C_breaksAsNew pd_C_breaksAsNew ⟨rfl, rfl⟩ ⟨by decide, by decide⟩) rfl rfl (Nat.le_of_ble_eq_true rfl) ⟨Nat.zero_le _, Nat.zero_le _⟩ d_C_judgeNewMembers_60 ?_
          refine x_ifeqB (pc := 63) K (tgt := 75) d_C_judgeNewMembers_63 (by decide) (fun c63 => ?_) (fun c63 => ?_)
          · skip
            rw [cIf_f (fun q => c63 (eP.mp q.2))] at hf
            refine x_iinc (pc := 75) K (v := nI (i + 1)) (lv' := [(5, .int (nI (i + 1))), (6, .ref (w.2.2 + (n2 + 3 + i))), (4, .int (nI r)), (0, .ref (w.2.2 + 272)), (1, .ref (w.2.2 + n1)), (2, .ref (w.2.2 + n2)), (3, .int (nI t))]) 1 d_C_judgeNewMembers_75 rfl (nI_1 _) (by decide) rfl ?_
            refine x_goto (pc := 78) K (tgt := 14) d_C_judgeNewMembers_78 (by decide) ?_
            refine x_lv [0, 2, 3, 4, 5, 6] rfl ?_
            exact ih (i + 1) _ (by omega) (by omega) hX hc hk1 hq hf hE
          · skip
            rw [cIf_t ⟨ho43, eP.mpr c63⟩] at hf
            refine x_aload_n (pc := 66) K 3 d_C_judgeNewMembers_66 rfl ?_
            refine x_iload (pc := 67) K 2 d_C_judgeNewMembers_67 rfl ?_
            refine x_iload_n (pc := 69) K 6 d_C_judgeNewMembers_69 rfl ?_
            refine x_iload (pc := 70) K 1 d_C_judgeNewMembers_70 rfl ?_
            refine x_callVv (pc := 72) K (As := [.int (nI r), .int (nI t), .int (nI i)]) (rest := []) (c_C_add l w X o hX.1 hX.2.2.2 (nI r) (nI t) (nI i)) (zcwV K.ts lk_C_50 im_C_add se_C_add ii_C co_C_add pd_C_add ⟨rfl, rfl⟩ ⟨by decide, by decide⟩) (zlt shC) shC rfl rfl rfl (Nat.le_of_ble_eq_true rfl) ⟨Nat.zero_le _, Nat.zero_le _⟩ d_C_judgeNewMembers_72 ?_
            refine x_iinc (pc := 75) K (v := nI (i + 1)) (lv' := [(5, .int (nI (i + 1))), (6, .ref (w.2.2 + (n2 + 3 + i))), (4, .int (nI r)), (0, .ref (w.2.2 + 272)), (1, .ref (w.2.2 + n1)), (2, .ref (w.2.2 + n2)), (3, .int (nI t))]) 1 d_C_judgeNewMembers_75 rfl (nI_1 _) (by decide) rfl ?_
            refine x_goto (pc := 78) K (tgt := 14) d_C_judgeNewMembers_78 (by decide) ?_
            refine x_lv [0, 2, 3, 4, 5, 6] rfl ?_
            exact ih (i + 1) _ (by omega) (by omega) (cOk_add h1 h2 hX) (by rw [cAdd_rd (Or.inl (neTC hT2))]; exact hc) (tOk_add hT hk1) (pOk_add hq) hf hE
      · skip
        have hj43 : j43 < 8 := by have := (fnd_lt ho43).2.1; have := hk1.2.2; omega
        rw [cIf_f (fun q => by rw [ho43] at q; exact nomatch q.1)] at hf
        refine x_ifnonnull (pc := 46) K (tgt := 75) d_C_judgeNewMembers_46 (by decide) ?_
        refine x_iinc (pc := 75) K (v := nI (i + 1)) (lv' := [(5, .int (nI (i + 1))), (6, .ref (w.2.2 + (n2 + 3 + i))), (4, .int (nI r)), (0, .ref (w.2.2 + 272)), (1, .ref (w.2.2 + n1)), (2, .ref (w.2.2 + n2)), (3, .int (nI t))]) 1 d_C_judgeNewMembers_75 rfl (nI_1 _) (by decide) rfl ?_
        refine x_goto (pc := 78) K (tgt := 14) d_C_judgeNewMembers_78 (by decide) ?_
        refine x_lv [0, 2, 3, 4, 5, 6] rfl ?_
        exact ih (i + 1) _ (by omega) (by omega) hX hc hk1 hq hf hE
set_option maxHeartbeats 4000000 in
set_option maxRecDepth 100000 in
theorem lp_C_judgeNewMembers (l : Launch) (w : fl_W) (M : fl_M) (b1 b2 : Nat) (h1 : zSh b1 = zsB) (h2 : zSh b2 = zsB) (hne : b1 ≠ b2) (o : Nat) (n1 n2 : Nat) (hT : zSh n1 = zsT) (hT2 : zSh n2 = zsT) (t : Nat) (c : Nat) (h8 : c ≤ 8) (Y : fl_M) {p9 : Program} {e9 : Env} {s9 : State} {m9 : MethodId} {ag9 : Array Value} {bl9 : List Frame} {mt9 : Method} {c9 : Code} (K : XC p9 s9 m9 ag9 mt9 c9 b_C_judgeNewMembers 7 none w_C_judgeNewMembers "CompatibilityJudge$Comparison" w) : ∀ (k : Nat) (r : Nat) (X : fl_M), r ≤ 14 → 15 ≤ r + k → cOk o b1 b2 X → X.1 n2 7 = nI c → tOk X.1 n1 → pOk c X → jno X n1 n2 t c r (14 - r) = Y → XW p9 l e9 (rm_C_judgeNewMembers) s9 m9 ag9 bl9 mt9 c9 7 0 0 (MQ bl9 (CQ w zN none Y) ag9 s9 0 0 (fun q : Nat => w.2.2 ≤ q)) w zN X 4 [(4, .int (nI r)), (0, .ref (w.2.2 + 272)), (1, .ref (w.2.2 + n1)), (2, .ref (w.2.2 + n2)), (3, .int (nI t))] [] := by
  intro k
  induction k with
  | zero =>
    intro r X hi hk
    exact absurd hk (by omega)
  | succ k ih =>
    intro r X hi hk hX hc hk1 hq hf
    refine x_iload (pc := 4) K 0 d_C_judgeNewMembers_4 rfl ?_
    refine x_bipush (pc := 6) K (v := nI 13) d_C_judgeNewMembers_6 (by decide) ?_
    refine x_icmp_gt (pc := 8) K (tgt := 87) d_C_judgeNewMembers_8 (by decide) (fun c8 => ?_) (fun c8 => ?_)
    · skip
      have hic : r = 14 := by have := (nI_ltI (a := 13) (by omega) (by omega)).mp c8; omega
      rw [hic, Nat.sub_self] at hf
      exact x_vret (pc := 87) K rfl (by subst hf; rfl) d_C_judgeNewMembers_87
    · skip
      have hic : r < 14 := by have := Nat.not_lt.mp (fun q => c8 ((nI_ltI (a := 13) (b := r) (by omega) (by omega)).mpr q)); omega
      rw [show 14 - r = (14 - (r + 1)) + 1 by omega, jno] at hf
      refine x_iconst (pc := 11) K (v := nI 0) d_C_judgeNewMembers_11 (by decide) ?_
      refine x_istore (pc := 12) K (lv' := [(5, .int (nI 0)), (4, .int (nI r)), (0, .ref (w.2.2 + 272)), (1, .ref (w.2.2 + n1)), (2, .ref (w.2.2 + n2)), (3, .int (nI t))]) d_C_judgeNewMembers_12 (by decide) rfl ?_
      refine x_lv [0, 1, 2, 3, 4, 5] rfl ?_
      refine li_C_judgeNewMembers l w M b1 b2 h1 h2 hne o n1 n2 hT hT2 t r c h8 _ _ K (c + 1) 0 X (by omega) (by omega) hX hc hk1 hq (by rw [Nat.sub_zero]) (fun hX hc hk1 hq => ?_)
      refine x_iinc (pc := 81) K (v := nI (r + 1)) (lv' := [(4, .int (nI (r + 1))), (5, .int (nI c)), (0, .ref (w.2.2 + 272)), (1, .ref (w.2.2 + n1)), (2, .ref (w.2.2 + n2)), (3, .int (nI t))]) 1 d_C_judgeNewMembers_81 rfl (nI_1 _) (by decide) rfl ?_
      refine x_goto (pc := 84) K (tgt := 4) d_C_judgeNewMembers_84 (by decide) ?_
      refine x_lv [0, 2, 3, 4, 5] rfl ?_
      exact ih (r + 1) _ (by omega) (by omega) hX hc hk1 hq hf
set_option maxHeartbeats 4000000 in
set_option maxRecDepth 100000 in
theorem c_C_judgeNewMembers (l : Launch) (w : fl_W) (M : fl_M) (b1 b2 : Nat) (h1 : zSh b1 = zsB) (h2 : zSh b2 = zsB) (hne : b1 ≠ b2) (o : Nat) (n1 n2 : Nat) (hT : zSh n1 = zsT) (hT2 : zSh n2 = zsT) (t : Nat) (hM : cOk o b1 b2 M) (h7 : M.1 n2 7 = nI (cM M.1 n2)) (h8 : cM M.1 n2 ≤ 8) (hk1 : tOk M.1 n1) (hq : pOk (cM M.1 n2) M) : CT l y_C_judgeNewMembers w_C_judgeNewMembers rm_C_judgeNewMembers w zN [.ref (w.2.2 + 272), .ref (w.2.2 + n1), .ref (w.2.2 + n2), .int (nI t)] M none (jno M n1 n2 t (cM M.1 n2) 12 2) := by
  refine CT.of (cc := b_C_judgeNewMembers) (own := "CompatibilityJudge$Comparison") (by decide) rfl rfl (Nat.le_of_ble_eq_true rfl) ?_
  intro p9 e9 s9 m9 ag9 bl9 mt9 c9 K
  show XW p9 l e9 (rm_C_judgeNewMembers) s9 m9 ag9 bl9 mt9 c9 7 0 0 (MQ bl9 (CQ w zN none (jno M n1 n2 t (cM M.1 n2) 12 2)) ag9 s9 0 0 (fun q : Nat => w.2.2 ≤ q)) w zN M 0 [(0, .ref (w.2.2 + 272)), (1, .ref (w.2.2 + n1)), (2, .ref (w.2.2 + n2)), (3, .int (nI t))] []
  refine x_bipush (pc := 0) K (v := nI 12) d_C_judgeNewMembers_0 (by decide) ?_
  refine x_istore (pc := 2) K (lv' := [(4, .int (nI 12)), (0, .ref (w.2.2 + 272)), (1, .ref (w.2.2 + n1)), (2, .ref (w.2.2 + n2)), (3, .int (nI t))]) d_C_judgeNewMembers_2 (by decide) rfl ?_
  refine x_lv [0, 1, 2, 3, 4] rfl ?_
  exact lp_C_judgeNewMembers l w M b1 b2 h1 h2 hne o n1 n2 hT hT2 t (cM M.1 n2) h8 _ K 3 12 M (by omega) (by omega) hM h7 hk1 hq rfl
/-- a step that only lists and looks up: the types' rows stay -/
def kept (M M' : fl_M) : Prop := ∀ a k, zSh a ≠ zaI 12 → a < 272 → M'.1 a k = M.1 a k
theorem kept.rf {M : fl_M} : kept M M := fun _ _ _ _ => rfl
theorem kept.tr {A B C : fl_M} (h : kept A B) (g : kept B C) : kept A C := fun a k h1 h2 => (g a k h1 h2).trans (h a k h1 h2)
theorem kept_add {M : fl_M} {r t d : Int32} : kept M (cAdd M r t d) := fun a k _ h => cAdd_rd (Or.inl h)
theorem kept_tOk {M M' : fl_M} {n : Nat} (h : kept M M') (hT : zSh n = zsT) (q : tOk M.1 n) : tOk M'.1 n := by
  have e : ∀ k, M'.1 n k = M.1 n k := fun k => h n k (by rw [hT]; decide) (neTC hT)
  unfold tOk cI cM
  rw [e 5, e 7]
  exact q
theorem kept_cM {M M' : fl_M} {n : Nat} (h : kept M M') (hT : zSh n = zsT) : cM M'.1 n = cM M.1 n := by
  unfold cM
  rw [h n 7 (by rw [hT]; decide) (neTC hT)]
theorem jhl_ok {o b1 b2 : Nat} (h1 : zSh b1 = zsB) (h2 : zSh b2 = zsB) {lost t : Int32} : ∀ (k i : Nat) (M : fl_M), cOk o b1 b2 M → cOk o b1 b2 (jhl M lost t i k) ∧ kept M (jhl M lost t i k) ∧ (jhl M lost t i k).2 = M.2 := by
  intro k
  induction k with
  | zero => intro i M h; exact ⟨h, kept.rf, rfl⟩
  | succ k ih =>
    intro i M h
    rw [jhl]
    split
    · obtain ⟨a, b, c⟩ := ih (i + 1) _ (cOk_add h1 h2 (r := 4) (t := t) (d := nI i) h)
      exact ⟨a, kept_add.tr b, c.trans cAdd_2⟩
    · exact ih (i + 1) _ h
theorem jhA_ok {o b1 b2 : Nat} (h1 : zSh b1 = zsB) (h2 : zSh b2 = zsB) {M : fl_M} {n1 n2 : Nat} {f r t : Int32} (h : cOk o b1 b2 M) : cOk o b1 b2 (jhA M n1 n2 f r t) ∧ kept M (jhA M n1 n2 f r t) ∧ (jhA M n1 n2 f r t).2 = M.2 := by
  unfold jhA
  split
  · exact ⟨cOk_add h1 h2 h, kept_add, cAdd_2⟩
  · exact ⟨h, kept.rf, rfl⟩
theorem jh_ok {o b1 b2 : Nat} (h1 : zSh b1 = zsB) (h2 : zSh b2 = zsB) {M : fl_M} {n1 n2 : Nat} {t : Int32} (h : cOk o b1 b2 M) : cOk o b1 b2 (jh M n1 n2 t) ∧ kept M (jh M n1 n2 t) ∧ (jh M n1 n2 t).2 = M.2 := by
  obtain ⟨a1, b1', c1⟩ := jhA_ok (n1 := n1) (n2 := n2) (f := 2) (r := 2) (t := t) h1 h2 h
  obtain ⟨a2, b2', c2⟩ := jhA_ok (n1 := n1) (n2 := n2) (f := 4) (r := 3) (t := t) h1 h2 a1
  obtain ⟨a3, b3', c3⟩ := jhl_ok (lost := (jhA (jhA M n1 n2 2 2 t) n1 n2 4 3 t).1 n1 9 &&& ((jhA (jhA M n1 n2 2 2 t) n1 n2 4 3 t).1 n2 9 ^^^ (-1))) (t := t) h1 h2 12 0 _ a2
  exact ⟨a3, (b1'.tr b2').tr b3', c3.trans (c2.trans c1)⟩
theorem fpl_ok {o b1 b2 : Nat} (h1 : zSh b1 = zsB) (h2 : zSh b2 = zsB) (hne : b1 ≠ b2) {n1 b t : Nat} (hB : zSh b = zsB) (hb : b = b1 ∨ b = b2) (ht : t < 12) : ∀ (k i : Nat) (M : fl_M), cOk o b1 b2 M → pOk i M → cOk o b1 b2 (fpl M n1 b t i k) ∧ kept M (fpl M n1 b t i k) ∧ pOk (i + k) (fpl M n1 b t i k) := by
  intro k
  induction k with
  | zero => intro i M h hp; exact ⟨h, kept.rf, hp⟩
  | succ k ih =>
    intro i M h hp
    rw [fpl]
    have hX1 : cOk o b1 b2 (whM M b t (M.1 (n1 + 3 + i) 0) (M.1 (n1 + 3 + i) 1)) := cOk_wh h1 h2 hne hb ht h
    have hk : kept M (wR (whM M b t (M.1 (n1 + 3 + i) 0) (M.1 (n1 + 3 + i) 1)) 276 i (fpR M b t (n1 + 3 + i))) := fun a j q1 q2 => whM_rd (fun e => q1 (by rw [e]; exact shBf hB))
    have hp' : pOk (i + 1) (wR (whM M b t (M.1 (n1 + 3 + i) 0) (M.1 (n1 + 3 + i) 1)) 276 i (fpR M b t (n1 + 3 + i))) := by
      intro j hj q hq
      by_cases e : j = i
      · subst e
        have hq : fpR M b t (n1 + 3 + j) = some q := by rw [← hq]; exact fl_u_self.symm
        unfold fpR at hq
        split at hq
        · cases hq
        · rename_i c
          have hw := (whr_in ht (cOk_b h hb)).resolve_left c
          obtain ⟨j2, e1, e2⟩ := Option.map_eq_some_iff.mp hq
          rw [← e2]
          have hl := (fnd_lt e1).2.1
          have h8 := ((cOk_b hX1 hb).1 _ hw.2).1.2.2
          have h8 : cM (whM M b t (M.1 (n1 + 3 + j) 0) (M.1 (n1 + 3 + j) 1)).1 (tn b (whr M b t (M.1 (n1 + 3 + j) 0) (M.1 (n1 + 3 + j) 1))) ≤ 8 := h8
          exact shTm (shBt hB hw.2) (by omega)
      · have hq : (whM M b t (M.1 (n1 + 3 + i) 0) (M.1 (n1 + 3 + i) 1)).2 276 j = some q := by rw [← hq]; exact (fl_u_col e).symm
        rw [whM_2] at hq
        exact hp j (by omega) q hq
    obtain ⟨a, b, c⟩ := ih (i + 1) _ (cOk_p hX1) hp'
    exact ⟨a, hk.tr b, by rw [show i + (k + 1) = i + 1 + k by omega]; exact c⟩
theorem joi_ok {o b1 b2 : Nat} (h1 : zSh b1 = zsB) (h2 : zSh b2 = zsB) {n1 r t : Nat} : ∀ (k i : Nat) (M : fl_M), cOk o b1 b2 M → cOk o b1 b2 (joi M n1 r t i k) ∧ kept M (joi M n1 r t i k) ∧ (joi M n1 r t i k).2 = M.2 := by
  intro k
  induction k with
  | zero => intro i M h; exact ⟨h, kept.rf, rfl⟩
  | succ k ih =>
    intro i M h
    rw [joi]
    by_cases q : (¬ (M.1 (n1 + 3 + i) 2 &&& 3) < 2) ∧ brP M r n1 i
    · rw [cIf_t q]
      obtain ⟨a, b, c⟩ := ih (i + 1) _ (cOk_add h1 h2 (r := nI r) (t := nI t) (d := nI i) h)
      exact ⟨a, kept_add.tr b, c.trans cAdd_2⟩
    · rw [cIf_f q]
      exact ih (i + 1) _ h
theorem joo_ok {o b1 b2 : Nat} (h1 : zSh b1 = zsB) (h2 : zSh b2 = zsB) {n1 t c : Nat} : ∀ (k r : Nat) (M : fl_M), cOk o b1 b2 M → cOk o b1 b2 (joo M n1 t c r k) ∧ kept M (joo M n1 t c r k) ∧ (joo M n1 t c r k).2 = M.2 := by
  intro k
  induction k with
  | zero => intro r M h; exact ⟨h, kept.rf, rfl⟩
  | succ k ih =>
    intro r M h
    rw [joo]
    obtain ⟨a, b, c1⟩ := joi_ok (n1 := n1) (r := r) (t := t) h1 h2 c 0 M h
    obtain ⟨a2, b2', c2⟩ := ih (r + 1) _ a
    exact ⟨a2, b.tr b2', c2.trans c1⟩
theorem jni_ok {o b1 b2 : Nat} (h1 : zSh b1 = zsB) (h2 : zSh b2 = zsB) {n1 n2 r t : Nat} : ∀ (k i : Nat) (M : fl_M), cOk o b1 b2 M → cOk o b1 b2 (jni M n1 n2 r t i k) ∧ kept M (jni M n1 n2 r t i k) ∧ (jni M n1 n2 r t i k).2 = M.2 := by
  intro k
  induction k with
  | zero => intro i M h; exact ⟨h, kept.rf, rfl⟩
  | succ k ih =>
    intro i M h
    rw [jni]
    by_cases q : tOwn M.1 n1 (M.1 (n2 + 3 + i) 0) (M.1 (n2 + 3 + i) 1) = none ∧ bnP M r n2 i
    · rw [cIf_t q]
      obtain ⟨a, b, c⟩ := ih (i + 1) _ (cOk_add h1 h2 (r := nI r) (t := nI t) (d := nI i) h)
      exact ⟨a, kept_add.tr b, c.trans cAdd_2⟩
    · rw [cIf_f q]
      exact ih (i + 1) _ h
theorem jno_ok {o b1 b2 : Nat} (h1 : zSh b1 = zsB) (h2 : zSh b2 = zsB) {n1 n2 t c : Nat} : ∀ (k r : Nat) (M : fl_M), cOk o b1 b2 M → cOk o b1 b2 (jno M n1 n2 t c r k) ∧ kept M (jno M n1 n2 t c r k) ∧ (jno M n1 n2 t c r k).2 = M.2 := by
  intro k
  induction k with
  | zero => intro r M h; exact ⟨h, kept.rf, rfl⟩
  | succ k ih =>
    intro r M h
    rw [jno]
    obtain ⟨a, b, c1⟩ := jni_ok (n1 := n1) (n2 := n2) (r := r) (t := t) h1 h2 c 0 M h
    obtain ⟨a2, b2', c2⟩ := ih (r + 1) _ a
    exact ⟨a2, b.tr b2', c2.trans c1⟩
theorem pOk_0 {M : fl_M} : pOk 0 M := fun i hi => absurd hi (by omega)
theorem pOk_2 {c : Nat} {M M' : fl_M} (h : pOk c M) (e : M'.2 = M.2) : pOk c M' := fun i hi q hq => h i hi q (by rw [← e]; exact hq)
noncomputable def jt1 (M : fl_M) (b1 b2 t : Nat) : fl_M := fpl (jh M (b1 + 2 + 11 * t) (b2 + 2 + 11 * t) (nI t)) (b1 + 2 + 11 * t) b2 t 0 (cM (jh M (b1 + 2 + 11 * t) (b2 + 2 + 11 * t) (nI t)).1 (b1 + 2 + 11 * t))
noncomputable def jt2 (M : fl_M) (b1 b2 t : Nat) : fl_M := joo (jt1 M b1 b2 t) (b1 + 2 + 11 * t) t (cM (jt1 M b1 b2 t).1 (b1 + 2 + 11 * t)) 5 7
noncomputable def jt3 (M : fl_M) (b1 b2 t : Nat) : fl_M := fpl (jt2 M b1 b2 t) (b2 + 2 + 11 * t) b1 t 0 (cM (jt2 M b1 b2 t).1 (b2 + 2 + 11 * t))
noncomputable def jt4 (M : fl_M) (b1 b2 t : Nat) : fl_M := jno (jt3 M b1 b2 t) (b1 + 2 + 11 * t) (b2 + 2 + 11 * t) t (cM (jt3 M b1 b2 t).1 (b2 + 2 + 11 * t)) 12 2
noncomputable def jt (M : fl_M) (b1 b2 t : Nat) : fl_M := if ¬ (¬ M.1 (b2 + 2 + 11 * t) 0 = 0 ∧ ¬ M.1 (b2 + 2 + 11 * t) 2 &&& 1 = 0) then cAdd M 0 (nI t) (-1) else if M.1 (b2 + 2 + 11 * t) 1 = M.1 (b1 + 2 + 11 * t) 1 then jt4 M b1 b2 t else cAdd M 1 (nI t) (-1)
theorem jt_all {o b1 b2 t : Nat} {M : fl_M} (h1 : zSh b1 = zsB) (h2 : zSh b2 = zsB) (hne : b1 ≠ b2) (ht : t < 12) (h : cOk o b1 b2 M) :
    (cOk o b1 b2 (jh M (b1 + 2 + 11 * t) (b2 + 2 + 11 * t) (nI t)) ∧ kept M (jh M (b1 + 2 + 11 * t) (b2 + 2 + 11 * t) (nI t))) ∧ (cOk o b1 b2 (jt1 M b1 b2 t) ∧ kept M (jt1 M b1 b2 t) ∧ pOk (cM (jt1 M b1 b2 t).1 (b1 + 2 + 11 * t)) (jt1 M b1 b2 t)) ∧ (cOk o b1 b2 (jt2 M b1 b2 t) ∧ kept M (jt2 M b1 b2 t)) ∧ (cOk o b1 b2 (jt3 M b1 b2 t) ∧ kept M (jt3 M b1 b2 t) ∧ pOk (cM (jt3 M b1 b2 t).1 (b2 + 2 + 11 * t)) (jt3 M b1 b2 t)) ∧ (cOk o b1 b2 (jt4 M b1 b2 t) ∧ kept M (jt4 M b1 b2 t)) := by
  have hT1 := shBt h1 ht
  have hT2 := shBt h2 ht
  obtain ⟨a1, a2, a3⟩ := jh_ok (n1 := b1 + 2 + 11 * t) (n2 := b2 + 2 + 11 * t) (t := nI t) h1 h2 h
  obtain ⟨c1, c2, c3⟩ := fpl_ok (n1 := b1 + 2 + 11 * t) h1 h2 hne h2 (Or.inr rfl) ht (cM (jh M (b1 + 2 + 11 * t) (b2 + 2 + 11 * t) (nI t)).1 (b1 + 2 + 11 * t)) 0 _ a1 pOk_0
  have k1 : kept M (jt1 M b1 b2 t) := a2.tr c2
  have p1 : pOk (cM (jt1 M b1 b2 t).1 (b1 + 2 + 11 * t)) (jt1 M b1 b2 t) := by
    rw [kept_cM k1 hT1, ← kept_cM a2 hT1]
    rw [Nat.zero_add] at c3
    exact c3
  obtain ⟨d1, d2, d3⟩ := joo_ok (n1 := b1 + 2 + 11 * t) (t := t) (c := cM (jt1 M b1 b2 t).1 (b1 + 2 + 11 * t)) h1 h2 7 5 _ c1
  have k2 : kept M (jt2 M b1 b2 t) := k1.tr d2
  obtain ⟨e1, e2, e3⟩ := fpl_ok (n1 := b2 + 2 + 11 * t) h1 h2 hne h1 (Or.inl rfl) ht (cM (jt2 M b1 b2 t).1 (b2 + 2 + 11 * t)) 0 _ d1 pOk_0
  have k3 : kept M (jt3 M b1 b2 t) := k2.tr e2
  have p3 : pOk (cM (jt3 M b1 b2 t).1 (b2 + 2 + 11 * t)) (jt3 M b1 b2 t) := by
    rw [kept_cM k3 hT2, ← kept_cM k2 hT2]
    rw [Nat.zero_add] at e3
    exact e3
  obtain ⟨f1, f2, f3⟩ := jno_ok (n1 := b1 + 2 + 11 * t) (n2 := b2 + 2 + 11 * t) (t := t) (c := cM (jt3 M b1 b2 t).1 (b2 + 2 + 11 * t)) h1 h2 2 12 _ e1
  exact ⟨⟨a1, a2⟩, ⟨c1, k1, p1⟩, ⟨d1, k2⟩, ⟨e1, k3, p3⟩, f1, k3.tr f2⟩
theorem jt_ok {o b1 b2 t : Nat} {M : fl_M} (h1 : zSh b1 = zsB) (h2 : zSh b2 = zsB) (hne : b1 ≠ b2) (ht : t < 12) (h : cOk o b1 b2 M) : cOk o b1 b2 (jt M b1 b2 t) ∧ kept M (jt M b1 b2 t) := by
  unfold jt
  split
  · exact ⟨cOk_add h1 h2 h, kept_add⟩
  · split
    · exact (jt_all h1 h2 hne ht h).2.2.2.2
    · exact ⟨cOk_add h1 h2 h, kept_add⟩
set_option maxHeartbeats 4000000 in
set_option maxRecDepth 100000 in
theorem c_C_judgeType (l : Launch) (w : fl_W) (M : fl_M) (b1 b2 : Nat) (h1 : zSh b1 = zsB) (h2 : zSh b2 = zsB) (hne : b1 ≠ b2) (o : Nat) (t : Nat) (ht : t < 12) (hM : cOk o b1 b2 M) : CT l y_C_judgeType w_C_judgeType rm_C_judgeType w zN [.ref (w.2.2 + 272), .ref (w.2.2 + b1), .ref (w.2.2 + b2), .int (nI t)] M none (jt M b1 b2 t) := by
  refine CT.of (cc := b_C_judgeType) (own := "CompatibilityJudge$Comparison") (by decide) rfl rfl (Nat.le_of_ble_eq_true rfl) ?_
  intro p9 e9 s9 m9 ag9 bl9 mt9 c9 K
  have hA := jt_all h1 h2 hne ht hM
  have hR := hM.1
  show XW p9 l e9 (rm_C_judgeType) s9 m9 ag9 bl9 mt9 c9 6 0 0 (MQ bl9 (CQ w zN none (jt M b1 b2 t)) ag9 s9 0 0 (fun q : Nat => w.2.2 ≤ q)) w zN M 0 [(0, .ref (w.2.2 + 272)), (1, .ref (w.2.2 + b1)), (2, .ref (w.2.2 + b2)), (3, .int (nI t))] []
  refine x_aload_n (pc := 0) K 1 d_C_judgeType_0 rfl ?_
  refine x_getr (pc := 1) K (n := b1) (n' := b1 + 1) (k := 0) (zlt h1) h1 rfl (hR.Ba h1) rfl (by decide) (fun _ q => zmem (uw_B _ q)) (zmem lk_C_35) d_C_judgeType_1 ?_
  refine x_iload_n (pc := 4) K 3 d_C_judgeType_4 rfl ?_
  refine x_aald (pc := 5) K (n := b1 + 1) (n' := b1 + 2 + 11 * t) (j := t) rfl ht (hR.Bt h1 ht) (zlt (shBa h1)) (shBa h1) rfl (by decide) d_C_judgeType_5 ?_
  refine x_astore (pc := 6) K (lv' := [(4, .ref (w.2.2 + (b1 + 2 + 11 * t))), (0, .ref (w.2.2 + 272)), (1, .ref (w.2.2 + b1)), (2, .ref (w.2.2 + b2)), (3, .int (nI t))]) d_C_judgeType_6 (by decide) rfl ?_
  refine x_aload_n (pc := 8) K 3 d_C_judgeType_8 rfl ?_
  refine x_getr (pc := 9) K (n := b2) (n' := b2 + 1) (k := 0) (zlt h2) h2 rfl (hR.Ba h2) rfl (by decide) (fun _ q => zmem (uw_B _ q)) (zmem lk_C_35) d_C_judgeType_9 ?_
  refine x_iload_n (pc := 12) K 4 d_C_judgeType_12 rfl ?_
  refine x_aald (pc := 13) K (n := b2 + 1) (n' := b2 + 2 + 11 * t) (j := t) rfl ht (hR.Bt h2 ht) (zlt (shBa h2)) (shBa h2) rfl (by decide) d_C_judgeType_13 ?_
  refine x_astore (pc := 14) K (lv' := [(5, .ref (w.2.2 + (b2 + 2 + 11 * t))), (4, .ref (w.2.2 + (b1 + 2 + 11 * t))), (0, .ref (w.2.2 + 272)), (1, .ref (w.2.2 + b1)), (2, .ref (w.2.2 + b2)), (3, .int (nI t))]) d_C_judgeType_14 (by decide) rfl ?_
  refine x_aload (pc := 16) K 0 d_C_judgeType_16 rfl ?_
  refine x_callV (pc := 18) K (As := []) (rest := []) (c_T_isPublic l w M (b2 + 2 + 11 * t) (shBt h2 ht)) (zcwV K.ts lk_C_40 im_T_isPublic se_T_isPublic ii_T co_T_isPublic pd_T_isPublic ⟨rfl, rfl⟩ ⟨by decide, by decide⟩) (zlt (shBt h2 ht)) (shBt h2 ht) rfl rfl rfl (Nat.le_of_ble_eq_true rfl) ⟨Nat.zero_le _, Nat.zero_le _⟩ d_C_judgeType_18 ?_
  refine x_ifneB (pc := 21) K (tgt := 34) d_C_judgeType_21 (by decide) (fun c21 => ?_) (fun c21 => ?_)
  · skip
    refine x_aload (pc := 34) K 0 d_C_judgeType_34 rfl ?_
    refine x_geti (pc := 36) K (n := b2 + 2 + 11 * t) (k := 1) (zlt (shBt h2 ht)) (shBt h2 ht) rfl rfl (by decide) (fun _ q => zmem (uw_T _ q)) (zmem lk_C_54) d_C_judgeType_36 ?_
    refine x_aload (pc := 39) K 1 d_C_judgeType_39 rfl ?_
    refine x_geti (pc := 41) K (n := b1 + 2 + 11 * t) (k := 1) (zlt (shBt h1 ht)) (shBt h1 ht) rfl rfl (by decide) (fun _ q => zmem (uw_T _ q)) (zmem lk_C_54) d_C_judgeType_41 ?_
    refine x_icmp_eq (pc := 44) K (tgt := 57) d_C_judgeType_44 (by decide) (fun c44 => ?_) (fun c44 => ?_)
    · skip
      refine x_aload_n (pc := 57) K 2 d_C_judgeType_57 rfl ?_
      refine x_aload (pc := 58) K 1 d_C_judgeType_58 rfl ?_
      refine x_aload (pc := 60) K 0 d_C_judgeType_60 rfl ?_
      refine x_iload_n (pc := 62) K 5 d_C_judgeType_62 rfl ?_
      refine x_callVv (pc := 63) K (As := [.ref (w.2.2 + (b1 + 2 + 11 * t)), .ref (w.2.2 + (b2 + 2 + 11 * t)), .int (nI t)]) (rest := []) (c_C_judgeHeader l w M b1 b2 h1 h2 o (b1 + 2 + 11 * t) (b2 + 2 + 11 * t) (shBt h1 ht) (shBt h2 ht) t hM) (zcwV K.ts lk_C_57 im_C_judgeHeader se_C_judgeHeader ii_C co_C_judgeHeader pd_C_judgeHeader ⟨rfl, rfl⟩ ⟨by decide, by decide⟩) (zlt shC) shC rfl rfl rfl (Nat.le_of_ble_eq_true rfl) ⟨Nat.zero_le _, Nat.zero_le _⟩ d_C_judgeType_63 ?_
      refine x_aload_n (pc := 66) K 2 d_C_judgeType_66 rfl ?_
      refine x_aload (pc := 67) K 1 d_C_judgeType_67 rfl ?_
      refine x_aload_n (pc := 69) K 4 d_C_judgeType_69 rfl ?_
      refine x_iload_n (pc := 70) K 5 d_C_judgeType_70 rfl ?_
      refine x_callVv (pc := 71) K (As := [.ref (w.2.2 + (b1 + 2 + 11 * t)), .ref (w.2.2 + b2), .int (nI t)]) (rest := []) (c_C_findPartners l w (jh M (b1 + 2 + 11 * t) (b2 + 2 + 11 * t) (nI t)) b1 b2 h1 h2 hne o (b1 + 2 + 11 * t) (shBt h1 ht) b2 h2 (Or.inr rfl) t ht hA.1.1 (kept_tOk hA.1.2 (shBt h1 ht) (hM.2.1.1 t ht).1).2.1 (kept_tOk hA.1.2 (shBt h1 ht) (hM.2.1.1 t ht).1).2.2) (zcwV K.ts lk_C_61 im_C_findPartners se_C_findPartners ii_C co_C_findPartners pd_C_findPartners ⟨rfl, rfl⟩ ⟨by decide, by decide⟩) (zlt shC) shC rfl rfl rfl (Nat.le_of_ble_eq_true rfl) ⟨Nat.zero_le _, Nat.zero_le _⟩ d_C_judgeType_71 ?_
      refine x_aload_n (pc := 74) K 2 d_C_judgeType_74 rfl ?_
      refine x_aload (pc := 75) K 1 d_C_judgeType_75 rfl ?_
      refine x_iload_n (pc := 77) K 5 d_C_judgeType_77 rfl ?_
      refine x_callVv (pc := 78) K (As := [.ref (w.2.2 + (b1 + 2 + 11 * t)), .int (nI t)]) (rest := []) (c_C_judgeOldMembers l w (jt1 M b1 b2 t) b1 b2 h1 h2 hne o (b1 + 2 + 11 * t) (shBt h1 ht) t hA.2.1.1 (kept_tOk hA.2.1.2.1 (shBt h1 ht) (hM.2.1.1 t ht).1).2.1 (kept_tOk hA.2.1.2.1 (shBt h1 ht) (hM.2.1.1 t ht).1).2.2 hA.2.1.2.2) (zcwV K.ts lk_C_65 im_C_judgeOldMembers se_C_judgeOldMembers ii_C co_C_judgeOldMembers pd_C_judgeOldMembers ⟨rfl, rfl⟩ ⟨by decide, by decide⟩) (zlt shC) shC rfl rfl rfl (Nat.le_of_ble_eq_true rfl) ⟨Nat.zero_le _, Nat.zero_le _⟩ d_C_judgeType_78 ?_
      refine x_aload_n (pc := 81) K 2 d_C_judgeType_81 rfl ?_
      refine x_aload (pc := 82) K 0 d_C_judgeType_82 rfl ?_
      refine x_aload_n (pc := 84) K 3 d_C_judgeType_84 rfl ?_
      refine x_iload_n (pc := 85) K 5 d_C_judgeType_85 rfl ?_
      refine x_callVv (pc := 86) K (As := [.ref (w.2.2 + (b2 + 2 + 11 * t)), .ref (w.2.2 + b1), .int (nI t)]) (rest := []) (c_C_findPartners l w (jt2 M b1 b2 t) b1 b2 h1 h2 hne o (b2 + 2 + 11 * t) (shBt h2 ht) b1 h1 (Or.inl rfl) t ht hA.2.2.1.1 (kept_tOk hA.2.2.1.2 (shBt h2 ht) (hM.2.2.1.1 t ht).1).2.1 (kept_tOk hA.2.2.1.2 (shBt h2 ht) (hM.2.2.1.1 t ht).1).2.2) (zcwV K.ts lk_C_61 im_C_findPartners se_C_findPartners ii_C co_C_findPartners pd_C_findPartners ⟨rfl, rfl⟩ ⟨by decide, by decide⟩) (zlt shC) shC rfl rfl rfl (Nat.le_of_ble_eq_true rfl) ⟨Nat.zero_le _, Nat.zero_le _⟩ d_C_judgeType_86 ?_
      refine x_aload_n (pc := 89) K 2 d_C_judgeType_89 rfl ?_
      refine x_aload (pc := 90) K 1 d_C_judgeType_90 rfl ?_
      refine x_aload (pc := 92) K 0 d_C_judgeType_92 rfl ?_
      refine x_iload_n (pc := 94) K 5 d_C_judgeType_94 rfl ?_
      refine x_callVv (pc := 95) K (As := [.ref (w.2.2 + (b1 + 2 + 11 * t)), .ref (w.2.2 + (b2 + 2 + 11 * t)), .int (nI t)]) (rest := []) (c_C_judgeNewMembers l w (jt3 M b1 b2 t) b1 b2 h1 h2 hne o (b1 + 2 + 11 * t) (b2 + 2 + 11 * t) (shBt h1 ht) (shBt h2 ht) t hA.2.2.2.1.1 (kept_tOk hA.2.2.2.1.2.1 (shBt h2 ht) (hM.2.2.1.1 t ht).1).2.1 (kept_tOk hA.2.2.2.1.2.1 (shBt h2 ht) (hM.2.2.1.1 t ht).1).2.2 (kept_tOk hA.2.2.2.1.2.1 (shBt h1 ht) (hM.2.1.1 t ht).1) hA.2.2.2.1.2.2) (zcwV K.ts lk_C_69 im_C_judgeNewMembers se_C_judgeNewMembers ii_C co_C_judgeNewMembers pd_C_judgeNewMembers ⟨rfl, rfl⟩ ⟨by decide, by decide⟩) (zlt shC) shC rfl rfl rfl (Nat.le_of_ble_eq_true rfl) ⟨Nat.zero_le _, Nat.zero_le _⟩ d_C_judgeType_95 ?_
      exact x_vret (pc := 98) K rfl (by unfold jt; rw [if_neg (fun q => q c21), if_pos c44]; rfl) d_C_judgeType_98
    · skip
      refine x_aload_n (pc := 47) K 2 d_C_judgeType_47 rfl ?_
      refine x_iconst (pc := 48) K (v := 1) d_C_judgeType_48 (by decide) ?_
      refine x_iload_n (pc := 49) K 5 d_C_judgeType_49 rfl ?_
      refine x_iconst (pc := 50) K (v := (-1)) d_C_judgeType_50 (by decide) ?_
      refine x_callVv (pc := 51) K (As := [.int 1, .int (nI t), .int (-1)]) (rest := []) (c_C_add l w M o hM.1 hM.2.2.2 1 (nI t) (-1)) (zcwV K.ts lk_C_50 im_C_add se_C_add ii_C co_C_add pd_C_add ⟨rfl, rfl⟩ ⟨by decide, by decide⟩) (zlt shC) shC rfl rfl rfl (Nat.le_of_ble_eq_true rfl) ⟨Nat.zero_le _, Nat.zero_le _⟩ d_C_judgeType_51 ?_
      refine x_goto (pc := 54) K (tgt := 98) d_C_judgeType_54 (by decide) ?_
      exact x_vret (pc := 98) K rfl (by unfold jt; rw [if_neg (fun q => q c21), if_neg c44]) d_C_judgeType_98
  · skip
    refine x_aload_n (pc := 24) K 2 d_C_judgeType_24 rfl ?_
    refine x_iconst (pc := 25) K (v := 0) d_C_judgeType_25 (by decide) ?_
    refine x_iload_n (pc := 26) K 5 d_C_judgeType_26 rfl ?_
    refine x_iconst (pc := 27) K (v := (-1)) d_C_judgeType_27 (by decide) ?_
    refine x_callVv (pc := 28) K (As := [.int 0, .int (nI t), .int (-1)]) (rest := []) (c_C_add l w M o hM.1 hM.2.2.2 0 (nI t) (-1)) (zcwV K.ts lk_C_50 im_C_add se_C_add ii_C co_C_add pd_C_add ⟨rfl, rfl⟩ ⟨by decide, by decide⟩) (zlt shC) shC rfl rfl rfl (Nat.le_of_ble_eq_true rfl) ⟨Nat.zero_le _, Nat.zero_le _⟩ d_C_judgeType_28 ?_
    refine x_goto (pc := 31) K (tgt := 98) d_C_judgeType_31 (by decide) ?_
    exact x_vret (pc := 98) K rfl ((if_pos c21).symm) d_C_judgeType_98
noncomputable def bul (M : fl_M) (b1 b2 : Nat) : Nat → Nat → fl_M
  | _, 0 => M
  | t, k + 1 => bul (if ¬ M.1 (b1 + 2 + 11 * t) 0 = 0 ∧ ¬ M.1 (b1 + 2 + 11 * t) 2 &&& 1 = 0 then jt M b1 b2 t else M) b1 b2 (t + 1) k
noncomputable def but (M : fl_M) (b1 b2 : Nat) : fl_M := if M.1 272 4 = 0 then M else bul (wI (wI M 272 4 0) 272 3 0) b1 b2 0 12
set_option maxHeartbeats 4000000 in
set_option maxRecDepth 100000 in
theorem lp_C_bringUpToDate (l : Launch) (w : fl_W) (M : fl_M) (b1 b2 : Nat) (h1 : zSh b1 = zsB) (h2 : zSh b2 = zsB) (hne : b1 ≠ b2) (o : Nat) (Y : fl_M) {p9 : Program} {e9 : Env} {s9 : State} {m9 : MethodId} {ag9 : Array Value} {bl9 : List Frame} {mt9 : Method} {c9 : Code} (K : XC p9 s9 m9 ag9 mt9 c9 b_C_bringUpToDate 4 none w_C_bringUpToDate "CompatibilityJudge$Comparison" w) : ∀ (k : Nat) (i : Nat) (X : fl_M), i ≤ 12 → 12 + 1 ≤ i + k → cOk o b1 b2 X → bul X b1 b2 i (12 - i) = Y → XW p9 l e9 (rm_C_bringUpToDate) s9 m9 ag9 bl9 mt9 c9 4 0 0 (MQ bl9 (CQ w zN none Y) ag9 s9 0 0 (fun q : Nat => w.2.2 ≤ q)) w zN X 20 [(3, .int (nI i)), (0, .ref (w.2.2 + 272)), (1, .ref (w.2.2 + b1)), (2, .ref (w.2.2 + b2))] [] := by
  intro k
  induction k with
  | zero =>
    intro i X hi hk
    exact absurd hk (by omega)
  | succ k ih =>
    intro i X hi hk hX hf
    refine x_iload_n (pc := 20) K 0 d_C_bringUpToDate_20 rfl ?_
    refine x_bipush (pc := 21) K (v := nI 12) d_C_bringUpToDate_21 (by decide) ?_
    refine x_icmp_ge (pc := 23) K (tgt := 51) d_C_bringUpToDate_23 (by decide) (fun c23 => ?_) (fun c23 => ?_)
    · skip
      have hic : i = 12 := by have := (nI_leI (a := 12) (by omega) (by omega)).mp c23; omega
      rw [hic, Nat.sub_self] at hf
      exact x_vret (pc := 51) K rfl (by subst hf; rfl) d_C_bringUpToDate_51
    · skip
      have hic : i < 12 := Nat.not_le.mp (fun q => c23 (nI_le (a := 12) q (by omega)))
      rw [show 12 - i = (12 - (i + 1)) + 1 by omega, bul] at hf
      refine x_aload_n (pc := 26) K 2 d_C_bringUpToDate_26 rfl ?_
      refine x_getr (pc := 27) K (n := b1) (n' := b1 + 1) (k := 0) (zlt h1) h1 rfl (hX.1.Ba h1) rfl (by decide) (fun _ q => zmem (uw_B _ q)) (zmem lk_C_35) d_C_bringUpToDate_27 ?_
      refine x_iload_n (pc := 30) K 0 d_C_bringUpToDate_30 rfl ?_
      refine x_aald (pc := 31) K (n := b1 + 1) (n' := b1 + 2 + 11 * i) (j := i) rfl (by omega) (hX.1.Bt h1 (by omega)) (zlt (shBa h1)) (shBa h1) rfl (by decide) d_C_bringUpToDate_31 ?_
      refine x_callV (pc := 32) K (As := []) (rest := []) (c_T_isPublic l w X (b1 + 2 + 11 * i) (shBt h1 (by omega))) (zcwV K.ts lk_C_40 im_T_isPublic se_T_isPublic ii_T co_T_isPublic pd_T_isPublic ⟨rfl, rfl⟩ ⟨by decide, by decide⟩) (zlt (shBt h1 (by omega))) (shBt h1 (by omega)) rfl rfl rfl (Nat.le_of_ble_eq_true rfl) ⟨Nat.zero_le _, Nat.zero_le _⟩ d_C_bringUpToDate_32 ?_
      refine x_ifeqB (pc := 35) K (tgt := 45) d_C_bringUpToDate_35 (by decide) (fun c35 => ?_) (fun c35 => ?_)
      · skip
        rw [if_neg c35] at hf
        refine x_iinc (pc := 45) K (v := nI (i + 1)) (lv' := [(3, .int (nI (i + 1))), (0, .ref (w.2.2 + 272)), (1, .ref (w.2.2 + b1)), (2, .ref (w.2.2 + b2))]) 0 d_C_bringUpToDate_45 rfl (nI_1 _) (by decide) rfl ?_
        refine x_goto (pc := 48) K (tgt := 20) d_C_bringUpToDate_48 (by decide) ?_
        exact ih (i + 1) _ (by omega) (by omega) hX hf
      · skip
        rw [if_pos c35] at hf
        refine x_aload_n (pc := 38) K 1 d_C_bringUpToDate_38 rfl ?_
        refine x_aload_n (pc := 39) K 2 d_C_bringUpToDate_39 rfl ?_
        refine x_aload_n (pc := 40) K 3 d_C_bringUpToDate_40 rfl ?_
        refine x_iload_n (pc := 41) K 0 d_C_bringUpToDate_41 rfl ?_
        refine x_callVv (pc := 42) K (As := [.ref (w.2.2 + b1), .ref (w.2.2 + b2), .int (nI i)]) (rest := []) (c_C_judgeType l w X b1 b2 h1 h2 hne o i hic hX) (zcwV K.ts lk_C_46 im_C_judgeType se_C_judgeType ii_C co_C_judgeType pd_C_judgeType ⟨rfl, rfl⟩ ⟨by decide, by decide⟩) (zlt shC) shC rfl rfl rfl (Nat.le_of_ble_eq_true rfl) ⟨Nat.zero_le _, Nat.zero_le _⟩ d_C_bringUpToDate_42 ?_
        refine x_iinc (pc := 45) K (v := nI (i + 1)) (lv' := [(3, .int (nI (i + 1))), (0, .ref (w.2.2 + 272)), (1, .ref (w.2.2 + b1)), (2, .ref (w.2.2 + b2))]) 0 d_C_bringUpToDate_45 rfl (nI_1 _) (by decide) rfl ?_
        refine x_goto (pc := 48) K (tgt := 20) d_C_bringUpToDate_48 (by decide) ?_
        exact ih (i + 1) _ (by omega) (by omega) (jt_ok h1 h2 hne hic hX).1 hf
theorem cOk_go {o b1 b2 : Nat} {M : fl_M} (h1 : zSh b1 = zsB) (h2 : zSh b2 = zsB) (hR : zRf o M.2) (ha : bAll M.1 b1) (hb : bAll M.1 b2) : cOk o b1 b2 (wI (wI M 272 4 0) 272 3 0) := by
  have e : ∀ a k, a < 272 → (wI (wI M 272 4 0) 272 3 0).1 a k = M.1 a k := fun a k h => by rw [rdI_ne (Or.inl (by omega)), rdI_ne (Or.inl (by omega))]
  refine ⟨hR, bAll_congr h1 e ha, bAll_congr h2 e hb, ?_⟩
  unfold zOk cz
  rw [rdI_eq]
  exact ⟨by decide, by decide⟩
set_option maxHeartbeats 4000000 in
set_option maxRecDepth 100000 in
theorem c_C_bringUpToDate (l : Launch) (w : fl_W) (M : fl_M) (b1 b2 : Nat) (h1 : zSh b1 = zsB) (h2 : zSh b2 = zsB) (hne : b1 ≠ b2) (o : Nat) (hR : zRf o M.2) (ha : bAll M.1 b1) (hb : bAll M.1 b2) : CT l y_C_bringUpToDate w_C_bringUpToDate rm_C_bringUpToDate w zN [.ref (w.2.2 + 272), .ref (w.2.2 + b1), .ref (w.2.2 + b2)] M none (but M b1 b2) := by
  refine CT.of (cc := b_C_bringUpToDate) (own := "CompatibilityJudge$Comparison") (by decide) rfl rfl (Nat.le_of_ble_eq_true rfl) ?_
  intro p9 e9 s9 m9 ag9 bl9 mt9 c9 K
  show XW p9 l e9 (rm_C_bringUpToDate) s9 m9 ag9 bl9 mt9 c9 4 0 0 (MQ bl9 (CQ w zN none (but M b1 b2)) ag9 s9 0 0 (fun q : Nat => w.2.2 ≤ q)) w zN M 0 [(0, .ref (w.2.2 + 272)), (1, .ref (w.2.2 + b1)), (2, .ref (w.2.2 + b2))] []
  refine x_aload_n (pc := 0) K 0 d_C_bringUpToDate_0 rfl ?_
  refine x_geti (pc := 1) K (n := 272) (k := 4) (zlt shC) shC rfl rfl (by decide) (fun _ q => zmem (uw_C _ q)) (zmem lk_C_27) d_C_bringUpToDate_1 ?_
  refine x_if_ne (pc := 4) K (tgt := 8) d_C_bringUpToDate_4 (by decide) (fun c4 => ?_) (fun c4 => ?_)
  · skip
    refine x_aload_n (pc := 8) K 0 d_C_bringUpToDate_8 rfl ?_
    refine x_iconst (pc := 9) K (v := 0) d_C_bringUpToDate_9 (by decide) ?_
    refine x_puti (pc := 10) K (n := 272) (k := 4) (x := 0) uY_C tk_C nm_C (zlt shC) shC rfl rfl (by decide) (fun _ q => zmem (uw_C _ q)) (zmem lk_C_27) rfl rfl rfl d_C_bringUpToDate_10 ?_
    refine x_aload_n (pc := 13) K 0 d_C_bringUpToDate_13 rfl ?_
    refine x_iconst (pc := 14) K (v := 0) d_C_bringUpToDate_14 (by decide) ?_
    refine x_puti (pc := 15) K (n := 272) (k := 3) (x := 0) uY_C tk_C nm_C (zlt shC) shC rfl rfl (by decide) (fun _ q => zmem (uw_C _ q)) (zmem lk_C_31) rfl rfl rfl d_C_bringUpToDate_15 ?_
    refine x_iconst (pc := 18) K (v := nI 0) d_C_bringUpToDate_18 (by decide) ?_
    refine x_istore_n (pc := 19) K (lv' := [(3, .int (nI 0)), (0, .ref (w.2.2 + 272)), (1, .ref (w.2.2 + b1)), (2, .ref (w.2.2 + b2))]) d_C_bringUpToDate_19 (by decide) rfl ?_
    rw [show but M b1 b2 = bul (wI (wI M 272 4 0) 272 3 0) b1 b2 0 12 from if_neg c4]
    exact lp_C_bringUpToDate l w M b1 b2 h1 h2 hne o _ K 13 0 _ (by omega) (by omega) (cOk_go h1 h2 hR ha hb) rfl
  · skip
    exact x_vret (pc := 7) K rfl ((if_pos c4).symm) d_C_bringUpToDate_7
