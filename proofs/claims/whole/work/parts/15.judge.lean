noncomputable def cIf {α : Type} (P : Prop) (a b : α) : α := @ite α P (Classical.propDecidable P) a b
theorem cIf_t {α : Type} {P : Prop} {a b : α} (h : P) : cIf P a b = a := @if_pos P (Classical.propDecidable P) h α a b
theorem cIf_f {α : Type} {P : Prop} {a b : α} (h : ¬ P) : cIf P a b = b := @if_neg P (Classical.propDecidable P) h α a b
theorem cOk_b {o b1 b2 b : Nat} {M : fl_M} (h : cOk o b1 b2 M) (hb : b = b1 ∨ b = b2) : bAll M.1 b := by
  rcases hb with rfl | rfl
  · exact h.2.1
  · exact h.2.2.1
/-- what looking up on the side b from t gives for the member a -/
def fpR (M : fl_M) (b t a : Nat) : Option Nat := if whr M b t (M.1 a 0) (M.1 a 1) = 12 then none else (tOwn (whM M b t (M.1 a 0) (M.1 a 1)).1 (tn b (whr M b t (M.1 a 0) (M.1 a 1))) ((whM M b t (M.1 a 0) (M.1 a 1)).1 a 0) ((whM M b t (M.1 a 0) (M.1 a 1)).1 a 1)).map (fun j => tn b (whr M b t (M.1 a 0) (M.1 a 1)) + 3 + j)
def fpl (M : fl_M) (n1 b t : Nat) : Nat → Nat → fl_M
  | _, 0 => M
  | i, k + 1 => fpl (wR (whM M b t (M.1 (n1 + 3 + i) 0) (M.1 (n1 + 3 + i) 1)) 276 i (fpR M b t (n1 + 3 + i))) n1 b t (i + 1) k
theorem neTF {n b : Nat} (h : zSh n = zsT) (hB : zSh b = zsB) : n ≠ b + 134 := by
  intro q
  rw [q, shBf hB] at h
  exact absurd h (by decide)
set_option maxHeartbeats 4000000 in
set_option maxRecDepth 100000 in
theorem lp_C_findPartners (l : Launch) (w : fl_W) (M : fl_M) (b1 b2 : Nat) (h1 : zSh b1 = zsB) (h2 : zSh b2 = zsB) (hne : b1 ≠ b2) (o : Nat) (n1 : Nat) (hT : zSh n1 = zsT) (b : Nat) (hB : zSh b = zsB) (hb : b = b1 ∨ b = b2) (t : Nat) (ht : t < 12) (c : Nat) (h8 : c ≤ 8) (Y : fl_M) {p9 : Program} {e9 : Env} {s9 : State} {m9 : MethodId} {ag9 : Array Value} {bl9 : List Frame} {mt9 : Method} {c9 : Code} (K : XC p9 s9 m9 ag9 mt9 c9 b_C_findPartners 7 none w_C_findPartners "CompatibilityJudge$Comparison" w) : ∀ (k : Nat) (i : Nat) (X : fl_M), i ≤ c → c + 1 ≤ i + k → cOk o b1 b2 X → X.1 n1 7 = nI c → fpl X n1 b t i (c - i) = Y → XW p9 l e9 (rm_C_findPartners) s9 m9 ag9 bl9 mt9 c9 7 0 0 (MQ bl9 (CQ w zN none Y) ag9 s9 0 0 (fun q : Nat => w.2.2 ≤ q)) w zN X 3 [(4, .int (nI i)), (0, .ref (w.2.2 + 272)), (1, .ref (w.2.2 + n1)), (2, .ref (w.2.2 + b)), (3, .int (nI t))] [] := by
  intro k
  induction k with
  | zero =>
    intro i X hi hk
    exact absurd hk (by omega)
  | succ k ih =>
    intro i X hi hk hX hc hf
    refine x_iload (pc := 3) K 0 d_C_findPartners_3 rfl ?_
    refine x_aload_n (pc := 5) K 2 d_C_findPartners_5 rfl ?_
    refine x_geti (pc := 6) K (n := n1) (k := 7) (zlt hT) hT rfl rfl (by decide) (fun _ q => zmem (uw_T _ q)) (zmem lk_C_83) d_C_findPartners_6 ?_
    refine x_eqi (y := nI c) (hc) ?_
    refine x_icmp_ge (pc := 9) K (tgt := 82) d_C_findPartners_9 (by decide) (fun c9 => ?_) (fun c9 => ?_)
    · skip
      have hic : i = c := by have := (nI_leI (by omega) (by omega)).mp c9; omega
      rw [hic, Nat.sub_self] at hf
      exact x_vret (pc := 82) K rfl (by subst hf; rfl) d_C_findPartners_82
    · skip
      have hic : i < c := Nat.not_le.mp (fun q => c9 (nI_le q (by omega)))
      rw [show c - i = (c - (i + 1)) + 1 by omega, fpl] at hf
      have hBa := cOk_b hX hb
      refine x_aload_n (pc := 12) K 2 d_C_findPartners_12 rfl ?_
      refine x_getr (pc := 13) K (n := n1) (n' := n1 + 2) (k := 6) (zlt hT) hT rfl (hX.1.Ta hT) rfl (by decide) (fun _ q => zmem (uw_T _ q)) (zmem lk_C_86) d_C_findPartners_13 ?_
      refine x_iload (pc := 16) K 0 d_C_findPartners_16 rfl ?_
      refine x_aald (pc := 18) K (n := n1 + 2) (n' := n1 + 3 + i) (j := i) rfl (by omega) (hX.1.Tm hT (by omega)) (zlt (shTa hT)) (shTa hT) rfl (by decide) d_C_findPartners_18 ?_
      refine x_astore (pc := 19) K (lv' := [(5, .ref (w.2.2 + (n1 + 3 + i))), (4, .int (nI i)), (0, .ref (w.2.2 + 272)), (1, .ref (w.2.2 + n1)), (2, .ref (w.2.2 + b)), (3, .int (nI t))]) d_C_findPartners_19 (by decide) rfl ?_
      refine x_aload_n (pc := 21) K 4 d_C_findPartners_21 rfl ?_
      refine x_iload_n (pc := 22) K 5 d_C_findPartners_22 rfl ?_
      refine x_aload (pc := 23) K 0 d_C_findPartners_23 rfl ?_
      refine x_geti (pc := 25) K (n := n1 + 3 + i) (k := 0) (zlt (shTm hT (by omega))) (shTm hT (by omega)) rfl rfl (by decide) (fun _ q => zmem (uw_M _ q)) (zmem lk_C_96) d_C_findPartners_25 ?_
      refine x_aload (pc := 28) K 0 d_C_findPartners_28 rfl ?_
      refine x_geti (pc := 30) K (n := n1 + 3 + i) (k := 1) (zlt (shTm hT (by omega))) (shTm hT (by omega)) rfl rfl (by decide) (fun _ q => zmem (uw_M _ q)) (zmem lk_C_97) d_C_findPartners_30 ?_
      refine x_callV (pc := 33) K (As := [.int (nI t), .int (X.1 (n1 + 3 + i) 0), .int (X.1 (n1 + 3 + i) 1)]) (rest := []) (c_B_whereIs l w X b hB o hX.1 hBa.1 hBa.2.1 t ht (X.1 (n1 + 3 + i) 0) (X.1 (n1 + 3 + i) 1)) (zcwV K.ts lk_C_108 im_B_whereIs se_B_whereIs ii_B co_B_whereIs pd_B_whereIs ⟨rfl, rfl⟩ ⟨by decide, by decide⟩) (zlt hB) hB rfl rfl rfl (Nat.le_of_ble_eq_true rfl) ⟨Nat.zero_le _, Nat.zero_le _⟩ d_C_findPartners_33 ?_
      have hX1 : cOk o b1 b2 (whM X b t (X.1 (n1 + 3 + i) 0) (X.1 (n1 + 3 + i) 1)) := cOk_wh h1 h2 hne hb ht hX
      have hBa1 := cOk_b hX1 hb
      refine x_istore (pc := 36) K (lv' := [(6, .int (whr X b t (X.1 (n1 + 3 + i) 0) (X.1 (n1 + 3 + i) 1))), (5, .ref (w.2.2 + (n1 + 3 + i))), (4, .int (nI i)), (0, .ref (w.2.2 + 272)), (1, .ref (w.2.2 + n1)), (2, .ref (w.2.2 + b)), (3, .int (nI t))]) d_C_findPartners_36 (by decide) rfl ?_
      refine x_aload_n (pc := 38) K 3 d_C_findPartners_38 rfl ?_
      refine x_getr (pc := 39) K (n := 272) (n' := 276) (k := 5) (zlt shC) shC rfl hX1.1.c276 rfl (by decide) (fun _ q => zmem (uw_C _ q)) (zmem lk_C_23) d_C_findPartners_39 ?_
      refine x_iload (pc := 42) K 2 d_C_findPartners_42 rfl ?_
      refine x_iload (pc := 44) K 0 d_C_findPartners_44 rfl ?_
      refine x_bipush (pc := 46) K (v := 12) d_C_findPartners_46 (by decide) ?_
      refine x_icmp_ne (pc := 48) K (tgt := 55) d_C_findPartners_48 (by decide) (fun c48 => ?_) (fun c48 => ?_)
      · skip
        have hw := (whr_in ht hBa).resolve_left c48
        refine x_aload_n (pc := 55) K 5 d_C_findPartners_55 rfl ?_
        refine x_getr (pc := 56) K (n := b) (n' := b + 1) (k := 0) (zlt hB) hB rfl (hX1.1.Ba hB) rfl (by decide) (fun _ q => zmem (uw_B _ q)) (zmem lk_C_35) d_C_findPartners_56 ?_
        refine x_iload (pc := 59) K 0 d_C_findPartners_59 rfl ?_
        refine x_aald (pc := 61) K (n := b + 1) (n' := b + 2 + 11 * (ix (whr X b t (X.1 (n1 + 3 + i) 0) (X.1 (n1 + 3 + i) 1)))) (j := ix (whr X b t (X.1 (n1 + 3 + i) 0) (X.1 (n1 + 3 + i) 1))) hw.1 hw.2 (hX1.1.Bt hB hw.2) (zlt (shBa hB)) (shBa hB) rfl (by decide) d_C_findPartners_61 ?_
        refine x_aload (pc := 62) K 1 d_C_findPartners_62 rfl ?_
        refine x_geti (pc := 64) K (n := n1 + 3 + i) (k := 0) (zlt (shTm hT (by omega))) (shTm hT (by omega)) rfl rfl (by decide) (fun _ q => zmem (uw_M _ q)) (zmem lk_C_96) d_C_findPartners_64 ?_
        refine x_aload (pc := 67) K 1 d_C_findPartners_67 rfl ?_
        refine x_geti (pc := 69) K (n := n1 + 3 + i) (k := 1) (zlt (shTm hT (by omega))) (shTm hT (by omega)) rfl rfl (by decide) (fun _ q => zmem (uw_M _ q)) (zmem lk_C_97) d_C_findPartners_69 ?_
        refine x_callV (pc := 72) K (As := [.int ((whM X b t (X.1 (n1 + 3 + i) 0) (X.1 (n1 + 3 + i) 1)).1 (n1 + 3 + i) 0), .int ((whM X b t (X.1 (n1 + 3 + i) 0) (X.1 (n1 + 3 + i) 1)).1 (n1 + 3 + i) 1)]) (rest := [.int (nI i), .ref (w.2.2 + 276)]) (c_T_own l w (whM X b t (X.1 (n1 + 3 + i) 0) (X.1 (n1 + 3 + i) 1)) (b + 2 + 11 * (ix (whr X b t (X.1 (n1 + 3 + i) 0) (X.1 (n1 + 3 + i) 1)))) (shBt hB hw.2) o hX1.1 (hBa1.1 (ix (whr X b t (X.1 (n1 + 3 + i) 0) (X.1 (n1 + 3 + i) 1))) hw.2).1 ((whM X b t (X.1 (n1 + 3 + i) 0) (X.1 (n1 + 3 + i) 1)).1 (n1 + 3 + i) 0) ((whM X b t (X.1 (n1 + 3 + i) 0) (X.1 (n1 + 3 + i) 1)).1 (n1 + 3 + i) 1)) (zcwV K.ts lk_C_100 im_T_own se_T_own ii_T co_T_own pd_T_own ⟨rfl, rfl⟩ ⟨by decide, by decide⟩) (zlt (shBt hB hw.2)) (shBt hB hw.2) rfl rfl rfl (Nat.le_of_ble_eq_true rfl) ⟨Nat.zero_le _, Nat.zero_le _⟩ d_C_findPartners_72 ?_
        refine x_opt (n := b + 2 + 11 * (ix (whr X b t (X.1 (n1 + 3 + i) 0) (X.1 (n1 + 3 + i) 1)))) (F := tOwn (whM X b t (X.1 (n1 + 3 + i) 0) (X.1 (n1 + 3 + i) 1)).1 (b + 2 + 11 * (ix (whr X b t (X.1 (n1 + 3 + i) 0) (X.1 (n1 + 3 + i) 1)))) ((whM X b t (X.1 (n1 + 3 + i) 0) (X.1 (n1 + 3 + i) 1)).1 (n1 + 3 + i) 0) ((whM X b t (X.1 (n1 + 3 + i) 0) (X.1 (n1 + 3 + i) 1)).1 (n1 + 3 + i) 1)) (fun ho72 => ?_) (fun j72 ho72 => ?_)
        · skip
          have e9 : fpR X b t (n1 + 3 + i) = none := by unfold fpR; rw [if_neg c48, ho72]; rfl
          refine x_aastN (pc := 75) K (n := 276) (j := i) rfl (by omega) (zlt sh276) sh276 rfl (by decide) d_C_findPartners_75 ?_
          refine x_iinc (pc := 76) K (v := nI (i + 1)) (lv' := [(4, .int (nI (i + 1))), (6, .int (whr X b t (X.1 (n1 + 3 + i) 0) (X.1 (n1 + 3 + i) 1))), (5, .ref (w.2.2 + (n1 + 3 + i))), (0, .ref (w.2.2 + 272)), (1, .ref (w.2.2 + n1)), (2, .ref (w.2.2 + b)), (3, .int (nI t))]) 2 d_C_findPartners_76 rfl (nI_1 _) (by decide) rfl ?_
          refine x_goto (pc := 79) K (tgt := 3) d_C_findPartners_79 (by decide) ?_
          rw [e9] at hf
          refine x_lv [0, 3, 4, 5, 6] rfl ?_
          exact ih (i + 1) _ (by omega) (by omega) (cOk_p hX1) (by show (whM X b t _ _).1 n1 7 = nI c; rw [whM_rd (neTF hT hB)]; exact hc) hf
        · skip
          have hj72 : j72 < 8 := by have := (fnd_lt ho72).2.1; have := (hBa1.1 (ix (whr X b t (X.1 (n1 + 3 + i) 0) (X.1 (n1 + 3 + i) 1))) hw.2).1.2.2; omega
          have e9 : fpR X b t (n1 + 3 + i) = some (tn b (whr X b t (X.1 (n1 + 3 + i) 0) (X.1 (n1 + 3 + i) 1)) + 3 + j72) := by unfold fpR; rw [if_neg c48, ho72]; rfl
          refine x_aast (pc := 75) K (n := 276) (n' := (b + 2 + 11 * (ix (whr X b t (X.1 (n1 + 3 + i) 0) (X.1 (n1 + 3 + i) 1)))) + 3 + j72) (j := i) rfl (by omega) (zlt sh276) sh276 rfl (zlt (shTm (shBt hB hw.2) hj72)) (shTm (shBt hB hw.2) hj72) rfl (by decide) d_C_findPartners_75 ?_
          refine x_iinc (pc := 76) K (v := nI (i + 1)) (lv' := [(4, .int (nI (i + 1))), (6, .int (whr X b t (X.1 (n1 + 3 + i) 0) (X.1 (n1 + 3 + i) 1))), (5, .ref (w.2.2 + (n1 + 3 + i))), (0, .ref (w.2.2 + 272)), (1, .ref (w.2.2 + n1)), (2, .ref (w.2.2 + b)), (3, .int (nI t))]) 2 d_C_findPartners_76 rfl (nI_1 _) (by decide) rfl ?_
          refine x_goto (pc := 79) K (tgt := 3) d_C_findPartners_79 (by decide) ?_
          rw [e9] at hf
          refine x_lv [0, 3, 4, 5, 6] rfl ?_
          exact ih (i + 1) _ (by omega) (by omega) (cOk_p hX1) (by show (whM X b t _ _).1 n1 7 = nI c; rw [whM_rd (neTF hT hB)]; exact hc) hf
      · skip
        have e9 : fpR X b t (n1 + 3 + i) = none := if_pos c48
        refine x_null (pc := 51) K d_C_findPartners_51 ?_
        refine x_goto (pc := 52) K (tgt := 75) d_C_findPartners_52 (by decide) ?_
        refine x_aastN (pc := 75) K (n := 276) (j := i) rfl (by omega) (zlt sh276) sh276 rfl (by decide) d_C_findPartners_75 ?_
        refine x_iinc (pc := 76) K (v := nI (i + 1)) (lv' := [(4, .int (nI (i + 1))), (6, .int (whr X b t (X.1 (n1 + 3 + i) 0) (X.1 (n1 + 3 + i) 1))), (5, .ref (w.2.2 + (n1 + 3 + i))), (0, .ref (w.2.2 + 272)), (1, .ref (w.2.2 + n1)), (2, .ref (w.2.2 + b)), (3, .int (nI t))]) 2 d_C_findPartners_76 rfl (nI_1 _) (by decide) rfl ?_
        refine x_goto (pc := 79) K (tgt := 3) d_C_findPartners_79 (by decide) ?_
        rw [e9] at hf
        refine x_lv [0, 3, 4, 5, 6] rfl ?_
        exact ih (i + 1) _ (by omega) (by omega) (cOk_p hX1) (by show (whM X b t _ _).1 n1 7 = nI c; rw [whM_rd (neTF hT hB)]; exact hc) hf
set_option maxHeartbeats 4000000 in
set_option maxRecDepth 100000 in
theorem c_C_findPartners (l : Launch) (w : fl_W) (M : fl_M) (b1 b2 : Nat) (h1 : zSh b1 = zsB) (h2 : zSh b2 = zsB) (hne : b1 ≠ b2) (o : Nat) (n1 : Nat) (hT : zSh n1 = zsT) (b : Nat) (hB : zSh b = zsB) (hb : b = b1 ∨ b = b2) (t : Nat) (ht : t < 12) (hM : cOk o b1 b2 M) (h7 : M.1 n1 7 = nI (cM M.1 n1)) (h8 : cM M.1 n1 ≤ 8) : CT l y_C_findPartners w_C_findPartners rm_C_findPartners w zN [.ref (w.2.2 + 272), .ref (w.2.2 + n1), .ref (w.2.2 + b), .int (nI t)] M none (fpl M n1 b t 0 (cM M.1 n1)) := by
  refine CT.of (cc := b_C_findPartners) (own := "CompatibilityJudge$Comparison") (by decide) rfl rfl (Nat.le_of_ble_eq_true rfl) ?_
  intro p9 e9 s9 m9 ag9 bl9 mt9 c9 K
  show XW p9 l e9 (rm_C_findPartners) s9 m9 ag9 bl9 mt9 c9 7 0 0 (MQ bl9 (CQ w zN none (fpl M n1 b t 0 (cM M.1 n1))) ag9 s9 0 0 (fun q : Nat => w.2.2 ≤ q)) w zN M 0 [(0, .ref (w.2.2 + 272)), (1, .ref (w.2.2 + n1)), (2, .ref (w.2.2 + b)), (3, .int (nI t))] []
  refine x_iconst (pc := 0) K (v := nI 0) d_C_findPartners_0 (by decide) ?_
  refine x_istore (pc := 1) K (lv' := [(4, .int (nI 0)), (0, .ref (w.2.2 + 272)), (1, .ref (w.2.2 + n1)), (2, .ref (w.2.2 + b)), (3, .int (nI t))]) d_C_findPartners_1 (by decide) rfl ?_
  refine x_lv [0, 1, 2, 3, 4] rfl ?_
  exact lp_C_findPartners l w M b1 b2 h1 h2 hne o n1 hT b hB hb t ht (cM M.1 n1) h8 _ K (cM M.1 n1 + 1) 0 M (by omega) (by omega) hM h7 (by rw [Nat.sub_zero])
/-- the rule r is broken by the old member at place i, its partner being at hand -/
def brP (M : fl_M) (r n1 i : Nat) : Prop := match M.2 276 i with
  | none => r = 5
  | some q => brO M.1 r n1 (n1 + 3 + i) q
noncomputable def joi (M : fl_M) (n1 r t : Nat) : Nat → Nat → fl_M
  | _, 0 => M
  | i, k + 1 => joi (cIf ((¬ (M.1 (n1 + 3 + i) 2 &&& 3) < 2) ∧ brP M r n1 i) (cAdd M (nI r) (nI t) (nI i)) M) n1 r t (i + 1) k
noncomputable def joo (M : fl_M) (n1 t c : Nat) : Nat → Nat → fl_M
  | _, 0 => M
  | r, k + 1 => joo (joi M n1 r t 0 c) n1 t c (r + 1) k
/-- the partners are members -/
def pOk (c : Nat) (M : fl_M) : Prop := ∀ i, i < c → ∀ q, M.2 276 i = some q → zSh q = zsM
theorem pOk_add {c : Nat} {M : fl_M} {r t d : Int32} (h : pOk c M) : pOk c (cAdd M r t d) := by
  intro i hi q hq
  rw [cAdd_2] at hq
  exact h i hi q hq
theorem neTC {n : Nat} (h : zSh n = zsT) : n < 272 := by
  rcases Nat.lt_or_ge n 272 with q | q
  · exact q
  · have h9 : ∀ n, n < 295 → 272 ≤ n → shE (zSh n) zsT = false := by decide +kernel
    have := h9 n (zlt h) q
    rw [shE_t h] at this
    cases this
set_option maxHeartbeats 4000000 in
set_option maxRecDepth 100000 in
theorem li_C_judgeOldMembers (l : Launch) (w : fl_W) (M : fl_M) (b1 b2 : Nat) (h1 : zSh b1 = zsB) (h2 : zSh b2 = zsB) (hne : b1 ≠ b2) (o : Nat) (n1 : Nat) (hT : zSh n1 = zsT) (t r : Nat) (h5 : 5 ≤ r) (h11 : r ≤ 11) (c : Nat) (h8 : c ≤ 8) (Y Z : fl_M) {p9 : Program} {e9 : Env} {s9 : State} {m9 : MethodId} {ag9 : Array Value} {bl9 : List Frame} {mt9 : Method} {c9 : Code} (K : XC p9 s9 m9 ag9 mt9 c9 b_C_judgeOldMembers 6 none w_C_judgeOldMembers "CompatibilityJudge$Comparison" w) : ∀ (k : Nat) (i : Nat) (X : fl_M), i ≤ c → c + 1 ≤ i + k → cOk o b1 b2 X → X.1 n1 7 = nI c → pOk c X → joi X n1 r t i (c - i) = Y → (cOk o b1 b2 Y → Y.1 n1 7 = nI c → pOk c Y → XW p9 l e9 (rm_C_judgeOldMembers) s9 m9 ag9 bl9 mt9 c9 6 0 0 (MQ bl9 (CQ w zN none Z) ag9 s9 0 0 (fun q : Nat => w.2.2 ≤ q)) w zN Y 68 [(4, .int (nI c)), (3, .int (nI r)), (0, .ref (w.2.2 + 272)), (1, .ref (w.2.2 + n1)), (2, .int (nI t))] []) → XW p9 l e9 (rm_C_judgeOldMembers) s9 m9 ag9 bl9 mt9 c9 6 0 0 (MQ bl9 (CQ w zN none Z) ag9 s9 0 0 (fun q : Nat => w.2.2 ≤ q)) w zN X 11 [(4, .int (nI i)), (3, .int (nI r)), (0, .ref (w.2.2 + 272)), (1, .ref (w.2.2 + n1)), (2, .int (nI t))] [] := by
  intro k
  induction k with
  | zero =>
    intro i X hi hk
    exact absurd hk (by omega)
  | succ k ih =>
    intro i X hi hk hX hc hq hf hE
    refine x_iload (pc := 11) K 0 d_C_judgeOldMembers_11 rfl ?_
    refine x_aload_n (pc := 13) K 3 d_C_judgeOldMembers_13 rfl ?_
    refine x_geti (pc := 14) K (n := n1) (k := 7) (zlt hT) hT rfl rfl (by decide) (fun _ q => zmem (uw_T _ q)) (zmem lk_C_83) d_C_judgeOldMembers_14 ?_
    refine x_eqi (y := nI c) (hc) ?_
    refine x_icmp_ge (pc := 17) K (tgt := 68) d_C_judgeOldMembers_17 (by decide) (fun c17 => ?_) (fun c17 => ?_)
    · skip
      have hic : i = c := by have := (nI_leI (by omega) (by omega)).mp c17; omega
      rw [hic, Nat.sub_self] at hf
      subst hic
      refine x_lv [0, 1, 2, 3, 4] rfl ?_
      have hf : X = Y := hf
      subst hf
      exact hE hX hc hq
    · skip
      have hic : i < c := Nat.not_le.mp (fun q => c17 (nI_le q (by omega)))
      rw [show c - i = (c - (i + 1)) + 1 by omega, joi] at hf
      refine x_aload_n (pc := 20) K 3 d_C_judgeOldMembers_20 rfl ?_
      refine x_getr (pc := 21) K (n := n1) (n' := n1 + 2) (k := 6) (zlt hT) hT rfl (hX.1.Ta hT) rfl (by decide) (fun _ q => zmem (uw_T _ q)) (zmem lk_C_86) d_C_judgeOldMembers_21 ?_
      refine x_iload (pc := 24) K 0 d_C_judgeOldMembers_24 rfl ?_
      refine x_aald (pc := 26) K (n := n1 + 2) (n' := n1 + 3 + i) (j := i) rfl (by omega) (hX.1.Tm hT (by omega)) (zlt (shTa hT)) (shTa hT) rfl (by decide) d_C_judgeOldMembers_26 ?_
      refine x_astore (pc := 27) K (lv' := [(5, .ref (w.2.2 + (n1 + 3 + i))), (4, .int (nI i)), (3, .int (nI r)), (0, .ref (w.2.2 + 272)), (1, .ref (w.2.2 + n1)), (2, .int (nI t))]) d_C_judgeOldMembers_27 (by decide) rfl ?_
      refine x_aload (pc := 29) K 0 d_C_judgeOldMembers_29 rfl ?_
      refine x_callV (pc := 31) K (As := []) (rest := []) (c_M_isOpen l w X (n1 + 3 + i) (shTm hT (by omega))) (zcwV K.ts lk_C_89 im_M_isOpen se_M_isOpen ii_M co_M_isOpen pd_M_isOpen ⟨rfl, rfl⟩ ⟨by decide, by decide⟩) (zlt (shTm hT (by omega))) (shTm hT (by omega)) rfl rfl rfl (Nat.le_of_ble_eq_true rfl) ⟨Nat.zero_le _, Nat.zero_le _⟩ d_C_judgeOldMembers_31 ?_
      refine x_ifeqB (pc := 34) K (tgt := 62) d_C_judgeOldMembers_34 (by decide) (fun c34 => ?_) (fun c34 => ?_)
      · skip
        rw [cIf_f (fun q => c34 q.1)] at hf
        refine x_iinc (pc := 62) K (v := nI (i + 1)) (lv' := [(4, .int (nI (i + 1))), (5, .ref (w.2.2 + (n1 + 3 + i))), (3, .int (nI r)), (0, .ref (w.2.2 + 272)), (1, .ref (w.2.2 + n1)), (2, .int (nI t))]) 1 d_C_judgeOldMembers_62 rfl (nI_1 _) (by decide) rfl ?_
        refine x_goto (pc := 65) K (tgt := 11) d_C_judgeOldMembers_65 (by decide) ?_
        refine x_lv [0, 2, 3, 4, 5] rfl ?_
        exact ih (i + 1) _ (by omega) (by omega) hX hc hq hf hE
      · skip
        refine x_iload_n (pc := 37) K 2 d_C_judgeOldMembers_37 rfl ?_
        refine x_aload_n (pc := 38) K 4 d_C_judgeOldMembers_38 rfl ?_
        refine x_aload (pc := 39) K 0 d_C_judgeOldMembers_39 rfl ?_
        refine x_aload_n (pc := 41) K 3 d_C_judgeOldMembers_41 rfl ?_
        refine x_getr (pc := 42) K (n := 272) (n' := 276) (k := 5) (zlt shC) shC rfl hX.1.c276 rfl (by decide) (fun _ q => zmem (uw_C _ q)) (zmem lk_C_23) d_C_judgeOldMembers_42 ?_
        refine x_iload (pc := 45) K 1 d_C_judgeOldMembers_45 rfl ?_
        rcases hp47 : X.2 276 i with _ | q47
        · skip
          have eP : brP X r n1 i ↔ nI r = 5 := by unfold brP; rw [hp47]; exact (nI_eq (b := 5) (by omega) (by omega)).symm
          refine x_aaldN (pc := 47) K (n := 276) (j := i) rfl (by omega) hp47 (zlt sh276) sh276 rfl (by decide) d_C_judgeOldMembers_47 ?_
          refine x_callS (pc := 48) K (As := [.int (nI r), .ref (w.2.2 + n1), .ref (w.2.2 + (n1 + 3 + i)), .null]) (rest := []) (c_C_breaksAsOldN l w X n1 (n1 + 3 + i) hT (shTm hT (by omega)) (nI r)) (zcwS K.ts lk_C_92 sm_C_breaksAsOld ii_C co_C_breaksAsOld pd_C_breaksAsOld ⟨rfl, rfl⟩ ⟨by decide, by decide⟩) rfl rfl (Nat.le_of_ble_eq_true rfl) ⟨Nat.zero_le _, Nat.zero_le _⟩ d_C_judgeOldMembers_48 ?_
          refine x_ifeqB (pc := 51) K (tgt := 62) d_C_judgeOldMembers_51 (by decide) (fun c51 => ?_) (fun c51 => ?_)
          · skip
            rw [cIf_f (fun q => c51 (eP.mp q.2))] at hf
            refine x_iinc (pc := 62) K (v := nI (i + 1)) (lv' := [(4, .int (nI (i + 1))), (5, .ref (w.2.2 + (n1 + 3 + i))), (3, .int (nI r)), (0, .ref (w.2.2 + 272)), (1, .ref (w.2.2 + n1)), (2, .int (nI t))]) 1 d_C_judgeOldMembers_62 rfl (nI_1 _) (by decide) rfl ?_
            refine x_goto (pc := 65) K (tgt := 11) d_C_judgeOldMembers_65 (by decide) ?_
            refine x_lv [0, 2, 3, 4, 5] rfl ?_
            exact ih (i + 1) _ (by omega) (by omega) hX hc hq hf hE
          · skip
            rw [cIf_t ⟨c34, eP.mpr c51⟩] at hf
            refine x_aload_n (pc := 54) K 3 d_C_judgeOldMembers_54 rfl ?_
            refine x_iload_n (pc := 55) K 2 d_C_judgeOldMembers_55 rfl ?_
            refine x_iload_n (pc := 56) K 5 d_C_judgeOldMembers_56 rfl ?_
            refine x_iload (pc := 57) K 1 d_C_judgeOldMembers_57 rfl ?_
            refine x_callVv (pc := 59) K (As := [.int (nI r), .int (nI t), .int (nI i)]) (rest := []) (c_C_add l w X o hX.1 hX.2.2.2 (nI r) (nI t) (nI i)) (zcwV K.ts lk_C_50 im_C_add se_C_add ii_C co_C_add pd_C_add ⟨rfl, rfl⟩ ⟨by decide, by decide⟩) (zlt shC) shC rfl rfl rfl (Nat.le_of_ble_eq_true rfl) ⟨Nat.zero_le _, Nat.zero_le _⟩ d_C_judgeOldMembers_59 ?_
            refine x_iinc (pc := 62) K (v := nI (i + 1)) (lv' := [(4, .int (nI (i + 1))), (5, .ref (w.2.2 + (n1 + 3 + i))), (3, .int (nI r)), (0, .ref (w.2.2 + 272)), (1, .ref (w.2.2 + n1)), (2, .int (nI t))]) 1 d_C_judgeOldMembers_62 rfl (nI_1 _) (by decide) rfl ?_
            refine x_goto (pc := 65) K (tgt := 11) d_C_judgeOldMembers_65 (by decide) ?_
            refine x_lv [0, 2, 3, 4, 5] rfl ?_
            exact ih (i + 1) _ (by omega) (by omega) (cOk_add h1 h2 hX) (by rw [cAdd_rd (Or.inl (neTC hT))]; exact hc) (pOk_add hq) hf hE
        · skip
          have hq47 := hq i hic q47 hp47
          obtain ⟨P47, dP47, hP47, hC47⟩ := c_C_breaksAsOld l w X n1 (n1 + 3 + i) q47 hT (shTm hT (by omega)) hq47 r h5 h11
          have eP : brP X r n1 i ↔ P47 := by unfold brP; rw [hp47]; exact hP47.symm
          refine x_aald (pc := 47) K (n := 276) (n' := q47) (j := i) rfl (by omega) hp47 (zlt sh276) sh276 rfl (by decide) d_C_judgeOldMembers_47 ?_
          refine x_callS (pc := 48) K (As := [.int (nI r), .ref (w.2.2 + n1), .ref (w.2.2 + (n1 + 3 + i)), .ref (w.2.2 + q47)]) (rest := []) hC47 (zcwS K.ts lk_C_92 sm_C_breaksAsOld ii_C co_C_breaksAsOld pd_C_breaksAsOld ⟨rfl, rfl⟩ ⟨by decide, by decide⟩) rfl rfl (Nat.le_of_ble_eq_true rfl) ⟨Nat.zero_le _, Nat.zero_le _⟩ d_C_judgeOldMembers_48 ?_
          refine x_ifeqB (pc := 51) K (tgt := 62) d_C_judgeOldMembers_51 (by decide) (fun c51 => ?_) (fun c51 => ?_)
          · skip
            rw [cIf_f (fun q => c51 (eP.mp q.2))] at hf
            refine x_iinc (pc := 62) K (v := nI (i + 1)) (lv' := [(4, .int (nI (i + 1))), (5, .ref (w.2.2 + (n1 + 3 + i))), (3, .int (nI r)), (0, .ref (w.2.2 + 272)), (1, .ref (w.2.2 + n1)), (2, .int (nI t))]) 1 d_C_judgeOldMembers_62 rfl (nI_1 _) (by decide) rfl ?_
            refine x_goto (pc := 65) K (tgt := 11) d_C_judgeOldMembers_65 (by decide) ?_
            refine x_lv [0, 2, 3, 4, 5] rfl ?_
            exact ih (i + 1) _ (by omega) (by omega) hX hc hq hf hE
          · skip
            rw [cIf_t ⟨c34, eP.mpr c51⟩] at hf
            refine x_aload_n (pc := 54) K 3 d_C_judgeOldMembers_54 rfl ?_
            refine x_iload_n (pc := 55) K 2 d_C_judgeOldMembers_55 rfl ?_
            refine x_iload_n (pc := 56) K 5 d_C_judgeOldMembers_56 rfl ?_
            refine x_iload (pc := 57) K 1 d_C_judgeOldMembers_57 rfl ?_
            refine x_callVv (pc := 59) K (As := [.int (nI r), .int (nI t), .int (nI i)]) (rest := []) (c_C_add l w X o hX.1 hX.2.2.2 (nI r) (nI t) (nI i)) (zcwV K.ts lk_C_50 im_C_add se_C_add ii_C co_C_add pd_C_add ⟨rfl, rfl⟩ ⟨by decide, by decide⟩) (zlt shC) shC rfl rfl rfl (Nat.le_of_ble_eq_true rfl) ⟨Nat.zero_le _, Nat.zero_le _⟩ d_C_judgeOldMembers_59 ?_
            refine x_iinc (pc := 62) K (v := nI (i + 1)) (lv' := [(4, .int (nI (i + 1))), (5, .ref (w.2.2 + (n1 + 3 + i))), (3, .int (nI r)), (0, .ref (w.2.2 + 272)), (1, .ref (w.2.2 + n1)), (2, .int (nI t))]) 1 d_C_judgeOldMembers_62 rfl (nI_1 _) (by decide) rfl ?_
            refine x_goto (pc := 65) K (tgt := 11) d_C_judgeOldMembers_65 (by decide) ?_
            refine x_lv [0, 2, 3, 4, 5] rfl ?_
            exact ih (i + 1) _ (by omega) (by omega) (cOk_add h1 h2 hX) (by rw [cAdd_rd (Or.inl (neTC hT))]; exact hc) (pOk_add hq) hf hE
set_option maxHeartbeats 4000000 in
set_option maxRecDepth 100000 in
theorem lp_C_judgeOldMembers (l : Launch) (w : fl_W) (M : fl_M) (b1 b2 : Nat) (h1 : zSh b1 = zsB) (h2 : zSh b2 = zsB) (hne : b1 ≠ b2) (o : Nat) (n1 : Nat) (hT : zSh n1 = zsT) (t : Nat) (c : Nat) (h8 : c ≤ 8) (Y : fl_M) {p9 : Program} {e9 : Env} {s9 : State} {m9 : MethodId} {ag9 : Array Value} {bl9 : List Frame} {mt9 : Method} {c9 : Code} (K : XC p9 s9 m9 ag9 mt9 c9 b_C_judgeOldMembers 6 none w_C_judgeOldMembers "CompatibilityJudge$Comparison" w) : ∀ (k : Nat) (r : Nat) (X : fl_M), r ≤ 12 → 13 ≤ r + k → 5 ≤ r → cOk o b1 b2 X → X.1 n1 7 = nI c → pOk c X → joo X n1 t c r (12 - r) = Y → XW p9 l e9 (rm_C_judgeOldMembers) s9 m9 ag9 bl9 mt9 c9 6 0 0 (MQ bl9 (CQ w zN none Y) ag9 s9 0 0 (fun q : Nat => w.2.2 ≤ q)) w zN X 2 [(3, .int (nI r)), (0, .ref (w.2.2 + 272)), (1, .ref (w.2.2 + n1)), (2, .int (nI t))] [] := by
  intro k
  induction k with
  | zero =>
    intro r X hi hk
    exact absurd hk (by omega)
  | succ k ih =>
    intro r X hi hk h5 hX hc hq hf
    refine x_iload_n (pc := 2) K 0 d_C_judgeOldMembers_2 rfl ?_
    refine x_bipush (pc := 3) K (v := nI 11) d_C_judgeOldMembers_3 (by decide) ?_
    refine x_icmp_gt (pc := 5) K (tgt := 74) d_C_judgeOldMembers_5 (by decide) (fun c5 => ?_) (fun c5 => ?_)
    · skip
      have hic : r = 12 := by have := (nI_ltI (a := 11) (by omega) (by omega)).mp c5; omega
      rw [hic, Nat.sub_self] at hf
      exact x_vret (pc := 74) K rfl (by subst hf; rfl) d_C_judgeOldMembers_74
    · skip
      have hic : r < 12 := by have := Nat.not_lt.mp (fun q => c5 ((nI_ltI (a := 11) (b := r) (by omega) (by omega)).mpr q)); omega
      rw [show 12 - r = (12 - (r + 1)) + 1 by omega, joo] at hf
      refine x_iconst (pc := 8) K (v := nI 0) d_C_judgeOldMembers_8 (by decide) ?_
      refine x_istore (pc := 9) K (lv' := [(4, .int (nI 0)), (3, .int (nI r)), (0, .ref (w.2.2 + 272)), (1, .ref (w.2.2 + n1)), (2, .int (nI t))]) d_C_judgeOldMembers_9 (by decide) rfl ?_
      refine x_lv [0, 1, 2, 3, 4] rfl ?_
      refine li_C_judgeOldMembers l w M b1 b2 h1 h2 hne o n1 hT t r h5 (by omega) c h8 _ _ K (c + 1) 0 X (by omega) (by omega) hX hc hq (by rw [Nat.sub_zero]) (fun hX hc hq => ?_)
      refine x_iinc (pc := 68) K (v := nI (r + 1)) (lv' := [(3, .int (nI (r + 1))), (4, .int (nI c)), (0, .ref (w.2.2 + 272)), (1, .ref (w.2.2 + n1)), (2, .int (nI t))]) 1 d_C_judgeOldMembers_68 rfl (nI_1 _) (by decide) rfl ?_
      refine x_goto (pc := 71) K (tgt := 2) d_C_judgeOldMembers_71 (by decide) ?_
      refine x_lv [0, 2, 3, 4] rfl ?_
      exact ih (r + 1) _ (by omega) (by omega) (by omega) hX hc hq hf
set_option maxHeartbeats 4000000 in
set_option maxRecDepth 100000 in
theorem c_C_judgeOldMembers (l : Launch) (w : fl_W) (M : fl_M) (b1 b2 : Nat) (h1 : zSh b1 = zsB) (h2 : zSh b2 = zsB) (hne : b1 ≠ b2) (o : Nat) (n1 : Nat) (hT : zSh n1 = zsT) (t : Nat) (hM : cOk o b1 b2 M) (h7 : M.1 n1 7 = nI (cM M.1 n1)) (h8 : cM M.1 n1 ≤ 8) (hq : pOk (cM M.1 n1) M) : CT l y_C_judgeOldMembers w_C_judgeOldMembers rm_C_judgeOldMembers w zN [.ref (w.2.2 + 272), .ref (w.2.2 + n1), .int (nI t)] M none (joo M n1 t (cM M.1 n1) 5 7) := by
  refine CT.of (cc := b_C_judgeOldMembers) (own := "CompatibilityJudge$Comparison") (by decide) rfl rfl (Nat.le_of_ble_eq_true rfl) ?_
  intro p9 e9 s9 m9 ag9 bl9 mt9 c9 K
  show XW p9 l e9 (rm_C_judgeOldMembers) s9 m9 ag9 bl9 mt9 c9 6 0 0 (MQ bl9 (CQ w zN none (joo M n1 t (cM M.1 n1) 5 7)) ag9 s9 0 0 (fun q : Nat => w.2.2 ≤ q)) w zN M 0 [(0, .ref (w.2.2 + 272)), (1, .ref (w.2.2 + n1)), (2, .int (nI t))] []
  refine x_iconst (pc := 0) K (v := nI 5) d_C_judgeOldMembers_0 (by decide) ?_
  refine x_istore_n (pc := 1) K (lv' := [(3, .int (nI 5)), (0, .ref (w.2.2 + 272)), (1, .ref (w.2.2 + n1)), (2, .int (nI t))]) d_C_judgeOldMembers_1 (by decide) rfl ?_
  refine x_lv [0, 1, 2, 3] rfl ?_
  exact lp_C_judgeOldMembers l w M b1 b2 h1 h2 hne o n1 hT t (cM M.1 n1) h8 _ K 8 5 M (by omega) (by omega) (by omega) hM h7 hq rfl
