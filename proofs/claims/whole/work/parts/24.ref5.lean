abbrev qIs (μ : Nat → Nat → Int32) (b : Nat) (x k : Int32) : Prop := ¬ x < 0 ∧ ¬ μ 279 (12 * b + ix x) = 0 ∧ μ 280 (12 * b + ix x) = k
set_option maxHeartbeats 4000000 in
set_option maxRecDepth 100000 in
theorem c_R_is (l : Launch) (w : fl_W) (M : fl_M) (o : Nat) (hR : zRf o M.2) (b : Nat) (hb : b < 2) (x k : Int32) (hx : x < 0 ∨ inL 12 x) : CT l y_R_is w_R_is rm_R_is w zN [.ref (w.2.2 + 278), .int (nI b), .int x, .int k] M (some (.int (bI (qIs M.1 b x k)))) M := by
  refine CT.of (cc := b_R_is) (own := "CompatibilityJudgeModel") (by decide) rfl rfl (Nat.le_of_ble_eq_true rfl) ?_
  intro p9 e9 s9 m9 ag9 bl9 mt9 c9 K
  show XW p9 l e9 (rm_R_is) s9 m9 ag9 bl9 mt9 c9 4 0 0 (MQ bl9 (CQ w zN (some (.int (bI (qIs M.1 b x k)))) M) ag9 s9 0 0 (fun q : Nat => w.2.2 ≤ q)) w zN M 0 [(0, .ref (w.2.2 + 278)), (1, .int (nI b)), (2, .int x), (3, .int k)] []
  refine x_iload_n (pc := 0) K 2 d_R_is_0 rfl ?_
  refine x_if_lt (pc := 1) K (tgt := 37) d_R_is_1 (by decide) (fun c1 => ?_) (fun c1 => ?_)
  · skip
    refine x_iconst (pc := 37) K (v := 0) d_R_is_37 (by decide) ?_
    exact x_zret (pc := 38) K (rF (fun q => q.1 c1)) rfl rfl d_R_is_38
  · skip
    have hx9 := hx.resolve_left c1
    have hx12 := hx9.2
    refine x_aload_n (pc := 4) K 0 d_R_is_4 rfl ?_
    refine x_getr (pc := 5) K (n := 278) (n' := 279) (k := 0) (zlt shR) shR rfl hR.r279 rfl (by decide) (fun _ q => zmem (uw_R _ q)) (zmem lk_R_7) d_R_is_5 ?_
    refine x_bipush (pc := 8) K (v := nI 12) d_R_is_8 (by decide) ?_
    refine x_iload_n (pc := 10) K 1 d_R_is_10 rfl ?_
    refine x_imul (pc := 11) K d_R_is_11 ?_
    refine x_eqi (y := nI (12 * b)) (pk_mul _ _) ?_
    refine x_iload_n (pc := 12) K 2 d_R_is_12 rfl ?_
    refine x_eqi (y := nI (ix x)) (hx9.1) ?_
    refine x_iadd (pc := 13) K d_R_is_13 ?_
    refine x_eqi (y := nI ((12 * b) + (ix x))) (nI_add _ _) ?_
    refine x_zald (pc := 14) K (n := 279) (j := (12 * b) + (ix x)) rfl (by omega) (zlt sh279) sh279 rfl (by decide) d_R_is_14 ?_
    refine x_if_eq (pc := 15) K (tgt := 37) d_R_is_15 (by decide) (fun c15 => ?_) (fun c15 => ?_)
    · skip
      refine x_iconst (pc := 37) K (v := 0) d_R_is_37 (by decide) ?_
      exact x_zret (pc := 38) K (rF (fun q => q.2.1 c15)) rfl rfl d_R_is_38
    · skip
      refine x_aload_n (pc := 18) K 0 d_R_is_18 rfl ?_
      refine x_getr (pc := 19) K (n := 278) (n' := 280) (k := 1) (zlt shR) shR rfl hR.r280 rfl (by decide) (fun _ q => zmem (uw_R _ q)) (zmem lk_R_13) d_R_is_19 ?_
      refine x_bipush (pc := 22) K (v := nI 12) d_R_is_22 (by decide) ?_
      refine x_iload_n (pc := 24) K 1 d_R_is_24 rfl ?_
      refine x_imul (pc := 25) K d_R_is_25 ?_
      refine x_eqi (y := nI (12 * b)) (pk_mul _ _) ?_
      refine x_iload_n (pc := 26) K 2 d_R_is_26 rfl ?_
      refine x_eqi (y := nI (ix x)) (hx9.1) ?_
      refine x_iadd (pc := 27) K d_R_is_27 ?_
      refine x_eqi (y := nI ((12 * b) + (ix x))) (nI_add _ _) ?_
      refine x_iald (pc := 28) K (n := 280) (j := (12 * b) + (ix x)) rfl (by omega) (zlt sh280) sh280 rfl (by decide) d_R_is_28 ?_
      refine x_iload_n (pc := 29) K 3 d_R_is_29 rfl ?_
      refine x_icmp_ne (pc := 30) K (tgt := 37) d_R_is_30 (by decide) (fun c30 => ?_) (fun c30 => ?_)
      · skip
        refine x_iconst (pc := 37) K (v := 0) d_R_is_37 (by decide) ?_
        exact x_zret (pc := 38) K (rF (fun q => c30 q.2.2)) rfl rfl d_R_is_38
      · skip
        refine x_iconst (pc := 33) K (v := 1) d_R_is_33 (by decide) ?_
        refine x_goto (pc := 34) K (tgt := 38) d_R_is_34 (by decide) ?_
        exact x_zret (pc := 38) K (rT (⟨c1, c15, c30⟩)) rfl rfl d_R_is_38
abbrev qFc (μ : Nat → Nat → Int32) (r s : Nat) : Option Nat := fnd (fun i => μ 284 (3 * r + i) = nI s) 0 (qF μ r)
abbrev qDir (μ : Nat → Nat → Int32) (b t s : Nat) : Prop := ¬ μ 279 (12 * b + t) = 0 ∧ ¬ μ 279 (12 * b + s) = 0 ∧ (if μ 280 (12 * b + s) = 0 then μ 282 (12 * b + t) = nI s else ¬ qFc μ (12 * b + t) s = none)
set_option maxHeartbeats 4000000 in
set_option maxRecDepth 100000 in
theorem lp_R_direct (l : Launch) (w : fl_W) (M : fl_M) (o : Nat) (hR : zRf o M.2) (b : Nat) (hb : b < 2) (t s : Nat) (ht : t < 12) (hs : s < 12) (hc : rC M.1 (12 * b + t)) (F : Option Nat) {p9 : Program} {e9 : Env} {s9 : State} {m9 : MethodId} {ag9 : Array Value} {bl9 : List Frame} {mt9 : Method} {c9 : Code} (K : XC p9 s9 m9 ag9 mt9 c9 b_R_direct 6 (some .boolean) w_R_direct "CompatibilityJudgeModel" w) : ∀ (k : Nat) (i : Nat), i ≤ qF M.1 (12 * b + t) → qF M.1 (12 * b + t) + 1 ≤ i + k → fnd (fun i => M.1 284 (3 * (12 * b + t) + i) = nI s) i (qF M.1 (12 * b + t) - i) = F → XW p9 l e9 (rm_R_direct) s9 m9 ag9 bl9 mt9 c9 6 0 0 (MQ bl9 (CQ w zN (some (.int (bI (¬ F = none)))) M) ag9 s9 0 0 (fun q : Nat => w.2.2 ≤ q)) w zN M 68 [(5, .int (nI i)), (4, .int (nI (12 * b + t))), (0, .ref (w.2.2 + 278)), (1, .int (nI b)), (2, .int (nI t)), (3, .int (nI s))] [] := by
  have h3 := hc.1.2
  intro k
  induction k with
  | zero =>
    intro i hi hk
    exact absurd hk (by omega)
  | succ k ih =>
    intro i hi hk hf
    refine x_iload (pc := 68) K 0 d_R_direct_68 rfl ?_
    refine x_aload_n (pc := 70) K 2 d_R_direct_70 rfl ?_
    refine x_getr (pc := 71) K (n := 278) (n' := 283) (k := 4) (zlt shR) shR rfl hR.r283 rfl (by decide) (fun _ q => zmem (uw_R _ q)) (zmem lk_R_23) d_R_direct_71 ?_
    refine x_iload (pc := 74) K 1 d_R_direct_74 rfl ?_
    refine x_iald (pc := 76) K (n := 283) (j := 12 * b + t) rfl (by omega) (zlt sh283) sh283 rfl (by decide) d_R_direct_76 ?_
    refine x_eqi (y := nI (qF M.1 (12 * b + t))) (hc.1.1) ?_
    refine x_icmp_ge (pc := 77) K (tgt := 104) d_R_direct_77 (by decide) (fun c77 => ?_) (fun c77 => ?_)
    · skip
      have hic : i = qF M.1 (12 * b + t) := by have := (nI_leI (by omega) (by omega)).mp c77; omega
      rw [hic, Nat.sub_self] at hf
      refine x_iconst (pc := 104) K (v := 0) d_R_direct_104 (by decide) ?_
      exact x_zret (pc := 105) K (rF (by simp [← hf, fnd])) rfl rfl d_R_direct_105
    · skip
      have hic : i < qF M.1 (12 * b + t) := Nat.not_le.mp (fun q => c77 (nI_le q (by omega)))
      rw [show qF M.1 (12 * b + t) - i = (qF M.1 (12 * b + t) - (i + 1)) + 1 by omega, fnd] at hf
      refine x_aload_n (pc := 80) K 2 d_R_direct_80 rfl ?_
      refine x_getr (pc := 81) K (n := 278) (n' := 284) (k := 5) (zlt shR) shR rfl hR.r284 rfl (by decide) (fun _ q => zmem (uw_R _ q)) (zmem lk_R_26) d_R_direct_81 ?_
      refine x_iconst (pc := 84) K (v := nI 3) d_R_direct_84 (by decide) ?_
      refine x_iload (pc := 85) K 1 d_R_direct_85 rfl ?_
      refine x_imul (pc := 87) K d_R_direct_87 ?_
      refine x_eqi (y := nI (3 * (12 * b + t))) (pk_mul _ _) ?_
      refine x_iload (pc := 88) K 0 d_R_direct_88 rfl ?_
      refine x_iadd (pc := 90) K d_R_direct_90 ?_
      refine x_eqi (y := nI ((3 * (12 * b + t)) + i)) (nI_add _ _) ?_
      refine x_iald (pc := 91) K (n := 284) (j := (3 * (12 * b + t)) + i) rfl (by omega) (zlt sh284) sh284 rfl (by decide) d_R_direct_91 ?_
      refine x_iload_n (pc := 92) K 5 d_R_direct_92 rfl ?_
      refine x_icmp_ne (pc := 93) K (tgt := 98) d_R_direct_93 (by decide) (fun c93 => ?_) (fun c93 => ?_)
      · skip
        rw [if_neg c93] at hf
        refine x_iinc (pc := 98) K (v := nI (i + 1)) (lv' := [(5, .int (nI (i + 1))), (4, .int (nI (12 * b + t))), (0, .ref (w.2.2 + 278)), (1, .int (nI b)), (2, .int (nI t)), (3, .int (nI s))]) 0 d_R_direct_98 rfl (nI_1 _) (by decide) rfl ?_
        refine x_goto (pc := 101) K (tgt := 68) d_R_direct_101 (by decide) ?_
        exact ih (i + 1) (by omega) (by omega) hf
      · skip
        rw [if_pos c93] at hf
        refine x_iconst (pc := 96) K (v := 1) d_R_direct_96 (by decide) ?_
        exact x_zret (pc := 97) K (rT (by simp [← hf, fnd])) rfl rfl d_R_direct_97
set_option maxHeartbeats 4000000 in
set_option maxRecDepth 100000 in
theorem c_R_direct (l : Launch) (w : fl_W) (M : fl_M) (o : Nat) (hR : zRf o M.2) (b : Nat) (hb : b < 2) (t s : Nat) (ht : t < 12) (hs : s < 12) (hc : rC M.1 (12 * b + t)) : CT l y_R_direct w_R_direct rm_R_direct w zN [.ref (w.2.2 + 278), .int (nI b), .int (nI t), .int (nI s)] M (some (.int (bI (qDir M.1 b t s)))) M := by
  refine CT.of (cc := b_R_direct) (own := "CompatibilityJudgeModel") (by decide) rfl rfl (Nat.le_of_ble_eq_true rfl) ?_
  intro p9 e9 s9 m9 ag9 bl9 mt9 c9 K
  show XW p9 l e9 (rm_R_direct) s9 m9 ag9 bl9 mt9 c9 6 0 0 (MQ bl9 (CQ w zN (some (.int (bI (qDir M.1 b t s)))) M) ag9 s9 0 0 (fun q : Nat => w.2.2 ≤ q)) w zN M 0 [(0, .ref (w.2.2 + 278)), (1, .int (nI b)), (2, .int (nI t)), (3, .int (nI s))] []
  refine x_bipush (pc := 0) K (v := nI 12) d_R_direct_0 (by decide) ?_
  refine x_iload_n (pc := 2) K 1 d_R_direct_2 rfl ?_
  refine x_imul (pc := 3) K d_R_direct_3 ?_
  refine x_eqi (y := nI (12 * b)) (pk_mul _ _) ?_
  refine x_iload_n (pc := 4) K 2 d_R_direct_4 rfl ?_
  refine x_iadd (pc := 5) K d_R_direct_5 ?_
  refine x_eqi (y := nI ((12 * b) + t)) (nI_add _ _) ?_
  refine x_istore (pc := 6) K (lv' := [(4, .int (nI ((12 * b) + t))), (0, .ref (w.2.2 + 278)), (1, .int (nI b)), (2, .int (nI t)), (3, .int (nI s))]) d_R_direct_6 (by decide) rfl ?_
  refine x_aload_n (pc := 8) K 1 d_R_direct_8 rfl ?_
  refine x_getr (pc := 9) K (n := 278) (n' := 279) (k := 0) (zlt shR) shR rfl hR.r279 rfl (by decide) (fun _ q => zmem (uw_R _ q)) (zmem lk_R_7) d_R_direct_9 ?_
  refine x_iload (pc := 12) K 0 d_R_direct_12 rfl ?_
  refine x_zald (pc := 14) K (n := 279) (j := (12 * b) + t) rfl (by omega) (zlt sh279) sh279 rfl (by decide) d_R_direct_14 ?_
  refine x_if_eq (pc := 15) K (tgt := 32) d_R_direct_15 (by decide) (fun c15 => ?_) (fun c15 => ?_)
  · skip
    refine x_iconst (pc := 32) K (v := 0) d_R_direct_32 (by decide) ?_
    exact x_zret (pc := 33) K (rF (fun q => q.1 c15)) rfl rfl d_R_direct_33
  · skip
    refine x_aload_n (pc := 18) K 1 d_R_direct_18 rfl ?_
    refine x_getr (pc := 19) K (n := 278) (n' := 279) (k := 0) (zlt shR) shR rfl hR.r279 rfl (by decide) (fun _ q => zmem (uw_R _ q)) (zmem lk_R_7) d_R_direct_19 ?_
    refine x_bipush (pc := 22) K (v := nI 12) d_R_direct_22 (by decide) ?_
    refine x_iload_n (pc := 24) K 2 d_R_direct_24 rfl ?_
    refine x_imul (pc := 25) K d_R_direct_25 ?_
    refine x_eqi (y := nI (12 * b)) (pk_mul _ _) ?_
    refine x_iload_n (pc := 26) K 4 d_R_direct_26 rfl ?_
    refine x_iadd (pc := 27) K d_R_direct_27 ?_
    refine x_eqi (y := nI ((12 * b) + s)) (nI_add _ _) ?_
    refine x_zald (pc := 28) K (n := 279) (j := (12 * b) + s) rfl (by omega) (zlt sh279) sh279 rfl (by decide) d_R_direct_28 ?_
    refine x_if_ne (pc := 29) K (tgt := 34) d_R_direct_29 (by decide) (fun c29 => ?_) (fun c29 => ?_)
    · skip
      refine x_aload_n (pc := 34) K 1 d_R_direct_34 rfl ?_
      refine x_getr (pc := 35) K (n := 278) (n' := 280) (k := 1) (zlt shR) shR rfl hR.r280 rfl (by decide) (fun _ q => zmem (uw_R _ q)) (zmem lk_R_13) d_R_direct_35 ?_
      refine x_bipush (pc := 38) K (v := nI 12) d_R_direct_38 (by decide) ?_
      refine x_iload_n (pc := 40) K 2 d_R_direct_40 rfl ?_
      refine x_imul (pc := 41) K d_R_direct_41 ?_
      refine x_eqi (y := nI (12 * b)) (pk_mul _ _) ?_
      refine x_iload_n (pc := 42) K 4 d_R_direct_42 rfl ?_
      refine x_iadd (pc := 43) K d_R_direct_43 ?_
      refine x_eqi (y := nI ((12 * b) + s)) (nI_add _ _) ?_
      refine x_iald (pc := 44) K (n := 280) (j := (12 * b) + s) rfl (by omega) (zlt sh280) sh280 rfl (by decide) d_R_direct_44 ?_
      refine x_if_ne (pc := 45) K (tgt := 65) d_R_direct_45 (by decide) (fun c45 => ?_) (fun c45 => ?_)
      · skip
        refine x_iconst (pc := 65) K (v := nI 0) d_R_direct_65 (by decide) ?_
        refine x_istore (pc := 66) K (lv' := [(5, .int (nI 0)), (4, .int (nI ((12 * b) + t))), (0, .ref (w.2.2 + 278)), (1, .int (nI b)), (2, .int (nI t)), (3, .int (nI s))]) d_R_direct_66 (by decide) rfl ?_
        refine x_lv [0, 1, 2, 3, 4, 5] rfl ?_
        rw [show bI (qDir M.1 b t s) = bI (¬ qFc M.1 (12 * b + t) s = none) from bI_c ⟨fun q => by have z := q.2.2; rw [if_neg c45] at z; exact z, fun q => ⟨c15, c29, by rw [if_neg c45]; exact q⟩⟩]
        exact lp_R_direct l w M o hR b hb t s ht hs hc _ K (qF M.1 (12 * b + t) + 1) 0 (by omega) (by omega) (by rw [Nat.sub_zero])
      · skip
        refine x_aload_n (pc := 48) K 1 d_R_direct_48 rfl ?_
        refine x_getr (pc := 49) K (n := 278) (n' := 282) (k := 3) (zlt shR) shR rfl hR.r282 rfl (by decide) (fun _ q => zmem (uw_R _ q)) (zmem lk_R_20) d_R_direct_49 ?_
        refine x_iload (pc := 52) K 0 d_R_direct_52 rfl ?_
        refine x_iald (pc := 54) K (n := 282) (j := (12 * b) + t) rfl (by omega) (zlt sh282) sh282 rfl (by decide) d_R_direct_54 ?_
        refine x_iload_n (pc := 55) K 4 d_R_direct_55 rfl ?_
        refine x_icmp_ne (pc := 56) K (tgt := 63) d_R_direct_56 (by decide) (fun c56 => ?_) (fun c56 => ?_)
        · skip
          refine x_iconst (pc := 63) K (v := 0) d_R_direct_63 (by decide) ?_
          exact x_zret (pc := 64) K (rF (fun q => by have z := q.2.2; rw [if_pos c45] at z; exact c56 z)) rfl rfl d_R_direct_64
        · skip
          refine x_iconst (pc := 59) K (v := 1) d_R_direct_59 (by decide) ?_
          refine x_goto (pc := 60) K (tgt := 64) d_R_direct_60 (by decide) ?_
          exact x_zret (pc := 64) K (rT (⟨c15, c29, by rw [if_pos c45]; exact c56⟩)) rfl rfl d_R_direct_64
    · skip
      refine x_iconst (pc := 32) K (v := 0) d_R_direct_32 (by decide) ?_
      exact x_zret (pc := 33) K (rF (fun q => q.2.1 c29)) rfl rfl d_R_direct_33
theorem dec1 (x : Int32) : x + Int32.ofInt (-1) = x - 1 := by
  rw [Int32.sub_eq_add_neg]; rfl
theorem pre1 {s : Nat} (hs : s < 2 ^ 31) : nI s - 1 < 0 ↔ s = 0 := by
  rcases Nat.eq_zero_or_pos s with q | q
  · subst q; exact ⟨fun _ => rfl, fun _ => by decide⟩
  · rw [show (1 : Int32) = nI 1 from by decide, pk_sub q]
    exact ⟨fun z => absurd z (nI_pos (by omega)), fun z => by omega⟩
def sil (μ : Nat → Nat → Int32) (b s : Nat) (all : Int32) : Nat → Nat → Int32 → Int32
  | _, 0, a => a
  | u, k + 1, a => sil μ b s all (u + 1) k (if ¬ (all >>> (nI u &&& 31)) &&& 1 = 0 ∧ qDir μ b u s then 1 else a)
def sol (μ : Nat → Nat → Int32) (b t : Nat) : Nat → Int32 → Int32
  | 0, all => all
  | s + 1, all => sol μ b t s (if sil μ b s all (s + 1) (t - (s + 1)) (bI (qDir μ b t s)) = 0 then all else all ||| 1 <<< (nI s &&& 31))
abbrev qSet (μ : Nat → Nat → Int32) (b t : Nat) : Int32 := sol μ b t t 0
set_option maxHeartbeats 4000000 in
set_option maxRecDepth 100000 in
theorem li_R_set (l : Launch) (w : fl_W) (M : fl_M) (o : Nat) (hR : zRf o M.2) (b : Nat) (hb : b < 2) (t : Nat) (ht : t < 12) (hc : ∀ r, r < 24 → rC M.1 r) (s : Nat) (hs : s < t) (all F V : Int32) {p9 : Program} {e9 : Env} {s9 : State} {m9 : MethodId} {ag9 : Array Value} {bl9 : List Frame} {mt9 : Method} {c9 : Code} (K : XC p9 s9 m9 ag9 mt9 c9 b_R_set 7 (some .int) w_R_set "CompatibilityJudgeModel" w) : ∀ (k : Nat) (i : Nat) (a : Int32), i ≤ t → t + 1 ≤ i + k → sil M.1 b s all i (t - i) a = F → (XW p9 l e9 (rm_R_set) s9 m9 ag9 bl9 mt9 c9 7 0 0 (MQ bl9 (CQ w zN (some (.int V)) M) ag9 s9 0 0 (fun q : Nat => w.2.2 ≤ q)) w zN M 64 [(6, .int (nI t)), (5, .int F), (4, .int (nI s)), (3, .int all), (0, .ref (w.2.2 + 278)), (1, .int (nI b)), (2, .int (nI t))] []) → XW p9 l e9 (rm_R_set) s9 m9 ag9 bl9 mt9 c9 7 0 0 (MQ bl9 (CQ w zN (some (.int V)) M) ag9 s9 0 0 (fun q : Nat => w.2.2 ≤ q)) w zN M 28 [(6, .int (nI i)), (5, .int a), (4, .int (nI s)), (3, .int all), (0, .ref (w.2.2 + 278)), (1, .int (nI b)), (2, .int (nI t))] [] := by
  intro k
  induction k with
  | zero =>
    intro i a hi hk
    exact absurd hk (by omega)
  | succ k ih =>
    intro i a hi hk hf hE
    refine x_iload (pc := 28) K 0 d_R_set_28 rfl ?_
    refine x_iload_n (pc := 30) K 6 d_R_set_30 rfl ?_
    refine x_icmp_ge (pc := 31) K (tgt := 64) d_R_set_31 (by decide) (fun c31 => ?_) (fun c31 => ?_)
    · skip
      have hic : i = t := by have := (nI_leI (by omega) (by omega)).mp c31; omega
      rw [hic, Nat.sub_self] at hf
      subst hic
      have hf : a = F := hf
      subst hf
      refine x_lv [0, 1, 2, 3, 4, 5, 6] rfl ?_
      exact hE
    · skip
      have hic : i < t := Nat.not_le.mp (fun q => c31 (nI_le q (by omega)))
      rw [show t - i = (t - (i + 1)) + 1 by omega, sil] at hf
      refine x_iload_n (pc := 34) K 3 d_R_set_34 rfl ?_
      refine x_iload (pc := 35) K 0 d_R_set_35 rfl ?_
      refine x_ishr (pc := 37) K d_R_set_37 ?_
      refine x_iconst (pc := 38) K (v := 1) d_R_set_38 (by decide) ?_
      refine x_iand (pc := 39) K d_R_set_39 ?_
      refine x_if_eq (pc := 40) K (tgt := 58) d_R_set_40 (by decide) (fun c40 => ?_) (fun c40 => ?_)
      · skip
        rw [if_neg (fun q => q.1 c40)] at hf
        refine x_iinc (pc := 58) K (v := nI (i + 1)) (lv' := [(6, .int (nI (i + 1))), (5, .int a), (4, .int (nI s)), (3, .int all), (0, .ref (w.2.2 + 278)), (1, .int (nI b)), (2, .int (nI t))]) 0 d_R_set_58 rfl (nI_1 _) (by decide) rfl ?_
        refine x_goto (pc := 61) K (tgt := 28) d_R_set_61 (by decide) ?_
        refine x_lv [0, 1, 2, 3, 4, 5, 6] rfl ?_
        exact ih (i + 1) _ (by omega) (by omega) hf hE
      · skip
        refine x_aload_n (pc := 43) K 4 d_R_set_43 rfl ?_
        refine x_iload_n (pc := 44) K 5 d_R_set_44 rfl ?_
        refine x_iload (pc := 45) K 0 d_R_set_45 rfl ?_
        refine x_iload (pc := 47) K 2 d_R_set_47 rfl ?_
        refine x_callV (pc := 49) K (As := [.int (nI b), .int (nI i), .int (nI s)]) (rest := []) (c_R_direct l w M o hR b hb i s (by omega) (by omega) (hc _ (by omega))) (zcwV K.ts lk_R_104 im_R_direct se_R_direct ii_R co_R_direct pd_R_direct ⟨rfl, rfl⟩ ⟨by decide, by decide⟩) (zlt shR) shR rfl rfl rfl (Nat.le_of_ble_eq_true rfl) ⟨Nat.zero_le _, Nat.zero_le _⟩ d_R_set_49 ?_
        refine x_ifeqB (pc := 52) K (tgt := 58) d_R_set_52 (by decide) (fun c52 => ?_) (fun c52 => ?_)
        · skip
          rw [if_neg (fun q => c52 q.2)] at hf
          refine x_iinc (pc := 58) K (v := nI (i + 1)) (lv' := [(6, .int (nI (i + 1))), (5, .int a), (4, .int (nI s)), (3, .int all), (0, .ref (w.2.2 + 278)), (1, .int (nI b)), (2, .int (nI t))]) 0 d_R_set_58 rfl (nI_1 _) (by decide) rfl ?_
          refine x_goto (pc := 61) K (tgt := 28) d_R_set_61 (by decide) ?_
          refine x_lv [0, 1, 2, 3, 4, 5, 6] rfl ?_
          exact ih (i + 1) _ (by omega) (by omega) hf hE
        · skip
          rw [if_pos ⟨c40, c52⟩] at hf
          refine x_iconst (pc := 55) K (v := 1) d_R_set_55 (by decide) ?_
          refine x_istore (pc := 56) K (lv' := [(5, .int 1), (6, .int (nI i)), (4, .int (nI s)), (3, .int all), (0, .ref (w.2.2 + 278)), (1, .int (nI b)), (2, .int (nI t))]) d_R_set_56 (by decide) rfl ?_
          refine x_iinc (pc := 58) K (v := nI (i + 1)) (lv' := [(6, .int (nI (i + 1))), (5, .int 1), (4, .int (nI s)), (3, .int all), (0, .ref (w.2.2 + 278)), (1, .int (nI b)), (2, .int (nI t))]) 1 d_R_set_58 rfl (nI_1 _) (by decide) rfl ?_
          refine x_goto (pc := 61) K (tgt := 28) d_R_set_61 (by decide) ?_
          refine x_lv [0, 1, 2, 3, 4, 5, 6] rfl ?_
          exact ih (i + 1) _ (by omega) (by omega) hf hE
set_option maxHeartbeats 4000000 in
set_option maxRecDepth 100000 in
theorem lp_R_set (l : Launch) (w : fl_W) (M : fl_M) (o : Nat) (hR : zRf o M.2) (b : Nat) (hb : b < 2) (t : Nat) (ht : t < 12) (hc : ∀ r, r < 24 → rC M.1 r) (F : Int32) {p9 : Program} {e9 : Env} {s9 : State} {m9 : MethodId} {ag9 : Array Value} {bl9 : List Frame} {mt9 : Method} {c9 : Code} (K : XC p9 s9 m9 ag9 mt9 c9 b_R_set 7 (some .int) w_R_set "CompatibilityJudgeModel" w) : ∀ (s : Nat) (all : Int32), s ≤ t → sol M.1 b t s all = F → XW p9 l e9 (rm_R_set) s9 m9 ag9 bl9 mt9 c9 7 0 0 (MQ bl9 (CQ w zN (some (.int F)) M) ag9 s9 0 0 (fun q : Nat => w.2.2 ≤ q)) w zN M 7 [(4, .int (nI s - 1)), (3, .int all), (0, .ref (w.2.2 + 278)), (1, .int (nI b)), (2, .int (nI t))] [] := by
  intro s
  induction s with
  | zero =>
    intro all hs hf
    refine x_iload (pc := 7) K 0 d_R_set_7 rfl ?_
    refine x_if_lt (pc := 9) K (tgt := 82) d_R_set_9 (by decide) (fun c9 => ?_) (fun c9 => ?_)
    · skip
      refine x_iload_n (pc := 82) K 1 d_R_set_82 rfl ?_
      exact x_iret (pc := 83) K (by subst hf; rfl) (rfl) d_R_set_83
    · skip
      exact absurd ((pre1 (by omega)).mpr rfl) c9
  | succ s ih =>
    intro all hs hf
    rw [sol] at hf
    refine x_iload (pc := 7) K 0 d_R_set_7 rfl ?_
    refine x_if_lt (pc := 9) K (tgt := 82) d_R_set_9 (by decide) (fun c9 => ?_) (fun c9 => ?_)
    · skip
      exact absurd ((pre1 (by omega)).mp c9) (by omega)
    · skip
      rw [show nI (s + 1) - 1 = nI s from nI_pred s]
      refine x_aload_n (pc := 12) K 2 d_R_set_12 rfl ?_
      refine x_iload_n (pc := 13) K 3 d_R_set_13 rfl ?_
      refine x_iload_n (pc := 14) K 4 d_R_set_14 rfl ?_
      refine x_iload (pc := 15) K 0 d_R_set_15 rfl ?_
      refine x_callV (pc := 17) K (As := [.int (nI b), .int (nI t), .int (nI s)]) (rest := []) (c_R_direct l w M o hR b hb t s (by omega) (by omega) (hc _ (by omega))) (zcwV K.ts lk_R_104 im_R_direct se_R_direct ii_R co_R_direct pd_R_direct ⟨rfl, rfl⟩ ⟨by decide, by decide⟩) (zlt shR) shR rfl rfl rfl (Nat.le_of_ble_eq_true rfl) ⟨Nat.zero_le _, Nat.zero_le _⟩ d_R_set_17 ?_
      refine x_istore (pc := 20) K (lv' := [(5, .int (bI (qDir M.1 b t s))), (4, .int (nI s)), (3, .int all), (0, .ref (w.2.2 + 278)), (1, .int (nI b)), (2, .int (nI t))]) d_R_set_20 (by decide) rfl ?_
      refine x_iload (pc := 22) K 1 d_R_set_22 rfl ?_
      refine x_iconst (pc := 24) K (v := nI 1) d_R_set_24 (by decide) ?_
      refine x_iadd (pc := 25) K d_R_set_25 ?_
      refine x_eqi (y := nI (s + 1)) (nI_add _ _) ?_
      refine x_istore (pc := 26) K (lv' := [(6, .int (nI (s + 1))), (5, .int (bI (qDir M.1 b t s))), (4, .int (nI s)), (3, .int all), (0, .ref (w.2.2 + 278)), (1, .int (nI b)), (2, .int (nI t))]) d_R_set_26 (by decide) rfl ?_
      refine x_lv [0, 1, 2, 3, 4, 5, 6] rfl ?_
      refine li_R_set l w M o hR b hb t ht hc s (by omega) all _ _ K (t + 1) (s + 1) _ (by omega) (by omega) rfl ?_
      refine x_iload (pc := 64) K 1 d_R_set_64 rfl ?_
      refine x_if_eq (pc := 66) K (tgt := 76) d_R_set_66 (by decide) (fun c66 => ?_) (fun c66 => ?_)
      · skip
        rw [if_pos c66] at hf
        refine x_iinc (pc := 76) K (v := nI s - 1) (lv' := [(4, .int (nI s - 1)), (6, .int (nI t)), (5, .int (sil M.1 b s all (s + 1) (t - (s + 1)) (bI (qDir M.1 b t s)))), (3, .int all), (0, .ref (w.2.2 + 278)), (1, .int (nI b)), (2, .int (nI t))]) 2 d_R_set_76 rfl (dec1 _) (by decide) rfl ?_
        refine x_goto (pc := 79) K (tgt := 7) d_R_set_79 (by decide) ?_
        refine x_lv [0, 3, 4, 5, 6] rfl ?_
        exact ih _ (by omega) hf
      · skip
        rw [if_neg c66] at hf
        refine x_iload_n (pc := 69) K 3 d_R_set_69 rfl ?_
        refine x_iconst (pc := 70) K (v := nI 1) d_R_set_70 (by decide) ?_
        refine x_iload (pc := 71) K 2 d_R_set_71 rfl ?_
        refine x_ishl (pc := 73) K d_R_set_73 ?_
        refine x_ior (pc := 74) K d_R_set_74 ?_
        refine x_istore_n (pc := 75) K (lv' := [(3, .int (all ||| ((nI 1) <<< ((nI s) &&& 31)))), (6, .int (nI t)), (5, .int (sil M.1 b s all (s + 1) (t - (s + 1)) (bI (qDir M.1 b t s)))), (4, .int (nI s)), (0, .ref (w.2.2 + 278)), (1, .int (nI b)), (2, .int (nI t))]) d_R_set_75 (by decide) rfl ?_
        refine x_iinc (pc := 76) K (v := nI s - 1) (lv' := [(4, .int (nI s - 1)), (3, .int (all ||| ((nI 1) <<< ((nI s) &&& 31)))), (6, .int (nI t)), (5, .int (sil M.1 b s all (s + 1) (t - (s + 1)) (bI (qDir M.1 b t s)))), (0, .ref (w.2.2 + 278)), (1, .int (nI b)), (2, .int (nI t))]) 3 d_R_set_76 rfl (dec1 _) (by decide) rfl ?_
        refine x_goto (pc := 79) K (tgt := 7) d_R_set_79 (by decide) ?_
        refine x_lv [0, 1, 4, 5, 6] rfl ?_
        exact ih _ (by omega) hf
set_option maxHeartbeats 4000000 in
set_option maxRecDepth 100000 in
theorem c_R_set (l : Launch) (w : fl_W) (M : fl_M) (o : Nat) (hR : zRf o M.2) (b : Nat) (hb : b < 2) (t : Nat) (ht : t < 12) (hc : ∀ r, r < 24 → rC M.1 r)  : CT l y_R_set w_R_set rm_R_set w zN [.ref (w.2.2 + 278), .int (nI b), .int (nI t)] M (some (.int (qSet M.1 b t))) M := by
  refine CT.of (cc := b_R_set) (own := "CompatibilityJudgeModel") (by decide) rfl rfl (Nat.le_of_ble_eq_true rfl) ?_
  intro p9 e9 s9 m9 ag9 bl9 mt9 c9 K
  show XW p9 l e9 (rm_R_set) s9 m9 ag9 bl9 mt9 c9 7 0 0 (MQ bl9 (CQ w zN (some (.int (qSet M.1 b t))) M) ag9 s9 0 0 (fun q : Nat => w.2.2 ≤ q)) w zN M 0 [(0, .ref (w.2.2 + 278)), (1, .int (nI b)), (2, .int (nI t))] []
  refine x_iconst (pc := 0) K (v := 0) d_R_set_0 (by decide) ?_
  refine x_istore_n (pc := 1) K (lv' := [(3, .int 0), (0, .ref (w.2.2 + 278)), (1, .int (nI b)), (2, .int (nI t))]) d_R_set_1 (by decide) rfl ?_
  refine x_iload_n (pc := 2) K 3 d_R_set_2 rfl ?_
  refine x_iconst (pc := 3) K (v := 1) d_R_set_3 (by decide) ?_
  refine x_isub (pc := 4) K d_R_set_4 ?_
  refine x_istore (pc := 5) K (lv' := [(4, .int ((nI t) - 1)), (3, .int 0), (0, .ref (w.2.2 + 278)), (1, .int (nI b)), (2, .int (nI t))]) d_R_set_5 (by decide) rfl ?_
  refine x_lv [0, 1, 2, 3, 4] rfl ?_
  exact lp_R_set l w M o hR b hb t ht hc _ K t 0 (by omega) rfl
abbrev qAb (μ : Nat → Nat → Int32) (b t s : Nat) : Prop := ¬ (qSet μ b t >>> (nI s &&& 31)) &&& 1 = 0
set_option maxHeartbeats 4000000 in
set_option maxRecDepth 100000 in
theorem c_R_above (l : Launch) (w : fl_W) (M : fl_M) (o : Nat) (hR : zRf o M.2) (b : Nat) (hb : b < 2) (t : Nat) (ht : t < 12) (hc : ∀ r, r < 24 → rC M.1 r) (s : Nat) : CT l y_R_above w_R_above rm_R_above w zN [.ref (w.2.2 + 278), .int (nI b), .int (nI t), .int (nI s)] M (some (.int (bI (qAb M.1 b t s)))) M := by
  refine CT.of (cc := b_R_above) (own := "CompatibilityJudgeModel") (by decide) rfl rfl (Nat.le_of_ble_eq_true rfl) ?_
  intro p9 e9 s9 m9 ag9 bl9 mt9 c9 K
  show XW p9 l e9 (rm_R_above) s9 m9 ag9 bl9 mt9 c9 4 0 0 (MQ bl9 (CQ w zN (some (.int (bI (qAb M.1 b t s)))) M) ag9 s9 0 0 (fun q : Nat => w.2.2 ≤ q)) w zN M 0 [(0, .ref (w.2.2 + 278)), (1, .int (nI b)), (2, .int (nI t)), (3, .int (nI s))] []
  refine x_aload_n (pc := 0) K 0 d_R_above_0 rfl ?_
  refine x_iload_n (pc := 1) K 1 d_R_above_1 rfl ?_
  refine x_iload_n (pc := 2) K 2 d_R_above_2 rfl ?_
  refine x_callV (pc := 3) K (As := [.int (nI b), .int (nI t)]) (rest := []) (c_R_set l w M o hR b (by omega) t (by omega) hc) (zcwV K.ts lk_R_100 im_R_set se_R_set ii_R co_R_set pd_R_set ⟨rfl, rfl⟩ ⟨by decide, by decide⟩) (zlt shR) shR rfl rfl rfl (Nat.le_of_ble_eq_true rfl) ⟨Nat.zero_le _, Nat.zero_le _⟩ d_R_above_3 ?_
  refine x_iload_n (pc := 6) K 3 d_R_above_6 rfl ?_
  refine x_ishr (pc := 7) K d_R_above_7 ?_
  refine x_iconst (pc := 8) K (v := 1) d_R_above_8 (by decide) ?_
  refine x_iand (pc := 9) K d_R_above_9 ?_
  refine x_if_eq (pc := 10) K (tgt := 17) d_R_above_10 (by decide) (fun c10 => ?_) (fun c10 => ?_)
  · skip
    refine x_iconst (pc := 17) K (v := 0) d_R_above_17 (by decide) ?_
    exact x_zret (pc := 18) K (rF (fun q => q c10)) rfl rfl d_R_above_18
  · skip
    refine x_iconst (pc := 13) K (v := 1) d_R_above_13 (by decide) ?_
    refine x_goto (pc := 14) K (tgt := 18) d_R_above_14 (by decide) ?_
    exact x_zret (pc := 18) K (rT (c10)) rfl rfl d_R_above_18
set_option maxHeartbeats 4000000 in
set_option maxRecDepth 100000 in
theorem c_R_supertypes (l : Launch) (w : fl_W) (M : fl_M) (o : Nat) (hR : zRf o M.2) (hc : ∀ r, r < 24 → rC M.1 r) (b t : Int32) : CT l y_R_supertypes w_R_supertypes rm_R_supertypes w zN [.ref (w.2.2 + 278), .int b, .int t] M (some (.int (if badT b t then -1 else qSet M.1 (ix b) (ix t)))) M := by
  refine CT.of (cc := b_R_supertypes) (own := "CompatibilityJudgeModel") (by decide) rfl rfl (Nat.le_of_ble_eq_true rfl) ?_
  intro p9 e9 s9 m9 ag9 bl9 mt9 c9 K
  show XW p9 l e9 (rm_R_supertypes) s9 m9 ag9 bl9 mt9 c9 3 0 0 (MQ bl9 (CQ w zN (some (.int (if badT b t then -1 else qSet M.1 (ix b) (ix t)))) M) ag9 s9 0 0 (fun q : Nat => w.2.2 ≤ q)) w zN M 0 [(0, .ref (w.2.2 + 278)), (1, .int b), (2, .int t)] []
  refine x_iload_n (pc := 0) K 1 d_R_supertypes_0 rfl ?_
  refine x_iload_n (pc := 1) K 2 d_R_supertypes_1 rfl ?_
  refine x_callS (pc := 2) K (As := [.int b, .int t]) (rest := []) (c_R_bad l w M b t) (zcwS K.ts lk_R_63 sm_R_bad ii_R co_R_bad pd_R_bad ⟨rfl, rfl⟩ ⟨by decide, by decide⟩) rfl rfl (Nat.le_of_ble_eq_true rfl) ⟨Nat.zero_le _, Nat.zero_le _⟩ d_R_supertypes_2 ?_
  refine x_ifeqB (pc := 5) K (tgt := 12) d_R_supertypes_5 (by decide) (fun c5 => ?_) (fun c5 => ?_)
  · skip
    have hok9 := badT_iff.mp c5
    obtain ⟨hbx, htx⟩ := okT_ix hok9
    have hb2 := hbx.2
    have ht12 := htx.2
    refine x_aload_n (pc := 12) K 0 d_R_supertypes_12 rfl ?_
    refine x_iload_n (pc := 13) K 1 d_R_supertypes_13 rfl ?_
    refine x_eqi (y := nI (ix b)) (hbx.1) ?_
    refine x_iload_n (pc := 14) K 2 d_R_supertypes_14 rfl ?_
    refine x_eqi (y := nI (ix t)) (htx.1) ?_
    refine x_callV (pc := 15) K (As := [.int (nI (ix b)), .int (nI (ix t))]) (rest := []) (c_R_set l w M o hR (ix b) (by omega) (ix t) (by omega) hc) (zcwV K.ts lk_R_100 im_R_set se_R_set ii_R co_R_set pd_R_set ⟨rfl, rfl⟩ ⟨by decide, by decide⟩) (zlt shR) shR rfl rfl rfl (Nat.le_of_ble_eq_true rfl) ⟨Nat.zero_le _, Nat.zero_le _⟩ d_R_supertypes_15 ?_
    exact x_iret (pc := 18) K (by rw [if_neg c5]) (rfl) d_R_supertypes_18
  · skip
    refine x_iconst (pc := 8) K (v := (-1)) d_R_supertypes_8 (by decide) ?_
    refine x_goto (pc := 9) K (tgt := 18) d_R_supertypes_9 (by decide) ?_
    exact x_iret (pc := 18) K (by rw [if_pos c5]) (rfl) d_R_supertypes_18
