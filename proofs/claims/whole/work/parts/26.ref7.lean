theorem fsc_2 {M : fl_M} {b r n : Nat} : (fsc M b r n).1.2 = M.2 := by unfold fsc; split <;> rfl
theorem fsc_rd {M : fl_M} {b r n a j : Nat} (h : a ≠ 293) : (fsc M b r n).1.1 a j = M.1 a j := by
  unfold fsc
  split
  · exact rdI_ne (Or.inl h)
  · rfl
theorem ffl_2 {b r : Nat} : ∀ (s n : Nat) (M : fl_M), (ffl M b r n s).1.2 = M.2 := by
  intro s
  induction s with
  | zero => intro n M; rfl
  | succ s ih => intro n M; rw [ffl]; split <;> rw [ih] <;> rfl
theorem ffl_rd {b r a j : Nat} (h : a ≠ 293) : ∀ (s n : Nat) (M : fl_M), (ffl M b r n s).1.1 a j = M.1 a j := by
  intro s
  induction s with
  | zero => intro n M; rfl
  | succ s ih =>
    intro n M
    rw [ffl]
    split
    · rw [ih, rdI_ne (Or.inl h)]
    · rw [ih]
theorem dfs_2 {b : Nat} {key : Int32} : ∀ (k : Nat) (M : fl_M) (n : Nat), (dfs b key k M n).2.2 = M.2 := by
  intro k
  induction k with
  | zero => intro M n; rfl
  | succ k ih =>
    intro M n
    rw [dfs]
    split
    · rfl
    · split
      · rw [ih]
      · split
        · rfl
        · rw [ih, ffl_2, fsc_2]; rfl
theorem dfs_rd {b : Nat} {key : Int32} {a j : Nat} (h1 : a ≠ 292) (h2 : a ≠ 293) : ∀ (k : Nat) (M : fl_M) (n : Nat), (dfs b key k M n).2.1 a j = M.1 a j := by
  intro k
  induction k with
  | zero => intro M n; rfl
  | succ k ih =>
    intro M n
    rw [dfs]
    split
    · rfl
    · split
      · rw [ih]
      · split
        · exact rdI_ne (Or.inl h1)
        · rw [ih, ffl_rd h2, fsc_rd h2, rdI_ne (Or.inl h1)]
theorem mFd_2 {M : fl_M} {b t : Nat} {k key : Int32} : (mFd M b t k key).2 = M.2 := by
  unfold mFd
  split
  · rfl
  · split
    · show (dfs b key 50 (wI (fcl M 0 12) 293 0 (nI t)) 1).2.2 = M.2
      rw [dfs_2]
      exact fcl_2 _ _ _
    · rfl
theorem mFd_rd {M : fl_M} {b t a j : Nat} {k key : Int32} (h1 : a ≠ 292) (h2 : a ≠ 293) : (mFd M b t k key).1 a j = M.1 a j := by
  unfold mFd
  split
  · rfl
  · split
    · show (dfs b key 50 (wI (fcl M 0 12) 293 0 (nI t)) 1).2.1 a j = M.1 a j
      rw [dfs_rd h1 h2, rdI_ne (Or.inl h2), fcl_rd h1]
    · rfl
/-- what the reference's rows keep -/
def mOk (o : Nat) (M : fl_M) : Prop := zRf o M.2 ∧ rCs M.1 ∧ ∀ b, b < 2 → rP M.1 b
def kpR (M M' : fl_M) : Prop := (∀ a k, 279 ≤ a → a ≤ 291 → M'.1 a k = M.1 a k) ∧ M'.2 = M.2
theorem kpR.rf {M : fl_M} : kpR M M := ⟨fun _ _ _ _ => rfl, rfl⟩
theorem kpR.tr {A B C : fl_M} (h : kpR A B) (g : kpR B C) : kpR A C := ⟨fun a k h1 h2 => (g.1 a k h1 h2).trans (h.1 a k h1 h2), g.2.trans h.2⟩
theorem mOk_kp {o : Nat} {M M' : fl_M} (h : mOk o M) (g : kpR M M') : mOk o M' := by
  refine ⟨by rw [g.2]; exact h.1, fun r hr => ?_, fun b hb t ht hd => ?_⟩
  · unfold rC qF qM
    rw [g.1 283 r (by omega) (by omega), g.1 285 r (by omega) (by omega)]
    exact h.2.1 r hr
  · rw [g.1 279 _ (by omega) (by omega)] at hd
    obtain ⟨a1, a2⟩ := h.2.2 b hb t ht hd
    refine ⟨by rw [g.1 282 _ (by omega) (by omega)]; exact a1, fun i hi => ?_⟩
    unfold qF at hi
    rw [g.1 283 _ (by omega) (by omega)] at hi
    rw [g.1 284 _ (by omega) (by omega)]
    exact a2 i hi
theorem kp_mFd {M : fl_M} {b t : Nat} {k key : Int32} : kpR M (mFd M b t k key) := ⟨fun a j h1 h2 => mFd_rd (by omega) (by omega), mFd_2⟩
def te1 (M : fl_M) (r t : Nat) (d : Int32) : fl_M := if M.1 278 16 = M.1 278 15 then wI (wI (wI M 278 17 (nI r)) 278 18 (nI t)) 278 19 d else M
def te2 (M : fl_M) : fl_M := wI M 278 16 (M.1 278 16 + 1)
def te4 (M : fl_M) (r : Nat) : fl_M := if sev (nI r) ≤ M.1 278 20 then M else wI M 278 20 (sev (nI r))
def te3 (M : fl_M) (r t : Nat) : fl_M := if M.1 291 (12 * r + t) = 0 then te4 (wI M 294 r (M.1 294 r + 1)) r else M
def tel (M : fl_M) (r t : Nat) (d : Int32) : fl_M := te3 (te2 (te1 M r t d)) r t
theorem tel_kp {M : fl_M} {r t : Nat} {d : Int32} : kpR M (tel M r t d) := by
  have h1 : kpR M (te1 M r t d) := by
    unfold te1
    split
    · exact ⟨fun a k h1 h2 => by rw [rdI_ne (Or.inl (by omega)), rdI_ne (Or.inl (by omega)), rdI_ne (Or.inl (by omega))], rfl⟩
    · exact kpR.rf
  have h2 : ∀ M : fl_M, kpR M (te2 M) := fun M => ⟨fun a k h1 h2 => rdI_ne (Or.inl (by omega)), rfl⟩
  have h4 : ∀ M : fl_M, kpR M (te4 M r) := fun M => by
    unfold te4
    split
    · exact kpR.rf
    · exact ⟨fun a k h1 h2 => rdI_ne (Or.inl (by omega)), rfl⟩
  have h3 : ∀ M : fl_M, kpR M (te3 M r t) := fun M => by
    unfold te3
    split
    · exact kpR.tr ⟨fun a k h1 h2 => rdI_ne (Or.inl (by omega)), rfl⟩ (h4 _)
    · exact kpR.rf
  exact (h1.tr (h2 _)).tr (h3 _)
set_option maxHeartbeats 4000000 in
set_option maxRecDepth 100000 in
theorem c_R_tell (l : Launch) (w : fl_W) (M : fl_M) (o : Nat) (hR : zRf o M.2) (r t : Nat) (hr : r < 14) (ht : t < 12) (d : Int32) : CT l y_R_tell w_R_tell rm_R_tell w zN [.ref (w.2.2 + 278), .int (nI r), .int (nI t), .int d] M none (tel M r t d) := by
  refine CT.of (cc := b_R_tell) (own := "CompatibilityJudgeModel") (by decide) rfl rfl (Nat.le_of_ble_eq_true rfl) ?_
  intro p9 e9 s9 m9 ag9 bl9 mt9 c9 K
  show XW p9 l e9 (rm_R_tell) s9 m9 ag9 bl9 mt9 c9 4 0 0 (MQ bl9 (CQ w zN none (tel M r t d)) ag9 s9 0 0 (fun q : Nat => w.2.2 ≤ q)) w zN M 0 [(0, .ref (w.2.2 + 278)), (1, .int (nI r)), (2, .int (nI t)), (3, .int d)] []
  refine x_aload_n (pc := 0) K 0 d_R_tell_0 rfl ?_
  refine x_geti (pc := 1) K (n := 278) (k := 16) (zlt shR) shR rfl rfl (by decide) (fun _ q => zmem (uw_R _ q)) (zmem lk_R_124) d_R_tell_1 ?_
  refine x_aload_n (pc := 4) K 0 d_R_tell_4 rfl ?_
  refine x_geti (pc := 5) K (n := 278) (k := 15) (zlt shR) shR rfl rfl (by decide) (fun _ q => zmem (uw_R _ q)) (zmem lk_R_128) d_R_tell_5 ?_
  refine x_icmp_ne (pc := 8) K (tgt := 26) d_R_tell_8 (by decide) (fun c8 => ?_) (fun c8 => ?_)
  · skip
    refine x_aload_n (pc := 26) K 0 d_R_tell_26 rfl ?_
    refine x_dup (pc := 27) K d_R_tell_27 rfl ?_
    refine x_geti (pc := 28) K (n := 278) (k := 16) (zlt shR) shR rfl rfl (by decide) (fun _ q => zmem (uw_R _ q)) (zmem lk_R_124) d_R_tell_28 ?_
    refine x_iconst (pc := 31) K (v := 1) d_R_tell_31 (by decide) ?_
    refine x_iadd (pc := 32) K d_R_tell_32 ?_
    refine x_puti (pc := 33) K (n := 278) (k := 16) (x := (M.1 278 16) + 1) uY_R tk_R nm_R (zlt shR) shR rfl rfl (by decide) (fun _ q => zmem (uw_R _ q)) (zmem lk_R_124) rfl rfl rfl d_R_tell_33 ?_
    refine x_aload_n (pc := 36) K 0 d_R_tell_36 rfl ?_
    refine x_getr (pc := 37) K (n := 278) (n' := 291) (k := 12) (zlt shR) shR rfl hR.r291 rfl (by decide) (fun _ q => zmem (uw_R _ q)) (zmem lk_R_47) d_R_tell_37 ?_
    refine x_bipush (pc := 40) K (v := nI 12) d_R_tell_40 (by decide) ?_
    refine x_iload_n (pc := 42) K 1 d_R_tell_42 rfl ?_
    refine x_imul (pc := 43) K d_R_tell_43 ?_
    refine x_eqi (y := nI (12 * r)) (pk_mul _ _) ?_
    refine x_iload_n (pc := 44) K 2 d_R_tell_44 rfl ?_
    refine x_iadd (pc := 45) K d_R_tell_45 ?_
    refine x_eqi (y := nI ((12 * r) + t)) (nI_add _ _) ?_
    refine x_zald (pc := 46) K (n := 291) (j := (12 * r) + t) rfl (by omega) (zlt sh291) sh291 rfl (by decide) d_R_tell_46 ?_
    refine x_if_eq (pc := 47) K (tgt := 51) d_R_tell_47 (by decide) (fun c47 => ?_) (fun c47 => ?_)
    · skip
      refine x_aload_n (pc := 51) K 0 d_R_tell_51 rfl ?_
      refine x_getr (pc := 52) K (n := 278) (n' := 294) (k := 21) (zlt shR) shR rfl hR.r294 rfl (by decide) (fun _ q => zmem (uw_R _ q)) (zmem lk_R_56) d_R_tell_52 ?_
      refine x_iload_n (pc := 55) K 1 d_R_tell_55 rfl ?_
      refine x_dup2 (pc := 56) K d_R_tell_56 rfl rfl ?_
      refine x_iald (pc := 57) K (n := 294) (j := r) rfl (by omega) (zlt sh294) sh294 rfl (by decide) d_R_tell_57 ?_
      refine x_iconst (pc := 58) K (v := 1) d_R_tell_58 (by decide) ?_
      refine x_iadd (pc := 59) K d_R_tell_59 ?_
      refine x_iast (pc := 60) K (n := 294) (j := r) (x := ((wI M 278 16 ((M.1 278 16) + 1)).1 294 r) + 1) rfl (by omega) (zlt sh294) sh294 rfl (by decide) d_R_tell_60 ?_
      refine x_iload_n (pc := 61) K 1 d_R_tell_61 rfl ?_
      refine x_callS (pc := 62) K (As := [.int (nI r)]) (rest := []) (c_R_severity l w (wI (wI M 278 16 ((M.1 278 16) + 1)) 294 r (((wI M 278 16 ((M.1 278 16) + 1)).1 294 r) + 1)) (nI r)) (zcwS K.ts lk_R_140 sm_R_severity ii_R co_R_severity pd_R_severity ⟨rfl, rfl⟩ ⟨by decide, by decide⟩) rfl rfl (Nat.le_of_ble_eq_true rfl) ⟨Nat.zero_le _, Nat.zero_le _⟩ d_R_tell_62 ?_
      refine x_aload_n (pc := 65) K 0 d_R_tell_65 rfl ?_
      refine x_geti (pc := 66) K (n := 278) (k := 20) (zlt shR) shR rfl rfl (by decide) (fun _ q => zmem (uw_R _ q)) (zmem lk_R_143) d_R_tell_66 ?_
      refine x_icmp_le (pc := 69) K (tgt := 80) d_R_tell_69 (by decide) (fun c69 => ?_) (fun c69 => ?_)
      · skip
        have e1 : te1 M r t d = M := if_neg c8
        exact x_vret (pc := 80) K rfl (by unfold tel te3; rw [e1]; exact ((if_pos c47).trans (if_pos c69)).symm) d_R_tell_80
      · skip
        refine x_aload_n (pc := 72) K 0 d_R_tell_72 rfl ?_
        refine x_iload_n (pc := 73) K 1 d_R_tell_73 rfl ?_
        refine x_callS (pc := 74) K (As := [.int (nI r)]) (rest := [.ref (w.2.2 + 278)]) (c_R_severity l w (wI (wI M 278 16 ((M.1 278 16) + 1)) 294 r (((wI M 278 16 ((M.1 278 16) + 1)).1 294 r) + 1)) (nI r)) (zcwS K.ts lk_R_140 sm_R_severity ii_R co_R_severity pd_R_severity ⟨rfl, rfl⟩ ⟨by decide, by decide⟩) rfl rfl (Nat.le_of_ble_eq_true rfl) ⟨Nat.zero_le _, Nat.zero_le _⟩ d_R_tell_74 ?_
        refine x_puti (pc := 77) K (n := 278) (k := 20) (x := sev (nI r)) uY_R tk_R nm_R (zlt shR) shR rfl rfl (by decide) (fun _ q => zmem (uw_R _ q)) (zmem lk_R_143) rfl rfl rfl d_R_tell_77 ?_
        have e1 : te1 M r t d = M := if_neg c8
        exact x_vret (pc := 80) K rfl (by unfold tel te3; rw [e1]; exact ((if_pos c47).trans (if_neg c69)).symm) d_R_tell_80
    · skip
      have e1 : te1 M r t d = M := if_neg c8
      exact x_vret (pc := 50) K rfl (by unfold tel; rw [e1]; exact (if_neg c47).symm) d_R_tell_50
  · skip
    refine x_aload_n (pc := 11) K 0 d_R_tell_11 rfl ?_
    refine x_iload_n (pc := 12) K 1 d_R_tell_12 rfl ?_
    refine x_puti (pc := 13) K (n := 278) (k := 17) (x := nI r) uY_R tk_R nm_R (zlt shR) shR rfl rfl (by decide) (fun _ q => zmem (uw_R _ q)) (zmem lk_R_131) rfl rfl rfl d_R_tell_13 ?_
    refine x_aload_n (pc := 16) K 0 d_R_tell_16 rfl ?_
    refine x_iload_n (pc := 17) K 2 d_R_tell_17 rfl ?_
    refine x_puti (pc := 18) K (n := 278) (k := 18) (x := nI t) uY_R tk_R nm_R (zlt shR) shR rfl rfl (by decide) (fun _ q => zmem (uw_R _ q)) (zmem lk_R_134) rfl rfl rfl d_R_tell_18 ?_
    refine x_aload_n (pc := 21) K 0 d_R_tell_21 rfl ?_
    refine x_iload_n (pc := 22) K 3 d_R_tell_22 rfl ?_
    refine x_puti (pc := 23) K (n := 278) (k := 19) (x := d) uY_R tk_R nm_R (zlt shR) shR rfl rfl (by decide) (fun _ q => zmem (uw_R _ q)) (zmem lk_R_137) rfl rfl rfl d_R_tell_23 ?_
    refine x_aload_n (pc := 26) K 0 d_R_tell_26 rfl ?_
    refine x_dup (pc := 27) K d_R_tell_27 rfl ?_
    refine x_geti (pc := 28) K (n := 278) (k := 16) (zlt shR) shR rfl rfl (by decide) (fun _ q => zmem (uw_R _ q)) (zmem lk_R_124) d_R_tell_28 ?_
    refine x_iconst (pc := 31) K (v := 1) d_R_tell_31 (by decide) ?_
    refine x_iadd (pc := 32) K d_R_tell_32 ?_
    refine x_puti (pc := 33) K (n := 278) (k := 16) (x := ((wI (wI (wI M 278 17 (nI r)) 278 18 (nI t)) 278 19 d).1 278 16) + 1) uY_R tk_R nm_R (zlt shR) shR rfl rfl (by decide) (fun _ q => zmem (uw_R _ q)) (zmem lk_R_124) rfl rfl rfl d_R_tell_33 ?_
    refine x_aload_n (pc := 36) K 0 d_R_tell_36 rfl ?_
    refine x_getr (pc := 37) K (n := 278) (n' := 291) (k := 12) (zlt shR) shR rfl hR.r291 rfl (by decide) (fun _ q => zmem (uw_R _ q)) (zmem lk_R_47) d_R_tell_37 ?_
    refine x_bipush (pc := 40) K (v := nI 12) d_R_tell_40 (by decide) ?_
    refine x_iload_n (pc := 42) K 1 d_R_tell_42 rfl ?_
    refine x_imul (pc := 43) K d_R_tell_43 ?_
    refine x_eqi (y := nI (12 * r)) (pk_mul _ _) ?_
    refine x_iload_n (pc := 44) K 2 d_R_tell_44 rfl ?_
    refine x_iadd (pc := 45) K d_R_tell_45 ?_
    refine x_eqi (y := nI ((12 * r) + t)) (nI_add _ _) ?_
    refine x_zald (pc := 46) K (n := 291) (j := (12 * r) + t) rfl (by omega) (zlt sh291) sh291 rfl (by decide) d_R_tell_46 ?_
    refine x_if_eq (pc := 47) K (tgt := 51) d_R_tell_47 (by decide) (fun c47 => ?_) (fun c47 => ?_)
    · skip
      refine x_aload_n (pc := 51) K 0 d_R_tell_51 rfl ?_
      refine x_getr (pc := 52) K (n := 278) (n' := 294) (k := 21) (zlt shR) shR rfl hR.r294 rfl (by decide) (fun _ q => zmem (uw_R _ q)) (zmem lk_R_56) d_R_tell_52 ?_
      refine x_iload_n (pc := 55) K 1 d_R_tell_55 rfl ?_
      refine x_dup2 (pc := 56) K d_R_tell_56 rfl rfl ?_
      refine x_iald (pc := 57) K (n := 294) (j := r) rfl (by omega) (zlt sh294) sh294 rfl (by decide) d_R_tell_57 ?_
      refine x_iconst (pc := 58) K (v := 1) d_R_tell_58 (by decide) ?_
      refine x_iadd (pc := 59) K d_R_tell_59 ?_
      refine x_iast (pc := 60) K (n := 294) (j := r) (x := ((wI (wI (wI (wI M 278 17 (nI r)) 278 18 (nI t)) 278 19 d) 278 16 (((wI (wI (wI M 278 17 (nI r)) 278 18 (nI t)) 278 19 d).1 278 16) + 1)).1 294 r) + 1) rfl (by omega) (zlt sh294) sh294 rfl (by decide) d_R_tell_60 ?_
      refine x_iload_n (pc := 61) K 1 d_R_tell_61 rfl ?_
      refine x_callS (pc := 62) K (As := [.int (nI r)]) (rest := []) (c_R_severity l w (wI (wI (wI (wI (wI M 278 17 (nI r)) 278 18 (nI t)) 278 19 d) 278 16 (((wI (wI (wI M 278 17 (nI r)) 278 18 (nI t)) 278 19 d).1 278 16) + 1)) 294 r (((wI (wI (wI (wI M 278 17 (nI r)) 278 18 (nI t)) 278 19 d) 278 16 (((wI (wI (wI M 278 17 (nI r)) 278 18 (nI t)) 278 19 d).1 278 16) + 1)).1 294 r) + 1)) (nI r)) (zcwS K.ts lk_R_140 sm_R_severity ii_R co_R_severity pd_R_severity ⟨rfl, rfl⟩ ⟨by decide, by decide⟩) rfl rfl (Nat.le_of_ble_eq_true rfl) ⟨Nat.zero_le _, Nat.zero_le _⟩ d_R_tell_62 ?_
      refine x_aload_n (pc := 65) K 0 d_R_tell_65 rfl ?_
      refine x_geti (pc := 66) K (n := 278) (k := 20) (zlt shR) shR rfl rfl (by decide) (fun _ q => zmem (uw_R _ q)) (zmem lk_R_143) d_R_tell_66 ?_
      refine x_icmp_le (pc := 69) K (tgt := 80) d_R_tell_69 (by decide) (fun c69 => ?_) (fun c69 => ?_)
      · skip
        have e1 : te1 M r t d = wI (wI (wI M 278 17 (nI r)) 278 18 (nI t)) 278 19 d := if_pos c8
        exact x_vret (pc := 80) K rfl (by unfold tel te3; rw [e1]; exact ((if_pos c47).trans (if_pos c69)).symm) d_R_tell_80
      · skip
        refine x_aload_n (pc := 72) K 0 d_R_tell_72 rfl ?_
        refine x_iload_n (pc := 73) K 1 d_R_tell_73 rfl ?_
        refine x_callS (pc := 74) K (As := [.int (nI r)]) (rest := [.ref (w.2.2 + 278)]) (c_R_severity l w (wI (wI (wI (wI (wI M 278 17 (nI r)) 278 18 (nI t)) 278 19 d) 278 16 (((wI (wI (wI M 278 17 (nI r)) 278 18 (nI t)) 278 19 d).1 278 16) + 1)) 294 r (((wI (wI (wI (wI M 278 17 (nI r)) 278 18 (nI t)) 278 19 d) 278 16 (((wI (wI (wI M 278 17 (nI r)) 278 18 (nI t)) 278 19 d).1 278 16) + 1)).1 294 r) + 1)) (nI r)) (zcwS K.ts lk_R_140 sm_R_severity ii_R co_R_severity pd_R_severity ⟨rfl, rfl⟩ ⟨by decide, by decide⟩) rfl rfl (Nat.le_of_ble_eq_true rfl) ⟨Nat.zero_le _, Nat.zero_le _⟩ d_R_tell_74 ?_
        refine x_puti (pc := 77) K (n := 278) (k := 20) (x := sev (nI r)) uY_R tk_R nm_R (zlt shR) shR rfl rfl (by decide) (fun _ q => zmem (uw_R _ q)) (zmem lk_R_143) rfl rfl rfl d_R_tell_77 ?_
        have e1 : te1 M r t d = wI (wI (wI M 278 17 (nI r)) 278 18 (nI t)) 278 19 d := if_pos c8
        exact x_vret (pc := 80) K rfl (by unfold tel te3; rw [e1]; exact ((if_pos c47).trans (if_neg c69)).symm) d_R_tell_80
    · skip
      have e1 : te1 M r t d = wI (wI (wI M 278 17 (nI r)) 278 18 (nI t)) 278 19 d := if_pos c8
      exact x_vret (pc := 50) K rfl (by unfold tel; rw [e1]; exact (if_neg c47).symm) d_R_tell_50
def qBx (μ : Nat → Nat → Int32) (r t a : Nat) (n : Int32) : Prop :=
  if r = 6 then (μ 288 (ix n) &&& 3) < (μ 288 a &&& 3) else if r = 7 then ¬ (μ 288 a ^^^ μ 288 (ix n)) &&& 4 = 0 else if r = 8 then μ 286 a = 0 ∧ (¬ ¬ μ 288 a &&& 8 = 0) ∧ ¬ μ 288 (ix n) &&& 8 = 0 else if r = 9 then ¬ μ 289 a = 0 ∧ (μ 289 (ix n) = 0 ∨ ¬ μ 290 (ix n) = μ 290 a) else if r = 10 then μ 286 a = 1 ∧ (¬ ¬ μ 288 a &&& 16 = 0) ∧ ¬ μ 288 (ix n) &&& 16 = 0 else if r = 11 then μ 286 a = 1 ∧ (¬ ¬ μ 288 a &&& 12 = 0) ∧ (¬ ¬ μ 281 t &&& 4 = 0) ∧ ¬ μ 288 (ix n) &&& 8 = 0 else False
def qBr (μ : Nat → Nat → Int32) (r t a : Nat) (n : Int32) : Prop := if r = 5 then n < 0 else ¬ n < 0 ∧ qBx μ r t a n
set_option maxHeartbeats 4000000 in
set_option maxRecDepth 100000 in
theorem c_R_breaks5 (l : Launch) (w : fl_W) (M : fl_M) (o : Nat) (hR : zRf o M.2) (t a : Nat) (ht : t < 12) (ha : a < 192) (n : Int32) (hn : n < 0 ∨ inL 192 n)  : CT l y_R_breaks w_R_breaks rm_R_breaks w zN [.ref (w.2.2 + 278), .int (nI 5), .int (nI t), .int (nI a), .int n] M (some (.int (bI (n < 0)))) M := by
  refine CT.of (cc := b_R_breaks) (own := "CompatibilityJudgeModel") (by decide) rfl rfl (Nat.le_of_ble_eq_true rfl) ?_
  intro p9 e9 s9 m9 ag9 bl9 mt9 c9 K
  show XW p9 l e9 (rm_R_breaks) s9 m9 ag9 bl9 mt9 c9 7 0 0 (MQ bl9 (CQ w zN (some (.int (bI (n < 0)))) M) ag9 s9 0 0 (fun q : Nat => w.2.2 ≤ q)) w zN M 0 [(0, .ref (w.2.2 + 278)), (1, .int (nI 5)), (2, .int (nI t)), (3, .int (nI a)), (4, .int n)] []
  refine x_iload_n (pc := 0) K 1 d_R_breaks_0 rfl ?_
  refine x_iconst (pc := 1) K (v := nI 5) d_R_breaks_1 (by decide) ?_
  refine x_icmp_eq (pc := 2) K (tgt := 10) d_R_breaks_2 (by decide) (fun _ => ?_) (fun q => absurd q (by decide))
  refine x_iload_n (pc := 10) K 1 d_R_breaks_10 rfl ?_
  refine x_iconst (pc := 11) K (v := nI 5) d_R_breaks_11 (by decide) ?_
  refine x_icmp_ne (pc := 12) K (tgt := 24) d_R_breaks_12 (by decide) (fun q => absurd q (by decide)) (fun _ => ?_)
  refine x_iload (pc := 15) K 4 d_R_breaks_15 rfl ?_
  refine x_if_ge (pc := 17) K (tgt := 24) d_R_breaks_17 (by decide) (fun c17 => ?_) (fun c17 => ?_)
  · skip
    refine x_iconst (pc := 24) K (v := nI 0) d_R_breaks_24 (by decide) ?_
    exact x_zret (pc := 25) K (rF (Int32.not_lt.mpr c17)) rfl rfl d_R_breaks_25
  · skip
    refine x_iconst (pc := 20) K (v := nI 1) d_R_breaks_20 (by decide) ?_
    refine x_goto (pc := 21) K (tgt := 25) d_R_breaks_21 (by decide) ?_
    exact x_zret (pc := 25) K (rT (Int32.not_le.mp c17)) rfl rfl d_R_breaks_25
set_option maxHeartbeats 4000000 in
set_option maxRecDepth 100000 in
theorem c_R_breaks6 (l : Launch) (w : fl_W) (M : fl_M) (o : Nat) (hR : zRf o M.2) (t a : Nat) (ht : t < 12) (ha : a < 192) (n : Int32) (hn : n < 0 ∨ inL 192 n)  : CT l y_R_breaks w_R_breaks rm_R_breaks w zN [.ref (w.2.2 + 278), .int (nI 6), .int (nI t), .int (nI a), .int n] M (some (.int (bI (¬ n < 0 ∧ (M.1 288 (ix n) &&& 3) < (M.1 288 a &&& 3))))) M := by
  refine CT.of (cc := b_R_breaks) (own := "CompatibilityJudgeModel") (by decide) rfl rfl (Nat.le_of_ble_eq_true rfl) ?_
  intro p9 e9 s9 m9 ag9 bl9 mt9 c9 K
  show XW p9 l e9 (rm_R_breaks) s9 m9 ag9 bl9 mt9 c9 7 0 0 (MQ bl9 (CQ w zN (some (.int (bI (¬ n < 0 ∧ (M.1 288 (ix n) &&& 3) < (M.1 288 a &&& 3))))) M) ag9 s9 0 0 (fun q : Nat => w.2.2 ≤ q)) w zN M 0 [(0, .ref (w.2.2 + 278)), (1, .int (nI 6)), (2, .int (nI t)), (3, .int (nI a)), (4, .int n)] []
  refine x_iload_n (pc := 0) K 1 d_R_breaks_0 rfl ?_
  refine x_iconst (pc := 1) K (v := nI 5) d_R_breaks_1 (by decide) ?_
  refine x_icmp_eq (pc := 2) K (tgt := 10) d_R_breaks_2 (by decide) (fun q => absurd q (by decide)) (fun _ => ?_)
  refine x_iload (pc := 5) K 4 d_R_breaks_5 rfl ?_
  refine x_if_ge (pc := 7) K (tgt := 26) d_R_breaks_7 (by decide) (fun c7 => ?_) (fun c7 => ?_)
  · skip
    have hn0 : ¬ n < 0 := Int32.not_lt.mpr c7
    have hn9 := hn.resolve_left hn0
    have hn2 := hn9.2
    refine x_aload_n (pc := 26) K 0 d_R_breaks_26 rfl ?_
    refine x_getr (pc := 27) K (n := 278) (n' := 288) (k := 9) (zlt shR) shR rfl hR.r288 rfl (by decide) (fun _ q => zmem (uw_R _ q)) (zmem lk_R_38) d_R_breaks_27 ?_
    refine x_iload_n (pc := 30) K 3 d_R_breaks_30 rfl ?_
    refine x_iald (pc := 31) K (n := 288) (j := a) rfl (by omega) (zlt sh288) sh288 rfl (by decide) d_R_breaks_31 ?_
    refine x_istore (pc := 32) K (lv' := [(5, .int (M.1 288 a)), (0, .ref (w.2.2 + 278)), (1, .int (nI 6)), (2, .int (nI t)), (3, .int (nI a)), (4, .int n)]) d_R_breaks_32 (by decide) rfl ?_
    refine x_aload_n (pc := 34) K 1 d_R_breaks_34 rfl ?_
    refine x_getr (pc := 35) K (n := 278) (n' := 288) (k := 9) (zlt shR) shR rfl hR.r288 rfl (by decide) (fun _ q => zmem (uw_R _ q)) (zmem lk_R_38) d_R_breaks_35 ?_
    refine x_iload (pc := 38) K 5 d_R_breaks_38 rfl ?_
    refine x_iald (pc := 40) K (n := 288) (j := ix n) hn9.1 hn9.2 (zlt sh288) sh288 rfl (by decide) d_R_breaks_40 ?_
    refine x_istore (pc := 41) K (lv' := [(6, .int (M.1 288 (ix n))), (5, .int (M.1 288 a)), (0, .ref (w.2.2 + 278)), (1, .int (nI 6)), (2, .int (nI t)), (3, .int (nI a)), (4, .int n)]) d_R_breaks_41 (by decide) rfl ?_
    refine x_iload_n (pc := 43) K 3 d_R_breaks_43 rfl ?_
    refine x_tableIn (pc := 44) K (tgt := 80) d_R_breaks_44 (by decide) (by decide) (off := 36) (by decide) (by decide) ?_
    refine x_iload (pc := 80) K 0 d_R_breaks_80 rfl ?_
    refine x_iconst (pc := 82) K (v := 3) d_R_breaks_82 (by decide) ?_
    refine x_iand (pc := 83) K d_R_breaks_83 ?_
    refine x_iload (pc := 84) K 1 d_R_breaks_84 rfl ?_
    refine x_iconst (pc := 86) K (v := 3) d_R_breaks_86 (by decide) ?_
    refine x_iand (pc := 87) K d_R_breaks_87 ?_
    refine x_icmp_ge (pc := 88) K (tgt := 95) d_R_breaks_88 (by decide) (fun c88 => ?_) (fun c88 => ?_)
    · skip
      refine x_iconst (pc := 95) K (v := 0) d_R_breaks_95 (by decide) ?_
      exact x_zret (pc := 96) K (rF (by clear hn9 hn hn2; first | (simp_all; done) | grind)) rfl rfl d_R_breaks_96
    · skip
      refine x_iconst (pc := 91) K (v := 1) d_R_breaks_91 (by decide) ?_
      refine x_goto (pc := 92) K (tgt := 96) d_R_breaks_92 (by decide) ?_
      exact x_zret (pc := 96) K (rT (by clear hn9 hn hn2; first | (simp_all; done) | grind)) rfl rfl d_R_breaks_96
  · skip
    have hn0 : ¬ ¬ n < 0 := fun z => c7 (Int32.not_lt.mp z)
    refine x_iload_n (pc := 10) K 1 d_R_breaks_10 rfl ?_
    refine x_iconst (pc := 11) K (v := nI 5) d_R_breaks_11 (by decide) ?_
    refine x_icmp_ne (pc := 12) K (tgt := 24) d_R_breaks_12 (by decide) (fun _ => ?_) (fun q => absurd q (by decide))
    refine x_iconst (pc := 24) K (v := nI 0) d_R_breaks_24 (by decide) ?_
    exact x_zret (pc := 25) K (rF (fun z => hn0 z.1)) rfl rfl d_R_breaks_25
set_option maxHeartbeats 4000000 in
set_option maxRecDepth 100000 in
theorem c_R_breaks7 (l : Launch) (w : fl_W) (M : fl_M) (o : Nat) (hR : zRf o M.2) (t a : Nat) (ht : t < 12) (ha : a < 192) (n : Int32) (hn : n < 0 ∨ inL 192 n)  : CT l y_R_breaks w_R_breaks rm_R_breaks w zN [.ref (w.2.2 + 278), .int (nI 7), .int (nI t), .int (nI a), .int n] M (some (.int (bI (¬ n < 0 ∧ ¬ (M.1 288 a ^^^ M.1 288 (ix n)) &&& 4 = 0)))) M := by
  refine CT.of (cc := b_R_breaks) (own := "CompatibilityJudgeModel") (by decide) rfl rfl (Nat.le_of_ble_eq_true rfl) ?_
  intro p9 e9 s9 m9 ag9 bl9 mt9 c9 K
  show XW p9 l e9 (rm_R_breaks) s9 m9 ag9 bl9 mt9 c9 7 0 0 (MQ bl9 (CQ w zN (some (.int (bI (¬ n < 0 ∧ ¬ (M.1 288 a ^^^ M.1 288 (ix n)) &&& 4 = 0)))) M) ag9 s9 0 0 (fun q : Nat => w.2.2 ≤ q)) w zN M 0 [(0, .ref (w.2.2 + 278)), (1, .int (nI 7)), (2, .int (nI t)), (3, .int (nI a)), (4, .int n)] []
  refine x_iload_n (pc := 0) K 1 d_R_breaks_0 rfl ?_
  refine x_iconst (pc := 1) K (v := nI 5) d_R_breaks_1 (by decide) ?_
  refine x_icmp_eq (pc := 2) K (tgt := 10) d_R_breaks_2 (by decide) (fun q => absurd q (by decide)) (fun _ => ?_)
  refine x_iload (pc := 5) K 4 d_R_breaks_5 rfl ?_
  refine x_if_ge (pc := 7) K (tgt := 26) d_R_breaks_7 (by decide) (fun c7 => ?_) (fun c7 => ?_)
  · skip
    have hn0 : ¬ n < 0 := Int32.not_lt.mpr c7
    have hn9 := hn.resolve_left hn0
    have hn2 := hn9.2
    refine x_aload_n (pc := 26) K 0 d_R_breaks_26 rfl ?_
    refine x_getr (pc := 27) K (n := 278) (n' := 288) (k := 9) (zlt shR) shR rfl hR.r288 rfl (by decide) (fun _ q => zmem (uw_R _ q)) (zmem lk_R_38) d_R_breaks_27 ?_
    refine x_iload_n (pc := 30) K 3 d_R_breaks_30 rfl ?_
    refine x_iald (pc := 31) K (n := 288) (j := a) rfl (by omega) (zlt sh288) sh288 rfl (by decide) d_R_breaks_31 ?_
    refine x_istore (pc := 32) K (lv' := [(5, .int (M.1 288 a)), (0, .ref (w.2.2 + 278)), (1, .int (nI 7)), (2, .int (nI t)), (3, .int (nI a)), (4, .int n)]) d_R_breaks_32 (by decide) rfl ?_
    refine x_aload_n (pc := 34) K 1 d_R_breaks_34 rfl ?_
    refine x_getr (pc := 35) K (n := 278) (n' := 288) (k := 9) (zlt shR) shR rfl hR.r288 rfl (by decide) (fun _ q => zmem (uw_R _ q)) (zmem lk_R_38) d_R_breaks_35 ?_
    refine x_iload (pc := 38) K 5 d_R_breaks_38 rfl ?_
    refine x_iald (pc := 40) K (n := 288) (j := ix n) hn9.1 hn9.2 (zlt sh288) sh288 rfl (by decide) d_R_breaks_40 ?_
    refine x_istore (pc := 41) K (lv' := [(6, .int (M.1 288 (ix n))), (5, .int (M.1 288 a)), (0, .ref (w.2.2 + 278)), (1, .int (nI 7)), (2, .int (nI t)), (3, .int (nI a)), (4, .int n)]) d_R_breaks_41 (by decide) rfl ?_
    refine x_iload_n (pc := 43) K 3 d_R_breaks_43 rfl ?_
    refine x_tableIn (pc := 44) K (tgt := 97) d_R_breaks_44 (by decide) (by decide) (off := 53) (by decide) (by decide) ?_
    refine x_iload (pc := 97) K 1 d_R_breaks_97 rfl ?_
    refine x_iload (pc := 99) K 0 d_R_breaks_99 rfl ?_
    refine x_ixor (pc := 101) K d_R_breaks_101 ?_
    refine x_iconst (pc := 102) K (v := 4) d_R_breaks_102 (by decide) ?_
    refine x_iand (pc := 103) K d_R_breaks_103 ?_
    refine x_if_eq (pc := 104) K (tgt := 111) d_R_breaks_104 (by decide) (fun c104 => ?_) (fun c104 => ?_)
    · skip
      refine x_iconst (pc := 111) K (v := 0) d_R_breaks_111 (by decide) ?_
      exact x_zret (pc := 112) K (rF (by clear hn9 hn hn2; first | (simp_all; done) | grind)) rfl rfl d_R_breaks_112
    · skip
      refine x_iconst (pc := 107) K (v := 1) d_R_breaks_107 (by decide) ?_
      refine x_goto (pc := 108) K (tgt := 112) d_R_breaks_108 (by decide) ?_
      exact x_zret (pc := 112) K (rT (by clear hn9 hn hn2; first | (simp_all; done) | grind)) rfl rfl d_R_breaks_112
  · skip
    have hn0 : ¬ ¬ n < 0 := fun z => c7 (Int32.not_lt.mp z)
    refine x_iload_n (pc := 10) K 1 d_R_breaks_10 rfl ?_
    refine x_iconst (pc := 11) K (v := nI 5) d_R_breaks_11 (by decide) ?_
    refine x_icmp_ne (pc := 12) K (tgt := 24) d_R_breaks_12 (by decide) (fun _ => ?_) (fun q => absurd q (by decide))
    refine x_iconst (pc := 24) K (v := nI 0) d_R_breaks_24 (by decide) ?_
    exact x_zret (pc := 25) K (rF (fun z => hn0 z.1)) rfl rfl d_R_breaks_25
set_option maxHeartbeats 4000000 in
set_option maxRecDepth 100000 in
theorem c_R_breaks8 (l : Launch) (w : fl_W) (M : fl_M) (o : Nat) (hR : zRf o M.2) (t a : Nat) (ht : t < 12) (ha : a < 192) (n : Int32) (hn : n < 0 ∨ inL 192 n)  : CT l y_R_breaks w_R_breaks rm_R_breaks w zN [.ref (w.2.2 + 278), .int (nI 8), .int (nI t), .int (nI a), .int n] M (some (.int (bI (¬ n < 0 ∧ M.1 286 a = 0 ∧ (¬ ¬ M.1 288 a &&& 8 = 0) ∧ ¬ M.1 288 (ix n) &&& 8 = 0)))) M := by
  refine CT.of (cc := b_R_breaks) (own := "CompatibilityJudgeModel") (by decide) rfl rfl (Nat.le_of_ble_eq_true rfl) ?_
  intro p9 e9 s9 m9 ag9 bl9 mt9 c9 K
  show XW p9 l e9 (rm_R_breaks) s9 m9 ag9 bl9 mt9 c9 7 0 0 (MQ bl9 (CQ w zN (some (.int (bI (¬ n < 0 ∧ M.1 286 a = 0 ∧ (¬ ¬ M.1 288 a &&& 8 = 0) ∧ ¬ M.1 288 (ix n) &&& 8 = 0)))) M) ag9 s9 0 0 (fun q : Nat => w.2.2 ≤ q)) w zN M 0 [(0, .ref (w.2.2 + 278)), (1, .int (nI 8)), (2, .int (nI t)), (3, .int (nI a)), (4, .int n)] []
  refine x_iload_n (pc := 0) K 1 d_R_breaks_0 rfl ?_
  refine x_iconst (pc := 1) K (v := nI 5) d_R_breaks_1 (by decide) ?_
  refine x_icmp_eq (pc := 2) K (tgt := 10) d_R_breaks_2 (by decide) (fun q => absurd q (by decide)) (fun _ => ?_)
  refine x_iload (pc := 5) K 4 d_R_breaks_5 rfl ?_
  refine x_if_ge (pc := 7) K (tgt := 26) d_R_breaks_7 (by decide) (fun c7 => ?_) (fun c7 => ?_)
  · skip
    have hn0 : ¬ n < 0 := Int32.not_lt.mpr c7
    have hn9 := hn.resolve_left hn0
    have hn2 := hn9.2
    refine x_aload_n (pc := 26) K 0 d_R_breaks_26 rfl ?_
    refine x_getr (pc := 27) K (n := 278) (n' := 288) (k := 9) (zlt shR) shR rfl hR.r288 rfl (by decide) (fun _ q => zmem (uw_R _ q)) (zmem lk_R_38) d_R_breaks_27 ?_
    refine x_iload_n (pc := 30) K 3 d_R_breaks_30 rfl ?_
    refine x_iald (pc := 31) K (n := 288) (j := a) rfl (by omega) (zlt sh288) sh288 rfl (by decide) d_R_breaks_31 ?_
    refine x_istore (pc := 32) K (lv' := [(5, .int (M.1 288 a)), (0, .ref (w.2.2 + 278)), (1, .int (nI 8)), (2, .int (nI t)), (3, .int (nI a)), (4, .int n)]) d_R_breaks_32 (by decide) rfl ?_
    refine x_aload_n (pc := 34) K 1 d_R_breaks_34 rfl ?_
    refine x_getr (pc := 35) K (n := 278) (n' := 288) (k := 9) (zlt shR) shR rfl hR.r288 rfl (by decide) (fun _ q => zmem (uw_R _ q)) (zmem lk_R_38) d_R_breaks_35 ?_
    refine x_iload (pc := 38) K 5 d_R_breaks_38 rfl ?_
    refine x_iald (pc := 40) K (n := 288) (j := ix n) hn9.1 hn9.2 (zlt sh288) sh288 rfl (by decide) d_R_breaks_40 ?_
    refine x_istore (pc := 41) K (lv' := [(6, .int (M.1 288 (ix n))), (5, .int (M.1 288 a)), (0, .ref (w.2.2 + 278)), (1, .int (nI 8)), (2, .int (nI t)), (3, .int (nI a)), (4, .int n)]) d_R_breaks_41 (by decide) rfl ?_
    refine x_iload_n (pc := 43) K 3 d_R_breaks_43 rfl ?_
    refine x_tableIn (pc := 44) K (tgt := 113) d_R_breaks_44 (by decide) (by decide) (off := 69) (by decide) (by decide) ?_
    refine x_aload_n (pc := 113) K 2 d_R_breaks_113 rfl ?_
    refine x_getr (pc := 114) K (n := 278) (n' := 286) (k := 7) (zlt shR) shR rfl hR.r286 rfl (by decide) (fun _ q => zmem (uw_R _ q)) (zmem lk_R_32) d_R_breaks_114 ?_
    refine x_iload_n (pc := 117) K 5 d_R_breaks_117 rfl ?_
    refine x_iald (pc := 118) K (n := 286) (j := a) rfl (by omega) (zlt sh286) sh286 rfl (by decide) d_R_breaks_118 ?_
    refine x_if_ne (pc := 119) K (tgt := 146) d_R_breaks_119 (by decide) (fun c119 => ?_) (fun c119 => ?_)
    · skip
      refine x_iconst (pc := 146) K (v := 0) d_R_breaks_146 (by decide) ?_
      exact x_zret (pc := 147) K (rF (by clear hn9 hn hn2; first | (simp_all; done) | grind)) rfl rfl d_R_breaks_147
    · skip
      refine x_iload (pc := 122) K 1 d_R_breaks_122 rfl ?_
      refine x_bipush (pc := 124) K (v := 8) d_R_breaks_124 (by decide) ?_
      refine x_callS (pc := 126) K (As := [.int (M.1 288 a), .int 8]) (rest := []) (c_R_has l w M (M.1 288 a) 8) (zcwS K.ts lk_R_66 sm_R_has ii_R co_R_has pd_R_has ⟨rfl, rfl⟩ ⟨by decide, by decide⟩) rfl rfl (Nat.le_of_ble_eq_true rfl) ⟨Nat.zero_le _, Nat.zero_le _⟩ d_R_breaks_126 ?_
      refine x_ifneB (pc := 129) K (tgt := 146) d_R_breaks_129 (by decide) (fun c129 => ?_) (fun c129 => ?_)
      · skip
        refine x_iconst (pc := 146) K (v := 0) d_R_breaks_146 (by decide) ?_
        exact x_zret (pc := 147) K (rF (by clear hn9 hn hn2; first | (simp_all; done) | grind)) rfl rfl d_R_breaks_147
      · skip
        refine x_iload (pc := 132) K 0 d_R_breaks_132 rfl ?_
        refine x_bipush (pc := 134) K (v := 8) d_R_breaks_134 (by decide) ?_
        refine x_callS (pc := 136) K (As := [.int (M.1 288 (ix n)), .int 8]) (rest := []) (c_R_has l w M (M.1 288 (ix n)) 8) (zcwS K.ts lk_R_66 sm_R_has ii_R co_R_has pd_R_has ⟨rfl, rfl⟩ ⟨by decide, by decide⟩) rfl rfl (Nat.le_of_ble_eq_true rfl) ⟨Nat.zero_le _, Nat.zero_le _⟩ d_R_breaks_136 ?_
        refine x_ifeqB (pc := 139) K (tgt := 146) d_R_breaks_139 (by decide) (fun c139 => ?_) (fun c139 => ?_)
        · skip
          refine x_iconst (pc := 146) K (v := 0) d_R_breaks_146 (by decide) ?_
          exact x_zret (pc := 147) K (rF (by clear hn9 hn hn2; first | (simp_all; done) | grind)) rfl rfl d_R_breaks_147
        · skip
          refine x_iconst (pc := 142) K (v := 1) d_R_breaks_142 (by decide) ?_
          refine x_goto (pc := 143) K (tgt := 147) d_R_breaks_143 (by decide) ?_
          exact x_zret (pc := 147) K (rT (by clear hn9 hn hn2; first | (simp_all; done) | grind)) rfl rfl d_R_breaks_147
  · skip
    have hn0 : ¬ ¬ n < 0 := fun z => c7 (Int32.not_lt.mp z)
    refine x_iload_n (pc := 10) K 1 d_R_breaks_10 rfl ?_
    refine x_iconst (pc := 11) K (v := nI 5) d_R_breaks_11 (by decide) ?_
    refine x_icmp_ne (pc := 12) K (tgt := 24) d_R_breaks_12 (by decide) (fun _ => ?_) (fun q => absurd q (by decide))
    refine x_iconst (pc := 24) K (v := nI 0) d_R_breaks_24 (by decide) ?_
    exact x_zret (pc := 25) K (rF (fun z => hn0 z.1)) rfl rfl d_R_breaks_25
set_option maxHeartbeats 4000000 in
set_option maxRecDepth 100000 in
theorem c_R_breaks9 (l : Launch) (w : fl_W) (M : fl_M) (o : Nat) (hR : zRf o M.2) (t a : Nat) (ht : t < 12) (ha : a < 192) (n : Int32) (hn : n < 0 ∨ inL 192 n)  : CT l y_R_breaks w_R_breaks rm_R_breaks w zN [.ref (w.2.2 + 278), .int (nI 9), .int (nI t), .int (nI a), .int n] M (some (.int (bI (¬ n < 0 ∧ ¬ M.1 289 a = 0 ∧ (M.1 289 (ix n) = 0 ∨ ¬ M.1 290 (ix n) = M.1 290 a))))) M := by
  refine CT.of (cc := b_R_breaks) (own := "CompatibilityJudgeModel") (by decide) rfl rfl (Nat.le_of_ble_eq_true rfl) ?_
  intro p9 e9 s9 m9 ag9 bl9 mt9 c9 K
  show XW p9 l e9 (rm_R_breaks) s9 m9 ag9 bl9 mt9 c9 7 0 0 (MQ bl9 (CQ w zN (some (.int (bI (¬ n < 0 ∧ ¬ M.1 289 a = 0 ∧ (M.1 289 (ix n) = 0 ∨ ¬ M.1 290 (ix n) = M.1 290 a))))) M) ag9 s9 0 0 (fun q : Nat => w.2.2 ≤ q)) w zN M 0 [(0, .ref (w.2.2 + 278)), (1, .int (nI 9)), (2, .int (nI t)), (3, .int (nI a)), (4, .int n)] []
  refine x_iload_n (pc := 0) K 1 d_R_breaks_0 rfl ?_
  refine x_iconst (pc := 1) K (v := nI 5) d_R_breaks_1 (by decide) ?_
  refine x_icmp_eq (pc := 2) K (tgt := 10) d_R_breaks_2 (by decide) (fun q => absurd q (by decide)) (fun _ => ?_)
  refine x_iload (pc := 5) K 4 d_R_breaks_5 rfl ?_
  refine x_if_ge (pc := 7) K (tgt := 26) d_R_breaks_7 (by decide) (fun c7 => ?_) (fun c7 => ?_)
  · skip
    have hn0 : ¬ n < 0 := Int32.not_lt.mpr c7
    have hn9 := hn.resolve_left hn0
    have hn2 := hn9.2
    refine x_aload_n (pc := 26) K 0 d_R_breaks_26 rfl ?_
    refine x_getr (pc := 27) K (n := 278) (n' := 288) (k := 9) (zlt shR) shR rfl hR.r288 rfl (by decide) (fun _ q => zmem (uw_R _ q)) (zmem lk_R_38) d_R_breaks_27 ?_
    refine x_iload_n (pc := 30) K 3 d_R_breaks_30 rfl ?_
    refine x_iald (pc := 31) K (n := 288) (j := a) rfl (by omega) (zlt sh288) sh288 rfl (by decide) d_R_breaks_31 ?_
    refine x_istore (pc := 32) K (lv' := [(5, .int (M.1 288 a)), (0, .ref (w.2.2 + 278)), (1, .int (nI 9)), (2, .int (nI t)), (3, .int (nI a)), (4, .int n)]) d_R_breaks_32 (by decide) rfl ?_
    refine x_aload_n (pc := 34) K 1 d_R_breaks_34 rfl ?_
    refine x_getr (pc := 35) K (n := 278) (n' := 288) (k := 9) (zlt shR) shR rfl hR.r288 rfl (by decide) (fun _ q => zmem (uw_R _ q)) (zmem lk_R_38) d_R_breaks_35 ?_
    refine x_iload (pc := 38) K 5 d_R_breaks_38 rfl ?_
    refine x_iald (pc := 40) K (n := 288) (j := ix n) hn9.1 hn9.2 (zlt sh288) sh288 rfl (by decide) d_R_breaks_40 ?_
    refine x_istore (pc := 41) K (lv' := [(6, .int (M.1 288 (ix n))), (5, .int (M.1 288 a)), (0, .ref (w.2.2 + 278)), (1, .int (nI 9)), (2, .int (nI t)), (3, .int (nI a)), (4, .int n)]) d_R_breaks_41 (by decide) rfl ?_
    refine x_iload_n (pc := 43) K 3 d_R_breaks_43 rfl ?_
    refine x_tableIn (pc := 44) K (tgt := 148) d_R_breaks_44 (by decide) (by decide) (off := 104) (by decide) (by decide) ?_
    refine x_aload_n (pc := 148) K 2 d_R_breaks_148 rfl ?_
    refine x_getr (pc := 149) K (n := 278) (n' := 289) (k := 10) (zlt shR) shR rfl hR.r289 rfl (by decide) (fun _ q => zmem (uw_R _ q)) (zmem lk_R_41) d_R_breaks_149 ?_
    refine x_iload_n (pc := 152) K 5 d_R_breaks_152 rfl ?_
    refine x_zald (pc := 153) K (n := 289) (j := a) rfl (by omega) (zlt sh289) sh289 rfl (by decide) d_R_breaks_153 ?_
    refine x_if_eq (pc := 154) K (tgt := 187) d_R_breaks_154 (by decide) (fun c154 => ?_) (fun c154 => ?_)
    · skip
      refine x_iconst (pc := 187) K (v := 0) d_R_breaks_187 (by decide) ?_
      exact x_zret (pc := 188) K (rF (by clear hn9 hn hn2; first | (simp_all; done) | grind)) rfl rfl d_R_breaks_188
    · skip
      refine x_aload_n (pc := 157) K 2 d_R_breaks_157 rfl ?_
      refine x_getr (pc := 158) K (n := 278) (n' := 289) (k := 10) (zlt shR) shR rfl hR.r289 rfl (by decide) (fun _ q => zmem (uw_R _ q)) (zmem lk_R_41) d_R_breaks_158 ?_
      refine x_iload (pc := 161) K 6 d_R_breaks_161 rfl ?_
      refine x_zald (pc := 163) K (n := 289) (j := ix n) hn9.1 hn9.2 (zlt sh289) sh289 rfl (by decide) d_R_breaks_163 ?_
      refine x_if_eq (pc := 164) K (tgt := 183) d_R_breaks_164 (by decide) (fun c164 => ?_) (fun c164 => ?_)
      · skip
        refine x_iconst (pc := 183) K (v := 1) d_R_breaks_183 (by decide) ?_
        refine x_goto (pc := 184) K (tgt := 188) d_R_breaks_184 (by decide) ?_
        exact x_zret (pc := 188) K (rT (by clear hn9 hn hn2; first | (simp_all; done) | grind)) rfl rfl d_R_breaks_188
      · skip
        refine x_aload_n (pc := 167) K 2 d_R_breaks_167 rfl ?_
        refine x_getr (pc := 168) K (n := 278) (n' := 290) (k := 11) (zlt shR) shR rfl hR.r290 rfl (by decide) (fun _ q => zmem (uw_R _ q)) (zmem lk_R_44) d_R_breaks_168 ?_
        refine x_iload (pc := 171) K 6 d_R_breaks_171 rfl ?_
        refine x_iald (pc := 173) K (n := 290) (j := ix n) hn9.1 hn9.2 (zlt sh290) sh290 rfl (by decide) d_R_breaks_173 ?_
        refine x_aload_n (pc := 174) K 2 d_R_breaks_174 rfl ?_
        refine x_getr (pc := 175) K (n := 278) (n' := 290) (k := 11) (zlt shR) shR rfl hR.r290 rfl (by decide) (fun _ q => zmem (uw_R _ q)) (zmem lk_R_44) d_R_breaks_175 ?_
        refine x_iload_n (pc := 178) K 5 d_R_breaks_178 rfl ?_
        refine x_iald (pc := 179) K (n := 290) (j := a) rfl (by omega) (zlt sh290) sh290 rfl (by decide) d_R_breaks_179 ?_
        refine x_icmp_eq (pc := 180) K (tgt := 187) d_R_breaks_180 (by decide) (fun c180 => ?_) (fun c180 => ?_)
        · skip
          refine x_iconst (pc := 187) K (v := 0) d_R_breaks_187 (by decide) ?_
          exact x_zret (pc := 188) K (rF (by clear hn9 hn hn2; first | (simp_all; done) | grind)) rfl rfl d_R_breaks_188
        · skip
          refine x_iconst (pc := 183) K (v := 1) d_R_breaks_183 (by decide) ?_
          refine x_goto (pc := 184) K (tgt := 188) d_R_breaks_184 (by decide) ?_
          exact x_zret (pc := 188) K (rT (by clear hn9 hn hn2; first | (simp_all; done) | grind)) rfl rfl d_R_breaks_188
  · skip
    have hn0 : ¬ ¬ n < 0 := fun z => c7 (Int32.not_lt.mp z)
    refine x_iload_n (pc := 10) K 1 d_R_breaks_10 rfl ?_
    refine x_iconst (pc := 11) K (v := nI 5) d_R_breaks_11 (by decide) ?_
    refine x_icmp_ne (pc := 12) K (tgt := 24) d_R_breaks_12 (by decide) (fun _ => ?_) (fun q => absurd q (by decide))
    refine x_iconst (pc := 24) K (v := nI 0) d_R_breaks_24 (by decide) ?_
    exact x_zret (pc := 25) K (rF (fun z => hn0 z.1)) rfl rfl d_R_breaks_25
set_option maxHeartbeats 4000000 in
set_option maxRecDepth 100000 in
theorem c_R_breaks10 (l : Launch) (w : fl_W) (M : fl_M) (o : Nat) (hR : zRf o M.2) (t a : Nat) (ht : t < 12) (ha : a < 192) (n : Int32) (hn : n < 0 ∨ inL 192 n)  : CT l y_R_breaks w_R_breaks rm_R_breaks w zN [.ref (w.2.2 + 278), .int (nI 10), .int (nI t), .int (nI a), .int n] M (some (.int (bI (¬ n < 0 ∧ M.1 286 a = 1 ∧ (¬ ¬ M.1 288 a &&& 16 = 0) ∧ ¬ M.1 288 (ix n) &&& 16 = 0)))) M := by
  refine CT.of (cc := b_R_breaks) (own := "CompatibilityJudgeModel") (by decide) rfl rfl (Nat.le_of_ble_eq_true rfl) ?_
  intro p9 e9 s9 m9 ag9 bl9 mt9 c9 K
  show XW p9 l e9 (rm_R_breaks) s9 m9 ag9 bl9 mt9 c9 7 0 0 (MQ bl9 (CQ w zN (some (.int (bI (¬ n < 0 ∧ M.1 286 a = 1 ∧ (¬ ¬ M.1 288 a &&& 16 = 0) ∧ ¬ M.1 288 (ix n) &&& 16 = 0)))) M) ag9 s9 0 0 (fun q : Nat => w.2.2 ≤ q)) w zN M 0 [(0, .ref (w.2.2 + 278)), (1, .int (nI 10)), (2, .int (nI t)), (3, .int (nI a)), (4, .int n)] []
  refine x_iload_n (pc := 0) K 1 d_R_breaks_0 rfl ?_
  refine x_iconst (pc := 1) K (v := nI 5) d_R_breaks_1 (by decide) ?_
  refine x_icmp_eq (pc := 2) K (tgt := 10) d_R_breaks_2 (by decide) (fun q => absurd q (by decide)) (fun _ => ?_)
  refine x_iload (pc := 5) K 4 d_R_breaks_5 rfl ?_
  refine x_if_ge (pc := 7) K (tgt := 26) d_R_breaks_7 (by decide) (fun c7 => ?_) (fun c7 => ?_)
  · skip
    have hn0 : ¬ n < 0 := Int32.not_lt.mpr c7
    have hn9 := hn.resolve_left hn0
    have hn2 := hn9.2
    refine x_aload_n (pc := 26) K 0 d_R_breaks_26 rfl ?_
    refine x_getr (pc := 27) K (n := 278) (n' := 288) (k := 9) (zlt shR) shR rfl hR.r288 rfl (by decide) (fun _ q => zmem (uw_R _ q)) (zmem lk_R_38) d_R_breaks_27 ?_
    refine x_iload_n (pc := 30) K 3 d_R_breaks_30 rfl ?_
    refine x_iald (pc := 31) K (n := 288) (j := a) rfl (by omega) (zlt sh288) sh288 rfl (by decide) d_R_breaks_31 ?_
    refine x_istore (pc := 32) K (lv' := [(5, .int (M.1 288 a)), (0, .ref (w.2.2 + 278)), (1, .int (nI 10)), (2, .int (nI t)), (3, .int (nI a)), (4, .int n)]) d_R_breaks_32 (by decide) rfl ?_
    refine x_aload_n (pc := 34) K 1 d_R_breaks_34 rfl ?_
    refine x_getr (pc := 35) K (n := 278) (n' := 288) (k := 9) (zlt shR) shR rfl hR.r288 rfl (by decide) (fun _ q => zmem (uw_R _ q)) (zmem lk_R_38) d_R_breaks_35 ?_
    refine x_iload (pc := 38) K 5 d_R_breaks_38 rfl ?_
    refine x_iald (pc := 40) K (n := 288) (j := ix n) hn9.1 hn9.2 (zlt sh288) sh288 rfl (by decide) d_R_breaks_40 ?_
    refine x_istore (pc := 41) K (lv' := [(6, .int (M.1 288 (ix n))), (5, .int (M.1 288 a)), (0, .ref (w.2.2 + 278)), (1, .int (nI 10)), (2, .int (nI t)), (3, .int (nI a)), (4, .int n)]) d_R_breaks_41 (by decide) rfl ?_
    refine x_iload_n (pc := 43) K 3 d_R_breaks_43 rfl ?_
    refine x_tableIn (pc := 44) K (tgt := 189) d_R_breaks_44 (by decide) (by decide) (off := 145) (by decide) (by decide) ?_
    refine x_aload_n (pc := 189) K 2 d_R_breaks_189 rfl ?_
    refine x_getr (pc := 190) K (n := 278) (n' := 286) (k := 7) (zlt shR) shR rfl hR.r286 rfl (by decide) (fun _ q => zmem (uw_R _ q)) (zmem lk_R_32) d_R_breaks_190 ?_
    refine x_iload_n (pc := 193) K 5 d_R_breaks_193 rfl ?_
    refine x_iald (pc := 194) K (n := 286) (j := a) rfl (by omega) (zlt sh286) sh286 rfl (by decide) d_R_breaks_194 ?_
    refine x_iconst (pc := 195) K (v := 1) d_R_breaks_195 (by decide) ?_
    refine x_icmp_ne (pc := 196) K (tgt := 223) d_R_breaks_196 (by decide) (fun c196 => ?_) (fun c196 => ?_)
    · skip
      refine x_iconst (pc := 223) K (v := 0) d_R_breaks_223 (by decide) ?_
      exact x_zret (pc := 224) K (rF (by clear hn9 hn hn2; first | (simp_all; done) | grind)) rfl rfl d_R_breaks_224
    · skip
      refine x_iload (pc := 199) K 1 d_R_breaks_199 rfl ?_
      refine x_bipush (pc := 201) K (v := 16) d_R_breaks_201 (by decide) ?_
      refine x_callS (pc := 203) K (As := [.int (M.1 288 a), .int 16]) (rest := []) (c_R_has l w M (M.1 288 a) 16) (zcwS K.ts lk_R_66 sm_R_has ii_R co_R_has pd_R_has ⟨rfl, rfl⟩ ⟨by decide, by decide⟩) rfl rfl (Nat.le_of_ble_eq_true rfl) ⟨Nat.zero_le _, Nat.zero_le _⟩ d_R_breaks_203 ?_
      refine x_ifneB (pc := 206) K (tgt := 223) d_R_breaks_206 (by decide) (fun c206 => ?_) (fun c206 => ?_)
      · skip
        refine x_iconst (pc := 223) K (v := 0) d_R_breaks_223 (by decide) ?_
        exact x_zret (pc := 224) K (rF (by clear hn9 hn hn2; first | (simp_all; done) | grind)) rfl rfl d_R_breaks_224
      · skip
        refine x_iload (pc := 209) K 0 d_R_breaks_209 rfl ?_
        refine x_bipush (pc := 211) K (v := 16) d_R_breaks_211 (by decide) ?_
        refine x_callS (pc := 213) K (As := [.int (M.1 288 (ix n)), .int 16]) (rest := []) (c_R_has l w M (M.1 288 (ix n)) 16) (zcwS K.ts lk_R_66 sm_R_has ii_R co_R_has pd_R_has ⟨rfl, rfl⟩ ⟨by decide, by decide⟩) rfl rfl (Nat.le_of_ble_eq_true rfl) ⟨Nat.zero_le _, Nat.zero_le _⟩ d_R_breaks_213 ?_
        refine x_ifeqB (pc := 216) K (tgt := 223) d_R_breaks_216 (by decide) (fun c216 => ?_) (fun c216 => ?_)
        · skip
          refine x_iconst (pc := 223) K (v := 0) d_R_breaks_223 (by decide) ?_
          exact x_zret (pc := 224) K (rF (by clear hn9 hn hn2; first | (simp_all; done) | grind)) rfl rfl d_R_breaks_224
        · skip
          refine x_iconst (pc := 219) K (v := 1) d_R_breaks_219 (by decide) ?_
          refine x_goto (pc := 220) K (tgt := 224) d_R_breaks_220 (by decide) ?_
          exact x_zret (pc := 224) K (rT (by clear hn9 hn hn2; first | (simp_all; done) | grind)) rfl rfl d_R_breaks_224
  · skip
    have hn0 : ¬ ¬ n < 0 := fun z => c7 (Int32.not_lt.mp z)
    refine x_iload_n (pc := 10) K 1 d_R_breaks_10 rfl ?_
    refine x_iconst (pc := 11) K (v := nI 5) d_R_breaks_11 (by decide) ?_
    refine x_icmp_ne (pc := 12) K (tgt := 24) d_R_breaks_12 (by decide) (fun _ => ?_) (fun q => absurd q (by decide))
    refine x_iconst (pc := 24) K (v := nI 0) d_R_breaks_24 (by decide) ?_
    exact x_zret (pc := 25) K (rF (fun z => hn0 z.1)) rfl rfl d_R_breaks_25
set_option maxHeartbeats 4000000 in
set_option maxRecDepth 100000 in
theorem c_R_breaks11 (l : Launch) (w : fl_W) (M : fl_M) (o : Nat) (hR : zRf o M.2) (t a : Nat) (ht : t < 12) (ha : a < 192) (n : Int32) (hn : n < 0 ∨ inL 192 n)  : CT l y_R_breaks w_R_breaks rm_R_breaks w zN [.ref (w.2.2 + 278), .int (nI 11), .int (nI t), .int (nI a), .int n] M (some (.int (bI (¬ n < 0 ∧ M.1 286 a = 1 ∧ (¬ ¬ M.1 288 a &&& 12 = 0) ∧ (¬ ¬ M.1 281 t &&& 4 = 0) ∧ ¬ M.1 288 (ix n) &&& 8 = 0)))) M := by
  refine CT.of (cc := b_R_breaks) (own := "CompatibilityJudgeModel") (by decide) rfl rfl (Nat.le_of_ble_eq_true rfl) ?_
  intro p9 e9 s9 m9 ag9 bl9 mt9 c9 K
  show XW p9 l e9 (rm_R_breaks) s9 m9 ag9 bl9 mt9 c9 7 0 0 (MQ bl9 (CQ w zN (some (.int (bI (¬ n < 0 ∧ M.1 286 a = 1 ∧ (¬ ¬ M.1 288 a &&& 12 = 0) ∧ (¬ ¬ M.1 281 t &&& 4 = 0) ∧ ¬ M.1 288 (ix n) &&& 8 = 0)))) M) ag9 s9 0 0 (fun q : Nat => w.2.2 ≤ q)) w zN M 0 [(0, .ref (w.2.2 + 278)), (1, .int (nI 11)), (2, .int (nI t)), (3, .int (nI a)), (4, .int n)] []
  refine x_iload_n (pc := 0) K 1 d_R_breaks_0 rfl ?_
  refine x_iconst (pc := 1) K (v := nI 5) d_R_breaks_1 (by decide) ?_
  refine x_icmp_eq (pc := 2) K (tgt := 10) d_R_breaks_2 (by decide) (fun q => absurd q (by decide)) (fun _ => ?_)
  refine x_iload (pc := 5) K 4 d_R_breaks_5 rfl ?_
  refine x_if_ge (pc := 7) K (tgt := 26) d_R_breaks_7 (by decide) (fun c7 => ?_) (fun c7 => ?_)
  · skip
    have hn0 : ¬ n < 0 := Int32.not_lt.mpr c7
    have hn9 := hn.resolve_left hn0
    have hn2 := hn9.2
    refine x_aload_n (pc := 26) K 0 d_R_breaks_26 rfl ?_
    refine x_getr (pc := 27) K (n := 278) (n' := 288) (k := 9) (zlt shR) shR rfl hR.r288 rfl (by decide) (fun _ q => zmem (uw_R _ q)) (zmem lk_R_38) d_R_breaks_27 ?_
    refine x_iload_n (pc := 30) K 3 d_R_breaks_30 rfl ?_
    refine x_iald (pc := 31) K (n := 288) (j := a) rfl (by omega) (zlt sh288) sh288 rfl (by decide) d_R_breaks_31 ?_
    refine x_istore (pc := 32) K (lv' := [(5, .int (M.1 288 a)), (0, .ref (w.2.2 + 278)), (1, .int (nI 11)), (2, .int (nI t)), (3, .int (nI a)), (4, .int n)]) d_R_breaks_32 (by decide) rfl ?_
    refine x_aload_n (pc := 34) K 1 d_R_breaks_34 rfl ?_
    refine x_getr (pc := 35) K (n := 278) (n' := 288) (k := 9) (zlt shR) shR rfl hR.r288 rfl (by decide) (fun _ q => zmem (uw_R _ q)) (zmem lk_R_38) d_R_breaks_35 ?_
    refine x_iload (pc := 38) K 5 d_R_breaks_38 rfl ?_
    refine x_iald (pc := 40) K (n := 288) (j := ix n) hn9.1 hn9.2 (zlt sh288) sh288 rfl (by decide) d_R_breaks_40 ?_
    refine x_istore (pc := 41) K (lv' := [(6, .int (M.1 288 (ix n))), (5, .int (M.1 288 a)), (0, .ref (w.2.2 + 278)), (1, .int (nI 11)), (2, .int (nI t)), (3, .int (nI a)), (4, .int n)]) d_R_breaks_41 (by decide) rfl ?_
    refine x_iload_n (pc := 43) K 3 d_R_breaks_43 rfl ?_
    refine x_tableOut (pc := 44) K (tgt := 225) d_R_breaks_44 (by decide) (by decide) ?_
    refine x_aload_n (pc := 225) K 2 d_R_breaks_225 rfl ?_
    refine x_getr (pc := 226) K (n := 278) (n' := 286) (k := 7) (zlt shR) shR rfl hR.r286 rfl (by decide) (fun _ q => zmem (uw_R _ q)) (zmem lk_R_32) d_R_breaks_226 ?_
    refine x_iload_n (pc := 229) K 5 d_R_breaks_229 rfl ?_
    refine x_iald (pc := 230) K (n := 286) (j := a) rfl (by omega) (zlt sh286) sh286 rfl (by decide) d_R_breaks_230 ?_
    refine x_iconst (pc := 231) K (v := 1) d_R_breaks_231 (by decide) ?_
    refine x_icmp_ne (pc := 232) K (tgt := 272) d_R_breaks_232 (by decide) (fun c232 => ?_) (fun c232 => ?_)
    · skip
      refine x_iconst (pc := 272) K (v := 0) d_R_breaks_272 (by decide) ?_
      exact x_zret (pc := 273) K (rF (by clear hn9 hn hn2; first | (simp_all; done) | grind)) rfl rfl d_R_breaks_273
    · skip
      refine x_iload (pc := 235) K 1 d_R_breaks_235 rfl ?_
      refine x_bipush (pc := 237) K (v := 12) d_R_breaks_237 (by decide) ?_
      refine x_callS (pc := 239) K (As := [.int (M.1 288 a), .int 12]) (rest := []) (c_R_has l w M (M.1 288 a) 12) (zcwS K.ts lk_R_66 sm_R_has ii_R co_R_has pd_R_has ⟨rfl, rfl⟩ ⟨by decide, by decide⟩) rfl rfl (Nat.le_of_ble_eq_true rfl) ⟨Nat.zero_le _, Nat.zero_le _⟩ d_R_breaks_239 ?_
      refine x_ifneB (pc := 242) K (tgt := 272) d_R_breaks_242 (by decide) (fun c242 => ?_) (fun c242 => ?_)
      · skip
        refine x_iconst (pc := 272) K (v := 0) d_R_breaks_272 (by decide) ?_
        exact x_zret (pc := 273) K (rF (by clear hn9 hn hn2; first | (simp_all; done) | grind)) rfl rfl d_R_breaks_273
      · skip
        refine x_aload_n (pc := 245) K 2 d_R_breaks_245 rfl ?_
        refine x_getr (pc := 246) K (n := 278) (n' := 281) (k := 2) (zlt shR) shR rfl hR.r281 rfl (by decide) (fun _ q => zmem (uw_R _ q)) (zmem lk_R_17) d_R_breaks_246 ?_
        refine x_iload_n (pc := 249) K 4 d_R_breaks_249 rfl ?_
        refine x_iald (pc := 250) K (n := 281) (j := t) rfl (by omega) (zlt sh281) sh281 rfl (by decide) d_R_breaks_250 ?_
        refine x_iconst (pc := 251) K (v := 4) d_R_breaks_251 (by decide) ?_
        refine x_callS (pc := 252) K (As := [.int (M.1 281 t), .int 4]) (rest := []) (c_R_has l w M (M.1 281 t) 4) (zcwS K.ts lk_R_66 sm_R_has ii_R co_R_has pd_R_has ⟨rfl, rfl⟩ ⟨by decide, by decide⟩) rfl rfl (Nat.le_of_ble_eq_true rfl) ⟨Nat.zero_le _, Nat.zero_le _⟩ d_R_breaks_252 ?_
        refine x_ifneB (pc := 255) K (tgt := 272) d_R_breaks_255 (by decide) (fun c255 => ?_) (fun c255 => ?_)
        · skip
          refine x_iconst (pc := 272) K (v := 0) d_R_breaks_272 (by decide) ?_
          exact x_zret (pc := 273) K (rF (by clear hn9 hn hn2; first | (simp_all; done) | grind)) rfl rfl d_R_breaks_273
        · skip
          refine x_iload (pc := 258) K 0 d_R_breaks_258 rfl ?_
          refine x_bipush (pc := 260) K (v := 8) d_R_breaks_260 (by decide) ?_
          refine x_callS (pc := 262) K (As := [.int (M.1 288 (ix n)), .int 8]) (rest := []) (c_R_has l w M (M.1 288 (ix n)) 8) (zcwS K.ts lk_R_66 sm_R_has ii_R co_R_has pd_R_has ⟨rfl, rfl⟩ ⟨by decide, by decide⟩) rfl rfl (Nat.le_of_ble_eq_true rfl) ⟨Nat.zero_le _, Nat.zero_le _⟩ d_R_breaks_262 ?_
          refine x_ifeqB (pc := 265) K (tgt := 272) d_R_breaks_265 (by decide) (fun c265 => ?_) (fun c265 => ?_)
          · skip
            refine x_iconst (pc := 272) K (v := 0) d_R_breaks_272 (by decide) ?_
            exact x_zret (pc := 273) K (rF (by clear hn9 hn hn2; first | (simp_all; done) | grind)) rfl rfl d_R_breaks_273
          · skip
            refine x_iconst (pc := 268) K (v := 1) d_R_breaks_268 (by decide) ?_
            refine x_goto (pc := 269) K (tgt := 273) d_R_breaks_269 (by decide) ?_
            exact x_zret (pc := 273) K (rT (by clear hn9 hn hn2; first | (simp_all; done) | grind)) rfl rfl d_R_breaks_273
  · skip
    have hn0 : ¬ ¬ n < 0 := fun z => c7 (Int32.not_lt.mp z)
    refine x_iload_n (pc := 10) K 1 d_R_breaks_10 rfl ?_
    refine x_iconst (pc := 11) K (v := nI 5) d_R_breaks_11 (by decide) ?_
    refine x_icmp_ne (pc := 12) K (tgt := 24) d_R_breaks_12 (by decide) (fun _ => ?_) (fun q => absurd q (by decide))
    refine x_iconst (pc := 24) K (v := nI 0) d_R_breaks_24 (by decide) ?_
    exact x_zret (pc := 25) K (rF (fun z => hn0 z.1)) rfl rfl d_R_breaks_25
theorem c_R_breaks (l : Launch) (w : fl_W) (M : fl_M) (o : Nat) (hR : zRf o M.2) (t a : Nat) (ht : t < 12) (ha : a < 192) (n : Int32) (hn : n < 0 ∨ inL 192 n) (r : Nat) (h5 : 5 ≤ r) (h11 : r ≤ 11) : ∃ P : Prop, ∃ _ : Decidable P, (P ↔ qBr M.1 r t a n) ∧ CT l y_R_breaks w_R_breaks rm_R_breaks w zN [.ref (w.2.2 + 278), .int (nI r), .int (nI t), .int (nI a), .int n] M (some (.int (bI P))) M := by
  rcases (show r = 5 ∨ r = 6 ∨ r = 7 ∨ r = 8 ∨ r = 9 ∨ r = 10 ∨ r = 11 by omega) with rfl | rfl | rfl | rfl | rfl | rfl | rfl
  · exact ⟨_, inferInstance, by simp [qBr], c_R_breaks5 l w M o hR t a ht ha n hn⟩
  · exact ⟨_, inferInstance, by simp [qBr, qBx], c_R_breaks6 l w M o hR t a ht ha n hn⟩
  · exact ⟨_, inferInstance, by simp [qBr, qBx], c_R_breaks7 l w M o hR t a ht ha n hn⟩
  · exact ⟨_, inferInstance, by simp [qBr, qBx], c_R_breaks8 l w M o hR t a ht ha n hn⟩
  · exact ⟨_, inferInstance, by simp [qBr, qBx], c_R_breaks9 l w M o hR t a ht ha n hn⟩
  · exact ⟨_, inferInstance, by simp [qBr, qBx], c_R_breaks10 l w M o hR t a ht ha n hn⟩
  · exact ⟨_, inferInstance, by simp [qBr, qBx], c_R_breaks11 l w M o hR t a ht ha n hn⟩
