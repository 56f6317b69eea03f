theorem ffl_fok {o b j : Nat} (hj : j < 12) : ∀ (s n : Nat) (X : fl_M), s ≤ qF X.1 (12 * b + j) → ¬ X.1 279 (12 * b + j) = 0 → fOk o b X n → fOk o b (ffl X b (12 * b + j) n s).1 (ffl X b (12 * b + j) n s).2 := by
  intro s
  induction s with
  | zero => intro n X _ _ h; exact h
  | succ s ih =>
    intro n X hs hd h
    rw [ffl]
    split
    · rename_i c
      refine ih _ _ (by unfold qF; rw [rdI_ne (Or.inl (by decide))]; exact Nat.le_of_succ_le hs) (by rw [rdI_ne (Or.inl (by decide))]; exact hd) (fOk_push h (inL_le ((h.2.2.1 j hj hd).2 s (by omega)) (by omega)) c.2.1)
    · exact ih _ _ (by omega) hd h
theorem fsc_fok {o b j n : Nat} {X : fl_M} (hj : j < 12) (hd : ¬ X.1 279 (12 * b + j) = 0) (h : fOk o b X n) : fOk o b (fsc X b (12 * b + j) n).1 (fsc X b (12 * b + j) n).2 := by
  unfold fsc
  split
  · rename_i c
    exact fOk_push h (inL_le ((h.2.2.1 j hj hd).1.resolve_left (fun z => c.2.1 (by rw [z]; decide))) (by omega)) c.2.2.1
  · exact h
theorem dfs_in {o b : Nat} (hb : b < 2) {key : Int32} : ∀ (k : Nat) (X : fl_M) (n : Nat), fOk o b X n → ((dfs b key k X n).1 < 0 ∨ inL 192 (dfs b key k X n).1) := by
  intro k
  induction k with
  | zero => intro X n _; exact Or.inl (show (-1 : Int32) < 0 from by decide)
  | succ k ih =>
    intro X n h
    rw [dfs]
    split
    · exact Or.inl (show (-1 : Int32) < 0 from by decide)
    · rename_i hn
      obtain ⟨j, hj1, hj, hjd⟩ := h.2.2.2 (n - 1) (by omega)
      rw [hj1, ix_nI (by omega)]
      split
      · exact ih _ _ (fOk_pop h (by omega))
      · split
        · rename_i c
          exact Or.inr (qOwn_in (by omega) (rCs_w (by decide) (by decide) h.2.1 _ (by omega)) c)
        · have h1 : fOk o b (wI X 292 j 1) (n - 1) := fOk_mark (fOk_pop h (by omega))
          have d1 : ¬ (wI X 292 j 1).1 279 (12 * b + j) = 0 := by rw [rdI_ne (Or.inl (by decide))]; exact hjd
          have h2 := fsc_fok hj d1 h1
          refine ih _ _ (ffl_fok hj _ _ _ ?_ ?_ h2)
          · unfold qF
            rw [fsc_rd (by decide), rdI_ne (Or.inl (by decide))]
            exact Nat.le_refl _
          · rw [fsc_rd (by decide)]
            exact d1
theorem qml_in {μ : Nat → Nat → Int32} {b : Nat} (hb : b < 2) (hc : rCs μ) (hP : rP μ b) {key : Int32} : ∀ (k : Nat) (x v : Int32), (x < 0 ∨ (inL 12 x ∧ ¬ μ 279 (12 * b + ix x) = 0)) → qml μ b key k x = some v → inL 192 v := by
  intro k
  induction k with
  | zero => intro x v _ h; cases h
  | succ k ih =>
    intro x v hx h
    rw [qml] at h
    split at h
    · cases h
    · rename_i q
      obtain ⟨hx9, hxd⟩ := hx.resolve_left q
      have hx12 := hx9.2
      split at h
      · refine ih _ _ ?_ h
        split
        · rename_i c
          by_cases e : μ 280 (12 * b + ix x) = 0
          · rw [show qup μ (12 * b + ix x) = μ 282 (12 * b + ix x) from if_pos e] at c ⊢
            exact Or.inr ⟨inL_le (((hP _ hx12 hxd).1).resolve_left (fun z => c.1 (by rw [z]; decide))) (by omega), c.2.1⟩
          · rw [show qup μ (12 * b + ix x) = -1 from if_neg e] at c
            exact absurd (by decide) c.1
        · exact Or.inl (by decide)
      · rename_i c
        cases h
        exact qOwn_in (by omega) (hc _ (by omega)) c
theorem qil_in {μ : Nat → Nat → Int32} {b t : Nat} (hb : b < 2) (ht : t < 12) (hc : rCs μ) {key : Int32} : ∀ (k s : Nat) (a : Int32), s + k ≤ t → (a < 0 ∨ inL 192 a) → (qil μ b t key s k a < 0 ∨ inL 192 (qil μ b t key s k a)) := by
  intro k
  induction k with
  | zero => intro s a _ h; exact h
  | succ k ih =>
    intro s a h1 h
    rw [qil]
    split
    · exact ih _ _ (by omega) h
    · rename_i q
      have hi := qOwn_in (show 12 * b + s < 24 by omega) (hc _ (by omega)) (fun z => q (Or.inl z))
      split
      · exact Or.inr hi
      · refine ih _ _ (by omega) ?_
        split
        · exact Or.inr hi
        · exact h
theorem vFd_in {o : Nat} {M : fl_M} (h : mOk o M) {b t : Nat} (hb : b < 2) (ht : t < 12) {k key : Int32} : vFd M b t k key < 0 ∨ inL 192 (vFd M b t k key) := by
  unfold vFd
  split
  · exact Or.inl (by decide)
  · rename_i hd
    split
    · exact dfs_in hb _ _ _ (fOk_push (fcl_ok _ _ _ ⟨h.1, h.2.1, h.2.2 b hb, fun i hi => absurd hi (by omega)⟩) (inL_nI (by omega) ht) (by rw [ix_nI (by omega), fcl_rd (by decide)]; exact hd))
    · split
      · unfold qMth qmz
        split
        · rename_i v hv
          exact Or.inr (qml_in hb h.2.1 (h.2.2 b hb) _ _ _ (Or.inr ⟨inL_nI (by omega) ht, by rw [ix_nI (by omega)]; exact hd⟩) hv)
        · exact qil_in hb ht h.2.1 _ _ _ (by omega) (Or.inl (by decide))
      · by_cases q : qOwn M.1 (12 * b + t) 2 key < 0
        · exact Or.inl q
        · exact Or.inr (qOwn_in (by omega) (h.2.1 _ (by omega)) q)
noncomputable def mbl (X : fl_M) (r t : Nat) : Nat → Nat → fl_M
  | _, 0 => X
  | i, k + 1 => mbl (if (X.1 288 (8 * t + i) &&& 3) < 2 then X else cIf (qBr (mFd X 1 t (X.1 286 (8 * t + i)) (X.1 287 (8 * t + i))).1 r t (8 * t + i) (vFd X 1 t (X.1 286 (8 * t + i)) (X.1 287 (8 * t + i)))) (tel (mFd X 1 t (X.1 286 (8 * t + i)) (X.1 287 (8 * t + i))) r t (nI i)) (mFd X 1 t (X.1 286 (8 * t + i)) (X.1 287 (8 * t + i)))) r t (i + 1) k
set_option maxHeartbeats 4000000 in
set_option maxRecDepth 100000 in
theorem lp_R_members (l : Launch) (w : fl_W) (M : fl_M) (o : Nat) (r t : Nat) (h5 : 5 ≤ r) (h11 : r ≤ 11) (ht : t < 12) (c : Nat) (h8 : c ≤ 8) (Y : fl_M) {p9 : Program} {e9 : Env} {s9 : State} {m9 : MethodId} {ag9 : Array Value} {bl9 : List Frame} {mt9 : Method} {c9 : Code} (K : XC p9 s9 m9 ag9 mt9 c9 b_R_members 4 none w_R_members "CompatibilityJudgeModel" w) : ∀ (k : Nat) (i : Nat) (X : fl_M), i ≤ c → c + 1 ≤ i + k → mOk o X → X.1 285 t = nI c → mbl X r t i (c - i) = Y → XW p9 l e9 (rm_R_members) s9 m9 ag9 bl9 mt9 c9 4 0 0 (MQ bl9 (CQ w zN none Y) ag9 s9 0 0 (fun q : Nat => w.2.2 ≤ q)) w zN X 5 [(3, .int (nI (8 * t + i))), (0, .ref (w.2.2 + 278)), (1, .int (nI r)), (2, .int (nI t))] [] := by
  intro k
  induction k with
  | zero =>
    intro i X hi hk
    exact absurd hk (by omega)
  | succ k ih =>
    intro i X hi hk hX hc hf
    refine x_iload_n (pc := 5) K 0 d_R_members_5 rfl ?_
    refine x_bipush (pc := 6) K (v := nI 8) d_R_members_6 (by decide) ?_
    refine x_iload_n (pc := 8) K 3 d_R_members_8 rfl ?_
    refine x_imul (pc := 9) K d_R_members_9 ?_
    refine x_eqi (y := nI (8 * t)) (pk_mul _ _) ?_
    refine x_aload_n (pc := 10) K 1 d_R_members_10 rfl ?_
    refine x_getr (pc := 11) K (n := 278) (n' := 285) (k := 6) (zlt shR) shR rfl hX.1.r285 rfl (by decide) (fun _ q => zmem (uw_R _ q)) (zmem lk_R_29) d_R_members_11 ?_
    refine x_iload_n (pc := 14) K 3 d_R_members_14 rfl ?_
    refine x_iald (pc := 15) K (n := 285) (j := t) rfl (by omega) (zlt sh285) sh285 rfl (by decide) d_R_members_15 ?_
    refine x_eqi (y := nI c) (hc) ?_
    refine x_iadd (pc := 16) K d_R_members_16 ?_
    refine x_eqi (y := nI ((8 * t) + c)) (nI_add _ _) ?_
    refine x_icmp_ge (pc := 17) K (tgt := 78) d_R_members_17 (by decide) (fun c17 => ?_) (fun c17 => ?_)
    · skip
      have hic : i = c := by have := (nI_leI (by omega) (by omega)).mp c17; omega
      rw [hic, Nat.sub_self] at hf
      exact x_vret (pc := 78) K rfl (by subst hf; rfl) d_R_members_78
    · skip
      have hic : i < c := by have := Nat.not_le.mp (fun q => c17 (nI_le q (by omega))); omega
      rw [show c - i = (c - (i + 1)) + 1 by omega, mbl] at hf
      refine x_aload_n (pc := 20) K 1 d_R_members_20 rfl ?_
      refine x_getr (pc := 21) K (n := 278) (n' := 288) (k := 9) (zlt shR) shR rfl hX.1.r288 rfl (by decide) (fun _ q => zmem (uw_R _ q)) (zmem lk_R_38) d_R_members_21 ?_
      refine x_iload_n (pc := 24) K 0 d_R_members_24 rfl ?_
      refine x_iald (pc := 25) K (n := 288) (j := 8 * t + i) rfl (by omega) (zlt sh288) sh288 rfl (by decide) d_R_members_25 ?_
      refine x_iconst (pc := 26) K (v := 3) d_R_members_26 (by decide) ?_
      refine x_iand (pc := 27) K d_R_members_27 ?_
      refine x_iconst (pc := 28) K (v := 2) d_R_members_28 (by decide) ?_
      refine x_icmp_lt (pc := 29) K (tgt := 72) d_R_members_29 (by decide) (fun c29 => ?_) (fun c29 => ?_)
      · skip
        rw [if_pos c29] at hf
        refine x_iinc (pc := 72) K (v := nI (8 * t + (i + 1))) (lv' := [(3, .int (nI (8 * t + (i + 1)))), (0, .ref (w.2.2 + 278)), (1, .int (nI r)), (2, .int (nI t))]) 0 d_R_members_72 rfl (nI_1 _) (by decide) rfl ?_
        refine x_goto (pc := 75) K (tgt := 5) d_R_members_75 (by decide) ?_
        exact ih (i + 1) _ (by omega) (by omega) hX hc hf
      · skip
        rw [if_neg c29] at hf
        refine x_aload_n (pc := 32) K 1 d_R_members_32 rfl ?_
        refine x_iload_n (pc := 33) K 2 d_R_members_33 rfl ?_
        refine x_iload_n (pc := 34) K 3 d_R_members_34 rfl ?_
        refine x_iload_n (pc := 35) K 0 d_R_members_35 rfl ?_
        refine x_aload_n (pc := 36) K 1 d_R_members_36 rfl ?_
        refine x_iconst (pc := 37) K (v := nI 1) d_R_members_37 (by decide) ?_
        refine x_iload_n (pc := 38) K 3 d_R_members_38 rfl ?_
        refine x_aload_n (pc := 39) K 1 d_R_members_39 rfl ?_
        refine x_getr (pc := 40) K (n := 278) (n' := 286) (k := 7) (zlt shR) shR rfl hX.1.r286 rfl (by decide) (fun _ q => zmem (uw_R _ q)) (zmem lk_R_32) d_R_members_40 ?_
        refine x_iload_n (pc := 43) K 0 d_R_members_43 rfl ?_
        refine x_iald (pc := 44) K (n := 286) (j := 8 * t + i) rfl (by omega) (zlt sh286) sh286 rfl (by decide) d_R_members_44 ?_
        refine x_aload_n (pc := 45) K 1 d_R_members_45 rfl ?_
        refine x_getr (pc := 46) K (n := 278) (n' := 287) (k := 8) (zlt shR) shR rfl hX.1.r287 rfl (by decide) (fun _ q => zmem (uw_R _ q)) (zmem lk_R_35) d_R_members_46 ?_
        refine x_iload_n (pc := 49) K 0 d_R_members_49 rfl ?_
        refine x_iald (pc := 50) K (n := 287) (j := 8 * t + i) rfl (by omega) (zlt sh287) sh287 rfl (by decide) d_R_members_50 ?_
        refine x_callV (pc := 51) K (As := [.int (nI 1), .int (nI t), .int (X.1 286 (8 * t + i)), .int (X.1 287 (8 * t + i))]) (rest := [.int (nI (8 * t + i)), .int (nI t), .int (nI r), .ref (w.2.2 + 278)]) (c_R_find l w X o hX.1 1 (by omega) t (by omega) hX.2.1 (hX.2.2 1 (by omega)) (X.1 286 (8 * t + i)) (X.1 287 (8 * t + i))) (zcwV K.ts lk_R_120 im_R_find se_R_find ii_R co_R_find pd_R_find ⟨rfl, rfl⟩ ⟨by decide, by decide⟩) (zlt shR) shR rfl rfl rfl (Nat.le_of_ble_eq_true rfl) ⟨Nat.zero_le _, Nat.zero_le _⟩ d_R_members_51 ?_
        have hX1 : mOk o (mFd X 1 t (X.1 286 (8 * t + i)) (X.1 287 (8 * t + i))) := mOk_kp hX kp_mFd
        obtain ⟨P54, dP54, hP54, hC54⟩ := c_R_breaks l w (mFd X 1 t (X.1 286 (8 * t + i)) (X.1 287 (8 * t + i))) o hX1.1 t (8 * t + i) (by omega) (by omega) (vFd X 1 t (X.1 286 (8 * t + i)) (X.1 287 (8 * t + i))) (vFd_in hX (by omega) (by omega)) r h5 h11
        refine x_callV (pc := 54) K (As := [.int (nI r), .int (nI t), .int (nI (8 * t + i)), .int (vFd X 1 t (X.1 286 (8 * t + i)) (X.1 287 (8 * t + i)))]) (rest := []) hC54 (zcwV K.ts lk_R_146 im_R_breaks se_R_breaks ii_R co_R_breaks pd_R_breaks ⟨rfl, rfl⟩ ⟨by decide, by decide⟩) (zlt shR) shR rfl rfl rfl (Nat.le_of_ble_eq_true rfl) ⟨Nat.zero_le _, Nat.zero_le _⟩ d_R_members_54 ?_
        refine x_ifeqB (pc := 57) K (tgt := 72) d_R_members_57 (by decide) (fun c57 => ?_) (fun c57 => ?_)
        · skip
          rw [cIf_f (fun q => c57 (hP54.mpr q))] at hf
          refine x_iinc (pc := 72) K (v := nI (8 * t + (i + 1))) (lv' := [(3, .int (nI (8 * t + (i + 1)))), (0, .ref (w.2.2 + 278)), (1, .int (nI r)), (2, .int (nI t))]) 0 d_R_members_72 rfl (nI_1 _) (by decide) rfl ?_
          refine x_goto (pc := 75) K (tgt := 5) d_R_members_75 (by decide) ?_
          exact ih (i + 1) _ (by omega) (by omega) hX1 (by rw [mFd_rd (by decide) (by decide)]; exact hc) hf
        · skip
          rw [cIf_t (hP54.mp c57)] at hf
          refine x_aload_n (pc := 60) K 1 d_R_members_60 rfl ?_
          refine x_iload_n (pc := 61) K 2 d_R_members_61 rfl ?_
          refine x_iload_n (pc := 62) K 3 d_R_members_62 rfl ?_
          refine x_iload_n (pc := 63) K 0 d_R_members_63 rfl ?_
          refine x_bipush (pc := 64) K (v := nI 8) d_R_members_64 (by decide) ?_
          refine x_iload_n (pc := 66) K 3 d_R_members_66 rfl ?_
          refine x_imul (pc := 67) K d_R_members_67 ?_
          refine x_eqi (y := nI (8 * t)) (pk_mul _ _) ?_
          refine x_isub (pc := 68) K d_R_members_68 ?_
          refine x_eqi (y := nI i) (by rw [pk_sub (by omega), show 8 * t + i - 8 * t = i by omega]) ?_
          refine x_callVv (pc := 69) K (As := [.int (nI r), .int (nI t), .int (nI i)]) (rest := []) (c_R_tell l w (mFd X 1 t (X.1 286 (8 * t + i)) (X.1 287 (8 * t + i))) o hX1.1 r t (by omega) (by omega) (nI i)) (zcwV K.ts lk_R_150 im_R_tell se_R_tell ii_R co_R_tell pd_R_tell ⟨rfl, rfl⟩ ⟨by decide, by decide⟩) (zlt shR) shR rfl rfl rfl (Nat.le_of_ble_eq_true rfl) ⟨Nat.zero_le _, Nat.zero_le _⟩ d_R_members_69 ?_
          refine x_iinc (pc := 72) K (v := nI (8 * t + (i + 1))) (lv' := [(3, .int (nI (8 * t + (i + 1)))), (0, .ref (w.2.2 + 278)), (1, .int (nI r)), (2, .int (nI t))]) 0 d_R_members_72 rfl (nI_1 _) (by decide) rfl ?_
          refine x_goto (pc := 75) K (tgt := 5) d_R_members_75 (by decide) ?_
          exact ih (i + 1) _ (by omega) (by omega) (mOk_kp hX1 tel_kp) (by rw [tel_kp.1 285 t (by omega) (by omega), mFd_rd (by decide) (by decide)]; exact hc) hf
set_option maxHeartbeats 4000000 in
set_option maxRecDepth 100000 in
theorem c_R_members (l : Launch) (w : fl_W) (M : fl_M) (o : Nat) (hM : mOk o M) (r t : Nat) (h5 : 5 ≤ r) (h11 : r ≤ 11) (ht : t < 12) : CT l y_R_members w_R_members rm_R_members w zN [.ref (w.2.2 + 278), .int (nI r), .int (nI t)] M none (mbl M r t 0 (qM M.1 t)) := by
  refine CT.of (cc := b_R_members) (own := "CompatibilityJudgeModel") (by decide) rfl rfl (Nat.le_of_ble_eq_true rfl) ?_
  intro p9 e9 s9 m9 ag9 bl9 mt9 c9 K
  show XW p9 l e9 (rm_R_members) s9 m9 ag9 bl9 mt9 c9 4 0 0 (MQ bl9 (CQ w zN none (mbl M r t 0 (qM M.1 t))) ag9 s9 0 0 (fun q : Nat => w.2.2 ≤ q)) w zN M 0 [(0, .ref (w.2.2 + 278)), (1, .int (nI r)), (2, .int (nI t))] []
  refine x_bipush (pc := 0) K (v := nI 8) d_R_members_0 (by decide) ?_
  refine x_iload_n (pc := 2) K 2 d_R_members_2 rfl ?_
  refine x_imul (pc := 3) K d_R_members_3 ?_
  refine x_eqi (y := nI (8 * t)) (pk_mul _ _) ?_
  refine x_istore_n (pc := 4) K (lv' := [(3, .int (nI (8 * t))), (0, .ref (w.2.2 + 278)), (1, .int (nI r)), (2, .int (nI t))]) d_R_members_4 (by decide) rfl ?_
  have hc9 := (hM.2.1 t (by omega)).2
  exact lp_R_members l w M o r t h5 h11 ht (qM M.1 t) hc9.2 _ K (qM M.1 t + 1) 0 M (by omega) (by omega) hM hc9.1 (by rw [Nat.sub_zero])
theorem mbl_kp {r t : Nat} : ∀ (k i : Nat) (X : fl_M), kpR X (mbl X r t i k) := by
  intro k
  induction k with
  | zero => intro i X; exact kpR.rf
  | succ k ih =>
    intro i X
    rw [mbl]
    split
    · exact ih _ _
    · by_cases q : qBr (mFd X 1 t (X.1 286 (8 * t + i)) (X.1 287 (8 * t + i))).1 r t (8 * t + i) (vFd X 1 t (X.1 286 (8 * t + i)) (X.1 287 (8 * t + i)))
      · rw [cIf_t q]; exact (kp_mFd.tr tel_kp).tr (ih _ _)
      · rw [cIf_f q]; exact kp_mFd.tr (ih _ _)
def qAd (μ : Nat → Nat → Int32) (rl a : Nat) (m : Int32) : Prop := if rl = 12 then μ 286 a < 2 ∧ ¬ m < 0 ∧ (¬ (μ 288 (ix m) &&& 3) < 2) ∧ ((μ 288 a &&& 3) < (μ 288 (ix m) &&& 3) ∨ ¬ (μ 288 a ^^^ μ 288 (ix m)) &&& 4 = 0) else (¬ μ 288 a &&& 16 = 0) ∧ m < 0
noncomputable def adl (X : fl_M) (rl t : Nat) : Nat → Nat → fl_M
  | _, 0 => X
  | i, k + 1 => adl (if 0 ≤ qOwn X.1 t (X.1 286 (8 * (12 + t) + i)) (X.1 287 (8 * (12 + t) + i)) then X else cIf (qAd (mFd X 0 t (X.1 286 (8 * (12 + t) + i)) (X.1 287 (8 * (12 + t) + i))).1 rl (8 * (12 + t) + i) (vFd X 0 t (X.1 286 (8 * (12 + t) + i)) (X.1 287 (8 * (12 + t) + i)))) (tel (mFd X 0 t (X.1 286 (8 * (12 + t) + i)) (X.1 287 (8 * (12 + t) + i))) rl t (nI i)) (mFd X 0 t (X.1 286 (8 * (12 + t) + i)) (X.1 287 (8 * (12 + t) + i)))) rl t (i + 1) k
theorem adl_kp {rl t : Nat} : ∀ (k i : Nat) (X : fl_M), kpR X (adl X rl t i k) := by
  intro k
  induction k with
  | zero => intro i X; exact kpR.rf
  | succ k ih =>
    intro i X
    rw [adl]
    split
    · exact ih _ _
    · by_cases q : qAd (mFd X 0 t (X.1 286 (8 * (12 + t) + i)) (X.1 287 (8 * (12 + t) + i))).1 rl (8 * (12 + t) + i) (vFd X 0 t (X.1 286 (8 * (12 + t) + i)) (X.1 287 (8 * (12 + t) + i)))
      · rw [cIf_t q]; exact (kp_mFd.tr tel_kp).tr (ih _ _)
      · rw [cIf_f q]; exact kp_mFd.tr (ih _ _)
set_option maxHeartbeats 4000000 in
set_option maxRecDepth 100000 in
theorem lp_R_added12 (l : Launch) (w : fl_W) (M : fl_M) (o : Nat) (t : Nat) (ht : t < 12) (c : Nat) (h8 : c ≤ 8) (Y : fl_M) {p9 : Program} {e9 : Env} {s9 : State} {m9 : MethodId} {ag9 : Array Value} {bl9 : List Frame} {mt9 : Method} {c9 : Code} (K : XC p9 s9 m9 ag9 mt9 c9 b_R_added 7 none w_R_added "CompatibilityJudgeModel" w) : ∀ (k : Nat) (i : Nat) (X : fl_M), i ≤ c → c + 1 ≤ i + k → mOk o X → X.1 285 (12 + t) = nI c → adl X 12 t i (c - i) = Y → XW p9 l e9 (rm_R_added) s9 m9 ag9 bl9 mt9 c9 7 0 0 (MQ bl9 (CQ w zN none Y) ag9 s9 0 0 (fun q : Nat => w.2.2 ≤ q)) w zN X 11 [(4, .int (nI (8 * (12 + t) + i))), (3, .int (nI (12 + t))), (0, .ref (w.2.2 + 278)), (1, .int (nI 12)), (2, .int (nI t))] [] := by
  intro k
  induction k with
  | zero =>
    intro i X hi hk
    exact absurd hk (by omega)
  | succ k ih =>
    intro i X hi hk hX hc hf
    refine x_iload (pc := 11) K 0 d_R_added_11 rfl ?_
    refine x_bipush (pc := 13) K (v := nI 8) d_R_added_13 (by decide) ?_
    refine x_iload_n (pc := 15) K 1 d_R_added_15 rfl ?_
    refine x_imul (pc := 16) K d_R_added_16 ?_
    refine x_eqi (y := nI (8 * (12 + t))) (pk_mul _ _) ?_
    refine x_aload_n (pc := 17) K 2 d_R_added_17 rfl ?_
    refine x_getr (pc := 18) K (n := 278) (n' := 285) (k := 6) (zlt shR) shR rfl hX.1.r285 rfl (by decide) (fun _ q => zmem (uw_R _ q)) (zmem lk_R_29) d_R_added_18 ?_
    refine x_iload_n (pc := 21) K 1 d_R_added_21 rfl ?_
    refine x_iald (pc := 22) K (n := 285) (j := 12 + t) rfl (by omega) (zlt sh285) sh285 rfl (by decide) d_R_added_22 ?_
    refine x_eqi (y := nI c) (hc) ?_
    refine x_iadd (pc := 23) K d_R_added_23 ?_
    refine x_eqi (y := nI ((8 * (12 + t)) + c)) (nI_add _ _) ?_
    refine x_icmp_ge (pc := 24) K (tgt := 220) d_R_added_24 (by decide) (fun c24 => ?_) (fun c24 => ?_)
    · skip
      have hic : i = c := by have := (nI_leI (by omega) (by omega)).mp c24; omega
      rw [hic, Nat.sub_self] at hf
      exact x_vret (pc := 220) K rfl (by subst hf; rfl) d_R_added_220
    · skip
      have hic : i < c := by have := Nat.not_le.mp (fun q => c24 (nI_le q (by omega))); omega
      rw [show c - i = (c - (i + 1)) + 1 by omega, adl] at hf
      refine x_aload_n (pc := 27) K 2 d_R_added_27 rfl ?_
      refine x_iload_n (pc := 28) K 4 d_R_added_28 rfl ?_
      refine x_aload_n (pc := 29) K 2 d_R_added_29 rfl ?_
      refine x_getr (pc := 30) K (n := 278) (n' := 286) (k := 7) (zlt shR) shR rfl hX.1.r286 rfl (by decide) (fun _ q => zmem (uw_R _ q)) (zmem lk_R_32) d_R_added_30 ?_
      refine x_iload (pc := 33) K 0 d_R_added_33 rfl ?_
      refine x_iald (pc := 35) K (n := 286) (j := 8 * (12 + t) + i) rfl (by omega) (zlt sh286) sh286 rfl (by decide) d_R_added_35 ?_
      refine x_aload_n (pc := 36) K 2 d_R_added_36 rfl ?_
      refine x_getr (pc := 37) K (n := 278) (n' := 287) (k := 8) (zlt shR) shR rfl hX.1.r287 rfl (by decide) (fun _ q => zmem (uw_R _ q)) (zmem lk_R_35) d_R_added_37 ?_
      refine x_iload (pc := 40) K 0 d_R_added_40 rfl ?_
      refine x_iald (pc := 42) K (n := 287) (j := 8 * (12 + t) + i) rfl (by omega) (zlt sh287) sh287 rfl (by decide) d_R_added_42 ?_
      refine x_callV (pc := 43) K (As := [.int (nI t), .int (X.1 286 (8 * (12 + t) + i)), .int (X.1 287 (8 * (12 + t) + i))]) (rest := []) (c_R_own l w X o hX.1 t (by omega) (hX.2.1 _ (by omega)) (X.1 286 (8 * (12 + t) + i)) (X.1 287 (8 * (12 + t) + i))) (zcwV K.ts lk_R_72 im_R_own se_R_own ii_R co_R_own pd_R_own ⟨rfl, rfl⟩ ⟨by decide, by decide⟩) (zlt shR) shR rfl rfl rfl (Nat.le_of_ble_eq_true rfl) ⟨Nat.zero_le _, Nat.zero_le _⟩ d_R_added_43 ?_
      refine x_if_lt (pc := 46) K (tgt := 52) d_R_added_46 (by decide) (fun c46 => ?_) (fun c46 => ?_)
      · skip
        rw [if_neg (fun q => Int32.not_lt.mpr q c46)] at hf
        refine x_aload_n (pc := 52) K 2 d_R_added_52 rfl ?_
        refine x_iconst (pc := 53) K (v := nI 0) d_R_added_53 (by decide) ?_
        refine x_iload_n (pc := 54) K 4 d_R_added_54 rfl ?_
        refine x_aload_n (pc := 55) K 2 d_R_added_55 rfl ?_
        refine x_getr (pc := 56) K (n := 278) (n' := 286) (k := 7) (zlt shR) shR rfl hX.1.r286 rfl (by decide) (fun _ q => zmem (uw_R _ q)) (zmem lk_R_32) d_R_added_56 ?_
        refine x_iload (pc := 59) K 0 d_R_added_59 rfl ?_
        refine x_iald (pc := 61) K (n := 286) (j := 8 * (12 + t) + i) rfl (by omega) (zlt sh286) sh286 rfl (by decide) d_R_added_61 ?_
        refine x_aload_n (pc := 62) K 2 d_R_added_62 rfl ?_
        refine x_getr (pc := 63) K (n := 278) (n' := 287) (k := 8) (zlt shR) shR rfl hX.1.r287 rfl (by decide) (fun _ q => zmem (uw_R _ q)) (zmem lk_R_35) d_R_added_63 ?_
        refine x_iload (pc := 66) K 0 d_R_added_66 rfl ?_
        refine x_iald (pc := 68) K (n := 287) (j := 8 * (12 + t) + i) rfl (by omega) (zlt sh287) sh287 rfl (by decide) d_R_added_68 ?_
        refine x_callV (pc := 69) K (As := [.int (nI 0), .int (nI t), .int (X.1 286 (8 * (12 + t) + i)), .int (X.1 287 (8 * (12 + t) + i))]) (rest := []) (c_R_find l w X o hX.1 0 (by omega) t (by omega) hX.2.1 (hX.2.2 0 (by omega)) (X.1 286 (8 * (12 + t) + i)) (X.1 287 (8 * (12 + t) + i))) (zcwV K.ts lk_R_120 im_R_find se_R_find ii_R co_R_find pd_R_find ⟨rfl, rfl⟩ ⟨by decide, by decide⟩) (zlt shR) shR rfl rfl rfl (Nat.le_of_ble_eq_true rfl) ⟨Nat.zero_le _, Nat.zero_le _⟩ d_R_added_69 ?_
        have hX1 : mOk o (mFd X 0 t (X.1 286 (8 * (12 + t) + i)) (X.1 287 (8 * (12 + t) + i))) := mOk_kp hX kp_mFd
        have hv := vFd_in hX (b := 0) (t := t) (k := X.1 286 (8 * (12 + t) + i)) (key := X.1 287 (8 * (12 + t) + i)) (by omega) (by omega)
        generalize hV : vFd X 0 t (X.1 286 (8 * (12 + t) + i)) (X.1 287 (8 * (12 + t) + i)) = V at hf hv ⊢
        generalize hX2 : mFd X 0 t (X.1 286 (8 * (12 + t) + i)) (X.1 287 (8 * (12 + t) + i)) = X2 at hf hX1 ⊢
        refine x_istore (pc := 72) K (lv' := [(5, .int V), (4, .int (nI (8 * (12 + t) + i))), (3, .int (nI (12 + t))), (0, .ref (w.2.2 + 278)), (1, .int (nI 12)), (2, .int (nI t))]) d_R_added_72 (by decide) rfl ?_
        refine x_aload_n (pc := 74) K 3 d_R_added_74 rfl ?_
        refine x_getr (pc := 75) K (n := 278) (n' := 288) (k := 9) (zlt shR) shR rfl hX1.1.r288 rfl (by decide) (fun _ q => zmem (uw_R _ q)) (zmem lk_R_38) d_R_added_75 ?_
        refine x_iload (pc := 78) K 1 d_R_added_78 rfl ?_
        refine x_iald (pc := 80) K (n := 288) (j := 8 * (12 + t) + i) rfl (by omega) (zlt sh288) sh288 rfl (by decide) d_R_added_80 ?_
        refine x_bipush (pc := 81) K (v := 16) d_R_added_81 (by decide) ?_
        refine x_callS (pc := 83) K (As := [.int (X2.1 288 (8 * (12 + t) + i)), .int 16]) (rest := []) (c_R_has l w X2 (X2.1 288 (8 * (12 + t) + i)) 16) (zcwS K.ts lk_R_66 sm_R_has ii_R co_R_has pd_R_has ⟨rfl, rfl⟩ ⟨by decide, by decide⟩) rfl rfl (Nat.le_of_ble_eq_true rfl) ⟨Nat.zero_le _, Nat.zero_le _⟩ d_R_added_83 ?_
        refine x_ifeqB (pc := 86) K (tgt := 98) d_R_added_86 (by decide) (fun c86 => ?_) (fun c86 => ?_)
        · skip
          refine x_iconst (pc := 98) K (v := 0) d_R_added_98 (by decide) ?_
          refine x_istore (pc := 99) K (lv' := [(6, .int 0), (5, .int V), (4, .int (nI (8 * (12 + t) + i))), (3, .int (nI (12 + t))), (0, .ref (w.2.2 + 278)), (1, .int (nI 12)), (2, .int (nI t))]) d_R_added_99 (by decide) rfl ?_
          refine x_iload_n (pc := 101) K 5 d_R_added_101 rfl ?_
          refine x_bipush (pc := 102) K (v := nI 12) d_R_added_102 (by decide) ?_
          refine x_icmp_ne (pc := 104) K (tgt := 196) d_R_added_104 (by decide) (fun q => absurd q (by decide)) (fun _ => ?_)
          refine x_aload_n (pc := 107) K 4 d_R_added_107 rfl ?_
          refine x_getr (pc := 108) K (n := 278) (n' := 286) (k := 7) (zlt shR) shR rfl hX1.1.r286 rfl (by decide) (fun _ q => zmem (uw_R _ q)) (zmem lk_R_32) d_R_added_108 ?_
          refine x_iload (pc := 111) K 2 d_R_added_111 rfl ?_
          refine x_iald (pc := 113) K (n := 286) (j := 8 * (12 + t) + i) rfl (by omega) (zlt sh286) sh286 rfl (by decide) d_R_added_113 ?_
          refine x_iconst (pc := 114) K (v := 2) d_R_added_114 (by decide) ?_
          refine x_icmp_ge (pc := 115) K (tgt := 140) d_R_added_115 (by decide) (fun c115 => ?_) (fun c115 => ?_)
          · skip
            refine x_iconst (pc := 140) K (v := 0) d_R_added_140 (by decide) ?_
            refine x_istore (pc := 141) K (lv' := [(6, .int 0), (5, .int V), (4, .int (nI (8 * (12 + t) + i))), (3, .int (nI (12 + t))), (0, .ref (w.2.2 + 278)), (1, .int (nI 12)), (2, .int (nI t))]) d_R_added_141 (by decide) rfl ?_
            refine x_iload (pc := 143) K 0 d_R_added_143 rfl ?_
            refine x_if_eq (pc := 145) K (tgt := 193) d_R_added_145 (by decide) (fun _ => ?_) (fun q => absurd q (by decide))
            refine x_iconst (pc := 193) K (v := 0) d_R_added_193 (by decide) ?_
            refine x_istore (pc := 194) K (lv' := [(6, .int 0), (5, .int V), (4, .int (nI (8 * (12 + t) + i))), (3, .int (nI (12 + t))), (0, .ref (w.2.2 + 278)), (1, .int (nI 12)), (2, .int (nI t))]) d_R_added_194 (by decide) rfl ?_
            refine x_iload (pc := 196) K 0 d_R_added_196 rfl ?_
            refine x_if_eq (pc := 198) K (tgt := 214) d_R_added_198 (by decide) (fun _ => ?_) (fun q => absurd q (by decide))
            refine x_iinc (pc := 214) K (v := nI (8 * (12 + t) + (i + 1))) (lv' := [(4, .int (nI (8 * (12 + t) + (i + 1)))), (6, .int 0), (5, .int V), (3, .int (nI (12 + t))), (0, .ref (w.2.2 + 278)), (1, .int (nI 12)), (2, .int (nI t))]) 2 d_R_added_214 rfl (nI_1 _) (by decide) rfl ?_
            refine x_goto (pc := 217) K (tgt := 11) d_R_added_217 (by decide) ?_
            refine x_lv [0, 3, 4, 5, 6] rfl ?_
            rw [cIf_f (show ¬ qAd X2.1 12 (8 * (12 + t) + i) V from by unfold qAd; clear hf hX hX1 ih hv; grind)] at hf
            exact ih (i + 1) _ (by omega) (by omega) hX1 (by rw [← hX2, mFd_rd (by decide) (by decide)]; exact hc) hf
          · skip
            refine x_iload (pc := 118) K 1 d_R_added_118 rfl ?_
            refine x_if_lt (pc := 120) K (tgt := 140) d_R_added_120 (by decide) (fun c120 => ?_) (fun c120 => ?_)
            · skip
              refine x_iconst (pc := 140) K (v := 0) d_R_added_140 (by decide) ?_
              refine x_istore (pc := 141) K (lv' := [(6, .int 0), (5, .int V), (4, .int (nI (8 * (12 + t) + i))), (3, .int (nI (12 + t))), (0, .ref (w.2.2 + 278)), (1, .int (nI 12)), (2, .int (nI t))]) d_R_added_141 (by decide) rfl ?_
              refine x_iload (pc := 143) K 0 d_R_added_143 rfl ?_
              refine x_if_eq (pc := 145) K (tgt := 193) d_R_added_145 (by decide) (fun _ => ?_) (fun q => absurd q (by decide))
              refine x_iconst (pc := 193) K (v := 0) d_R_added_193 (by decide) ?_
              refine x_istore (pc := 194) K (lv' := [(6, .int 0), (5, .int V), (4, .int (nI (8 * (12 + t) + i))), (3, .int (nI (12 + t))), (0, .ref (w.2.2 + 278)), (1, .int (nI 12)), (2, .int (nI t))]) d_R_added_194 (by decide) rfl ?_
              refine x_iload (pc := 196) K 0 d_R_added_196 rfl ?_
              refine x_if_eq (pc := 198) K (tgt := 214) d_R_added_198 (by decide) (fun _ => ?_) (fun q => absurd q (by decide))
              refine x_iinc (pc := 214) K (v := nI (8 * (12 + t) + (i + 1))) (lv' := [(4, .int (nI (8 * (12 + t) + (i + 1)))), (6, .int 0), (5, .int V), (3, .int (nI (12 + t))), (0, .ref (w.2.2 + 278)), (1, .int (nI 12)), (2, .int (nI t))]) 2 d_R_added_214 rfl (nI_1 _) (by decide) rfl ?_
              refine x_goto (pc := 217) K (tgt := 11) d_R_added_217 (by decide) ?_
              refine x_lv [0, 3, 4, 5, 6] rfl ?_
              rw [cIf_f (show ¬ qAd X2.1 12 (8 * (12 + t) + i) V from by unfold qAd; clear hf hX hX1 ih hv; grind)] at hf
              exact ih (i + 1) _ (by omega) (by omega) hX1 (by rw [← hX2, mFd_rd (by decide) (by decide)]; exact hc) hf
            · skip
              have hv9 := hv.resolve_left c120
              have hv2 := hv9.2
              refine x_aload_n (pc := 123) K 4 d_R_added_123 rfl ?_
              refine x_getr (pc := 124) K (n := 278) (n' := 288) (k := 9) (zlt shR) shR rfl hX1.1.r288 rfl (by decide) (fun _ q => zmem (uw_R _ q)) (zmem lk_R_38) d_R_added_124 ?_
              refine x_iload (pc := 127) K 1 d_R_added_127 rfl ?_
              refine x_iald (pc := 129) K (n := 288) (j := ix V) hv9.1 (by omega) (zlt sh288) sh288 rfl (by decide) d_R_added_129 ?_
              refine x_iconst (pc := 130) K (v := 3) d_R_added_130 (by decide) ?_
              refine x_iand (pc := 131) K d_R_added_131 ?_
              refine x_iconst (pc := 132) K (v := 2) d_R_added_132 (by decide) ?_
              refine x_icmp_lt (pc := 133) K (tgt := 140) d_R_added_133 (by decide) (fun c133 => ?_) (fun c133 => ?_)
              · skip
                refine x_iconst (pc := 140) K (v := 0) d_R_added_140 (by decide) ?_
                refine x_istore (pc := 141) K (lv' := [(6, .int 0), (5, .int V), (4, .int (nI (8 * (12 + t) + i))), (3, .int (nI (12 + t))), (0, .ref (w.2.2 + 278)), (1, .int (nI 12)), (2, .int (nI t))]) d_R_added_141 (by decide) rfl ?_
                refine x_iload (pc := 143) K 0 d_R_added_143 rfl ?_
                refine x_if_eq (pc := 145) K (tgt := 193) d_R_added_145 (by decide) (fun _ => ?_) (fun q => absurd q (by decide))
                refine x_iconst (pc := 193) K (v := 0) d_R_added_193 (by decide) ?_
                refine x_istore (pc := 194) K (lv' := [(6, .int 0), (5, .int V), (4, .int (nI (8 * (12 + t) + i))), (3, .int (nI (12 + t))), (0, .ref (w.2.2 + 278)), (1, .int (nI 12)), (2, .int (nI t))]) d_R_added_194 (by decide) rfl ?_
                refine x_iload (pc := 196) K 0 d_R_added_196 rfl ?_
                refine x_if_eq (pc := 198) K (tgt := 214) d_R_added_198 (by decide) (fun _ => ?_) (fun q => absurd q (by decide))
                refine x_iinc (pc := 214) K (v := nI (8 * (12 + t) + (i + 1))) (lv' := [(4, .int (nI (8 * (12 + t) + (i + 1)))), (6, .int 0), (5, .int V), (3, .int (nI (12 + t))), (0, .ref (w.2.2 + 278)), (1, .int (nI 12)), (2, .int (nI t))]) 2 d_R_added_214 rfl (nI_1 _) (by decide) rfl ?_
                refine x_goto (pc := 217) K (tgt := 11) d_R_added_217 (by decide) ?_
                refine x_lv [0, 3, 4, 5, 6] rfl ?_
                rw [cIf_f (show ¬ qAd X2.1 12 (8 * (12 + t) + i) V from by unfold qAd; clear hf hX hX1 ih hv; grind)] at hf
                exact ih (i + 1) _ (by omega) (by omega) hX1 (by rw [← hX2, mFd_rd (by decide) (by decide)]; exact hc) hf
              · skip
                refine x_iconst (pc := 136) K (v := 1) d_R_added_136 (by decide) ?_
                refine x_goto (pc := 137) K (tgt := 141) d_R_added_137 (by decide) ?_
                refine x_istore (pc := 141) K (lv' := [(6, .int 1), (5, .int V), (4, .int (nI (8 * (12 + t) + i))), (3, .int (nI (12 + t))), (0, .ref (w.2.2 + 278)), (1, .int (nI 12)), (2, .int (nI t))]) d_R_added_141 (by decide) rfl ?_
                refine x_iload (pc := 143) K 0 d_R_added_143 rfl ?_
                refine x_if_eq (pc := 145) K (tgt := 193) d_R_added_145 (by decide) (fun q => absurd q (by decide)) (fun _ => ?_)
                refine x_aload_n (pc := 148) K 4 d_R_added_148 rfl ?_
                refine x_getr (pc := 149) K (n := 278) (n' := 288) (k := 9) (zlt shR) shR rfl hX1.1.r288 rfl (by decide) (fun _ q => zmem (uw_R _ q)) (zmem lk_R_38) d_R_added_149 ?_
                refine x_iload (pc := 152) K 2 d_R_added_152 rfl ?_
                refine x_iald (pc := 154) K (n := 288) (j := 8 * (12 + t) + i) rfl (by omega) (zlt sh288) sh288 rfl (by decide) d_R_added_154 ?_
                refine x_iconst (pc := 155) K (v := 3) d_R_added_155 (by decide) ?_
                refine x_iand (pc := 156) K d_R_added_156 ?_
                refine x_aload_n (pc := 157) K 4 d_R_added_157 rfl ?_
                refine x_getr (pc := 158) K (n := 278) (n' := 288) (k := 9) (zlt shR) shR rfl hX1.1.r288 rfl (by decide) (fun _ q => zmem (uw_R _ q)) (zmem lk_R_38) d_R_added_158 ?_
                refine x_iload (pc := 161) K 1 d_R_added_161 rfl ?_
                refine x_iald (pc := 163) K (n := 288) (j := ix V) hv9.1 (by omega) (zlt sh288) sh288 rfl (by decide) d_R_added_163 ?_
                refine x_iconst (pc := 164) K (v := 3) d_R_added_164 (by decide) ?_
                refine x_iand (pc := 165) K d_R_added_165 ?_
                refine x_icmp_lt (pc := 166) K (tgt := 189) d_R_added_166 (by decide) (fun c166 => ?_) (fun c166 => ?_)
                · skip
                  refine x_iconst (pc := 189) K (v := 1) d_R_added_189 (by decide) ?_
                  refine x_goto (pc := 190) K (tgt := 194) d_R_added_190 (by decide) ?_
                  refine x_istore (pc := 194) K (lv' := [(6, .int 1), (5, .int V), (4, .int (nI (8 * (12 + t) + i))), (3, .int (nI (12 + t))), (0, .ref (w.2.2 + 278)), (1, .int (nI 12)), (2, .int (nI t))]) d_R_added_194 (by decide) rfl ?_
                  refine x_iload (pc := 196) K 0 d_R_added_196 rfl ?_
                  refine x_if_eq (pc := 198) K (tgt := 214) d_R_added_198 (by decide) (fun q => absurd q (by decide)) (fun _ => ?_)
                  refine x_aload_n (pc := 201) K 4 d_R_added_201 rfl ?_
                  refine x_iload_n (pc := 202) K 5 d_R_added_202 rfl ?_
                  refine x_iload_n (pc := 203) K 6 d_R_added_203 rfl ?_
                  refine x_iload (pc := 204) K 2 d_R_added_204 rfl ?_
                  refine x_bipush (pc := 206) K (v := nI 8) d_R_added_206 (by decide) ?_
                  refine x_iload_n (pc := 208) K 3 d_R_added_208 rfl ?_
                  refine x_imul (pc := 209) K d_R_added_209 ?_
                  refine x_eqi (y := nI (8 * (12 + t))) (pk_mul _ _) ?_
                  refine x_isub (pc := 210) K d_R_added_210 ?_
                  refine x_eqi (y := nI i) (by rw [pk_sub (by omega), show 8 * (12 + t) + i - 8 * (12 + t) = i by omega]) ?_
                  refine x_callVv (pc := 211) K (As := [.int (nI 12), .int (nI t), .int (nI i)]) (rest := []) (c_R_tell l w X2 o hX1.1 12 t (by omega) (by omega) (nI i)) (zcwV K.ts lk_R_150 im_R_tell se_R_tell ii_R co_R_tell pd_R_tell ⟨rfl, rfl⟩ ⟨by decide, by decide⟩) (zlt shR) shR rfl rfl rfl (Nat.le_of_ble_eq_true rfl) ⟨Nat.zero_le _, Nat.zero_le _⟩ d_R_added_211 ?_
                  refine x_iinc (pc := 214) K (v := nI (8 * (12 + t) + (i + 1))) (lv' := [(4, .int (nI (8 * (12 + t) + (i + 1)))), (6, .int 1), (5, .int V), (3, .int (nI (12 + t))), (0, .ref (w.2.2 + 278)), (1, .int (nI 12)), (2, .int (nI t))]) 2 d_R_added_214 rfl (nI_1 _) (by decide) rfl ?_
                  refine x_goto (pc := 217) K (tgt := 11) d_R_added_217 (by decide) ?_
                  refine x_lv [0, 3, 4, 5, 6] rfl ?_
                  rw [cIf_t (show qAd X2.1 12 (8 * (12 + t) + i) V from by unfold qAd; clear hf hX hX1 ih hv; grind)] at hf
                  exact ih (i + 1) _ (by omega) (by omega) (mOk_kp hX1 tel_kp) (by rw [tel_kp.1 285 (12 + t) (by omega) (by omega), ← hX2, mFd_rd (by decide) (by decide)]; exact hc) hf
                · skip
                  refine x_aload_n (pc := 169) K 4 d_R_added_169 rfl ?_
                  refine x_getr (pc := 170) K (n := 278) (n' := 288) (k := 9) (zlt shR) shR rfl hX1.1.r288 rfl (by decide) (fun _ q => zmem (uw_R _ q)) (zmem lk_R_38) d_R_added_170 ?_
                  refine x_iload (pc := 173) K 2 d_R_added_173 rfl ?_
                  refine x_iald (pc := 175) K (n := 288) (j := 8 * (12 + t) + i) rfl (by omega) (zlt sh288) sh288 rfl (by decide) d_R_added_175 ?_
                  refine x_aload_n (pc := 176) K 4 d_R_added_176 rfl ?_
                  refine x_getr (pc := 177) K (n := 278) (n' := 288) (k := 9) (zlt shR) shR rfl hX1.1.r288 rfl (by decide) (fun _ q => zmem (uw_R _ q)) (zmem lk_R_38) d_R_added_177 ?_
                  refine x_iload (pc := 180) K 1 d_R_added_180 rfl ?_
                  refine x_iald (pc := 182) K (n := 288) (j := ix V) hv9.1 (by omega) (zlt sh288) sh288 rfl (by decide) d_R_added_182 ?_
                  refine x_ixor (pc := 183) K d_R_added_183 ?_
                  refine x_iconst (pc := 184) K (v := 4) d_R_added_184 (by decide) ?_
                  refine x_iand (pc := 185) K d_R_added_185 ?_
                  refine x_if_eq (pc := 186) K (tgt := 193) d_R_added_186 (by decide) (fun c186 => ?_) (fun c186 => ?_)
                  · skip
                    refine x_iconst (pc := 193) K (v := 0) d_R_added_193 (by decide) ?_
                    refine x_istore (pc := 194) K (lv' := [(6, .int 0), (5, .int V), (4, .int (nI (8 * (12 + t) + i))), (3, .int (nI (12 + t))), (0, .ref (w.2.2 + 278)), (1, .int (nI 12)), (2, .int (nI t))]) d_R_added_194 (by decide) rfl ?_
                    refine x_iload (pc := 196) K 0 d_R_added_196 rfl ?_
                    refine x_if_eq (pc := 198) K (tgt := 214) d_R_added_198 (by decide) (fun _ => ?_) (fun q => absurd q (by decide))
                    refine x_iinc (pc := 214) K (v := nI (8 * (12 + t) + (i + 1))) (lv' := [(4, .int (nI (8 * (12 + t) + (i + 1)))), (6, .int 0), (5, .int V), (3, .int (nI (12 + t))), (0, .ref (w.2.2 + 278)), (1, .int (nI 12)), (2, .int (nI t))]) 2 d_R_added_214 rfl (nI_1 _) (by decide) rfl ?_
                    refine x_goto (pc := 217) K (tgt := 11) d_R_added_217 (by decide) ?_
                    refine x_lv [0, 3, 4, 5, 6] rfl ?_
                    rw [cIf_f (show ¬ qAd X2.1 12 (8 * (12 + t) + i) V from by unfold qAd; clear hf hX hX1 ih hv; grind)] at hf
                    exact ih (i + 1) _ (by omega) (by omega) hX1 (by rw [← hX2, mFd_rd (by decide) (by decide)]; exact hc) hf
                  · skip
                    refine x_iconst (pc := 189) K (v := 1) d_R_added_189 (by decide) ?_
                    refine x_goto (pc := 190) K (tgt := 194) d_R_added_190 (by decide) ?_
                    refine x_istore (pc := 194) K (lv' := [(6, .int 1), (5, .int V), (4, .int (nI (8 * (12 + t) + i))), (3, .int (nI (12 + t))), (0, .ref (w.2.2 + 278)), (1, .int (nI 12)), (2, .int (nI t))]) d_R_added_194 (by decide) rfl ?_
                    refine x_iload (pc := 196) K 0 d_R_added_196 rfl ?_
                    refine x_if_eq (pc := 198) K (tgt := 214) d_R_added_198 (by decide) (fun q => absurd q (by decide)) (fun _ => ?_)
                    refine x_aload_n (pc := 201) K 4 d_R_added_201 rfl ?_
                    refine x_iload_n (pc := 202) K 5 d_R_added_202 rfl ?_
                    refine x_iload_n (pc := 203) K 6 d_R_added_203 rfl ?_
                    refine x_iload (pc := 204) K 2 d_R_added_204 rfl ?_
                    refine x_bipush (pc := 206) K (v := nI 8) d_R_added_206 (by decide) ?_
                    refine x_iload_n (pc := 208) K 3 d_R_added_208 rfl ?_
                    refine x_imul (pc := 209) K d_R_added_209 ?_
                    refine x_eqi (y := nI (8 * (12 + t))) (pk_mul _ _) ?_
                    refine x_isub (pc := 210) K d_R_added_210 ?_
                    refine x_eqi (y := nI i) (by rw [pk_sub (by omega), show 8 * (12 + t) + i - 8 * (12 + t) = i by omega]) ?_
                    refine x_callVv (pc := 211) K (As := [.int (nI 12), .int (nI t), .int (nI i)]) (rest := []) (c_R_tell l w X2 o hX1.1 12 t (by omega) (by omega) (nI i)) (zcwV K.ts lk_R_150 im_R_tell se_R_tell ii_R co_R_tell pd_R_tell ⟨rfl, rfl⟩ ⟨by decide, by decide⟩) (zlt shR) shR rfl rfl rfl (Nat.le_of_ble_eq_true rfl) ⟨Nat.zero_le _, Nat.zero_le _⟩ d_R_added_211 ?_
                    refine x_iinc (pc := 214) K (v := nI (8 * (12 + t) + (i + 1))) (lv' := [(4, .int (nI (8 * (12 + t) + (i + 1)))), (6, .int 1), (5, .int V), (3, .int (nI (12 + t))), (0, .ref (w.2.2 + 278)), (1, .int (nI 12)), (2, .int (nI t))]) 2 d_R_added_214 rfl (nI_1 _) (by decide) rfl ?_
                    refine x_goto (pc := 217) K (tgt := 11) d_R_added_217 (by decide) ?_
                    refine x_lv [0, 3, 4, 5, 6] rfl ?_
                    rw [cIf_t (show qAd X2.1 12 (8 * (12 + t) + i) V from by unfold qAd; clear hf hX hX1 ih hv; grind)] at hf
                    exact ih (i + 1) _ (by omega) (by omega) (mOk_kp hX1 tel_kp) (by rw [tel_kp.1 285 (12 + t) (by omega) (by omega), ← hX2, mFd_rd (by decide) (by decide)]; exact hc) hf
        · skip
          refine x_iload (pc := 89) K 0 d_R_added_89 rfl ?_
          refine x_if_ge (pc := 91) K (tgt := 98) d_R_added_91 (by decide) (fun c91 => ?_) (fun c91 => ?_)
          · skip
            refine x_iconst (pc := 98) K (v := 0) d_R_added_98 (by decide) ?_
            refine x_istore (pc := 99) K (lv' := [(6, .int 0), (5, .int V), (4, .int (nI (8 * (12 + t) + i))), (3, .int (nI (12 + t))), (0, .ref (w.2.2 + 278)), (1, .int (nI 12)), (2, .int (nI t))]) d_R_added_99 (by decide) rfl ?_
            refine x_iload_n (pc := 101) K 5 d_R_added_101 rfl ?_
            refine x_bipush (pc := 102) K (v := nI 12) d_R_added_102 (by decide) ?_
            refine x_icmp_ne (pc := 104) K (tgt := 196) d_R_added_104 (by decide) (fun q => absurd q (by decide)) (fun _ => ?_)
            refine x_aload_n (pc := 107) K 4 d_R_added_107 rfl ?_
            refine x_getr (pc := 108) K (n := 278) (n' := 286) (k := 7) (zlt shR) shR rfl hX1.1.r286 rfl (by decide) (fun _ q => zmem (uw_R _ q)) (zmem lk_R_32) d_R_added_108 ?_
            refine x_iload (pc := 111) K 2 d_R_added_111 rfl ?_
            refine x_iald (pc := 113) K (n := 286) (j := 8 * (12 + t) + i) rfl (by omega) (zlt sh286) sh286 rfl (by decide) d_R_added_113 ?_
            refine x_iconst (pc := 114) K (v := 2) d_R_added_114 (by decide) ?_
            refine x_icmp_ge (pc := 115) K (tgt := 140) d_R_added_115 (by decide) (fun c115 => ?_) (fun c115 => ?_)
            · skip
              refine x_iconst (pc := 140) K (v := 0) d_R_added_140 (by decide) ?_
              refine x_istore (pc := 141) K (lv' := [(6, .int 0), (5, .int V), (4, .int (nI (8 * (12 + t) + i))), (3, .int (nI (12 + t))), (0, .ref (w.2.2 + 278)), (1, .int (nI 12)), (2, .int (nI t))]) d_R_added_141 (by decide) rfl ?_
              refine x_iload (pc := 143) K 0 d_R_added_143 rfl ?_
              refine x_if_eq (pc := 145) K (tgt := 193) d_R_added_145 (by decide) (fun _ => ?_) (fun q => absurd q (by decide))
              refine x_iconst (pc := 193) K (v := 0) d_R_added_193 (by decide) ?_
              refine x_istore (pc := 194) K (lv' := [(6, .int 0), (5, .int V), (4, .int (nI (8 * (12 + t) + i))), (3, .int (nI (12 + t))), (0, .ref (w.2.2 + 278)), (1, .int (nI 12)), (2, .int (nI t))]) d_R_added_194 (by decide) rfl ?_
              refine x_iload (pc := 196) K 0 d_R_added_196 rfl ?_
              refine x_if_eq (pc := 198) K (tgt := 214) d_R_added_198 (by decide) (fun _ => ?_) (fun q => absurd q (by decide))
              refine x_iinc (pc := 214) K (v := nI (8 * (12 + t) + (i + 1))) (lv' := [(4, .int (nI (8 * (12 + t) + (i + 1)))), (6, .int 0), (5, .int V), (3, .int (nI (12 + t))), (0, .ref (w.2.2 + 278)), (1, .int (nI 12)), (2, .int (nI t))]) 2 d_R_added_214 rfl (nI_1 _) (by decide) rfl ?_
              refine x_goto (pc := 217) K (tgt := 11) d_R_added_217 (by decide) ?_
              refine x_lv [0, 3, 4, 5, 6] rfl ?_
              rw [cIf_f (show ¬ qAd X2.1 12 (8 * (12 + t) + i) V from by unfold qAd; clear hf hX hX1 ih hv; grind)] at hf
              exact ih (i + 1) _ (by omega) (by omega) hX1 (by rw [← hX2, mFd_rd (by decide) (by decide)]; exact hc) hf
            · skip
              refine x_iload (pc := 118) K 1 d_R_added_118 rfl ?_
              refine x_if_lt (pc := 120) K (tgt := 140) d_R_added_120 (by decide) (fun c120 => ?_) (fun c120 => ?_)
              · skip
                refine x_iconst (pc := 140) K (v := 0) d_R_added_140 (by decide) ?_
                refine x_istore (pc := 141) K (lv' := [(6, .int 0), (5, .int V), (4, .int (nI (8 * (12 + t) + i))), (3, .int (nI (12 + t))), (0, .ref (w.2.2 + 278)), (1, .int (nI 12)), (2, .int (nI t))]) d_R_added_141 (by decide) rfl ?_
                refine x_iload (pc := 143) K 0 d_R_added_143 rfl ?_
                refine x_if_eq (pc := 145) K (tgt := 193) d_R_added_145 (by decide) (fun _ => ?_) (fun q => absurd q (by decide))
                refine x_iconst (pc := 193) K (v := 0) d_R_added_193 (by decide) ?_
                refine x_istore (pc := 194) K (lv' := [(6, .int 0), (5, .int V), (4, .int (nI (8 * (12 + t) + i))), (3, .int (nI (12 + t))), (0, .ref (w.2.2 + 278)), (1, .int (nI 12)), (2, .int (nI t))]) d_R_added_194 (by decide) rfl ?_
                refine x_iload (pc := 196) K 0 d_R_added_196 rfl ?_
                refine x_if_eq (pc := 198) K (tgt := 214) d_R_added_198 (by decide) (fun _ => ?_) (fun q => absurd q (by decide))
                refine x_iinc (pc := 214) K (v := nI (8 * (12 + t) + (i + 1))) (lv' := [(4, .int (nI (8 * (12 + t) + (i + 1)))), (6, .int 0), (5, .int V), (3, .int (nI (12 + t))), (0, .ref (w.2.2 + 278)), (1, .int (nI 12)), (2, .int (nI t))]) 2 d_R_added_214 rfl (nI_1 _) (by decide) rfl ?_
                refine x_goto (pc := 217) K (tgt := 11) d_R_added_217 (by decide) ?_
                refine x_lv [0, 3, 4, 5, 6] rfl ?_
                rw [cIf_f (show ¬ qAd X2.1 12 (8 * (12 + t) + i) V from by unfold qAd; clear hf hX hX1 ih hv; grind)] at hf
                exact ih (i + 1) _ (by omega) (by omega) hX1 (by rw [← hX2, mFd_rd (by decide) (by decide)]; exact hc) hf
              · skip
                have hv9 := hv.resolve_left c120
                have hv2 := hv9.2
                refine x_aload_n (pc := 123) K 4 d_R_added_123 rfl ?_
                refine x_getr (pc := 124) K (n := 278) (n' := 288) (k := 9) (zlt shR) shR rfl hX1.1.r288 rfl (by decide) (fun _ q => zmem (uw_R _ q)) (zmem lk_R_38) d_R_added_124 ?_
                refine x_iload (pc := 127) K 1 d_R_added_127 rfl ?_
                refine x_iald (pc := 129) K (n := 288) (j := ix V) hv9.1 (by omega) (zlt sh288) sh288 rfl (by decide) d_R_added_129 ?_
                refine x_iconst (pc := 130) K (v := 3) d_R_added_130 (by decide) ?_
                refine x_iand (pc := 131) K d_R_added_131 ?_
                refine x_iconst (pc := 132) K (v := 2) d_R_added_132 (by decide) ?_
                refine x_icmp_lt (pc := 133) K (tgt := 140) d_R_added_133 (by decide) (fun c133 => ?_) (fun c133 => ?_)
                · skip
                  refine x_iconst (pc := 140) K (v := 0) d_R_added_140 (by decide) ?_
                  refine x_istore (pc := 141) K (lv' := [(6, .int 0), (5, .int V), (4, .int (nI (8 * (12 + t) + i))), (3, .int (nI (12 + t))), (0, .ref (w.2.2 + 278)), (1, .int (nI 12)), (2, .int (nI t))]) d_R_added_141 (by decide) rfl ?_
                  refine x_iload (pc := 143) K 0 d_R_added_143 rfl ?_
                  refine x_if_eq (pc := 145) K (tgt := 193) d_R_added_145 (by decide) (fun _ => ?_) (fun q => absurd q (by decide))
                  refine x_iconst (pc := 193) K (v := 0) d_R_added_193 (by decide) ?_
                  refine x_istore (pc := 194) K (lv' := [(6, .int 0), (5, .int V), (4, .int (nI (8 * (12 + t) + i))), (3, .int (nI (12 + t))), (0, .ref (w.2.2 + 278)), (1, .int (nI 12)), (2, .int (nI t))]) d_R_added_194 (by decide) rfl ?_
                  refine x_iload (pc := 196) K 0 d_R_added_196 rfl ?_
                  refine x_if_eq (pc := 198) K (tgt := 214) d_R_added_198 (by decide) (fun _ => ?_) (fun q => absurd q (by decide))
                  refine x_iinc (pc := 214) K (v := nI (8 * (12 + t) + (i + 1))) (lv' := [(4, .int (nI (8 * (12 + t) + (i + 1)))), (6, .int 0), (5, .int V), (3, .int (nI (12 + t))), (0, .ref (w.2.2 + 278)), (1, .int (nI 12)), (2, .int (nI t))]) 2 d_R_added_214 rfl (nI_1 _) (by decide) rfl ?_
                  refine x_goto (pc := 217) K (tgt := 11) d_R_added_217 (by decide) ?_
                  refine x_lv [0, 3, 4, 5, 6] rfl ?_
                  rw [cIf_f (show ¬ qAd X2.1 12 (8 * (12 + t) + i) V from by unfold qAd; clear hf hX hX1 ih hv; grind)] at hf
                  exact ih (i + 1) _ (by omega) (by omega) hX1 (by rw [← hX2, mFd_rd (by decide) (by decide)]; exact hc) hf
                · skip
                  refine x_iconst (pc := 136) K (v := 1) d_R_added_136 (by decide) ?_
                  refine x_goto (pc := 137) K (tgt := 141) d_R_added_137 (by decide) ?_
                  refine x_istore (pc := 141) K (lv' := [(6, .int 1), (5, .int V), (4, .int (nI (8 * (12 + t) + i))), (3, .int (nI (12 + t))), (0, .ref (w.2.2 + 278)), (1, .int (nI 12)), (2, .int (nI t))]) d_R_added_141 (by decide) rfl ?_
                  refine x_iload (pc := 143) K 0 d_R_added_143 rfl ?_
                  refine x_if_eq (pc := 145) K (tgt := 193) d_R_added_145 (by decide) (fun q => absurd q (by decide)) (fun _ => ?_)
                  refine x_aload_n (pc := 148) K 4 d_R_added_148 rfl ?_
                  refine x_getr (pc := 149) K (n := 278) (n' := 288) (k := 9) (zlt shR) shR rfl hX1.1.r288 rfl (by decide) (fun _ q => zmem (uw_R _ q)) (zmem lk_R_38) d_R_added_149 ?_
                  refine x_iload (pc := 152) K 2 d_R_added_152 rfl ?_
                  refine x_iald (pc := 154) K (n := 288) (j := 8 * (12 + t) + i) rfl (by omega) (zlt sh288) sh288 rfl (by decide) d_R_added_154 ?_
                  refine x_iconst (pc := 155) K (v := 3) d_R_added_155 (by decide) ?_
                  refine x_iand (pc := 156) K d_R_added_156 ?_
                  refine x_aload_n (pc := 157) K 4 d_R_added_157 rfl ?_
                  refine x_getr (pc := 158) K (n := 278) (n' := 288) (k := 9) (zlt shR) shR rfl hX1.1.r288 rfl (by decide) (fun _ q => zmem (uw_R _ q)) (zmem lk_R_38) d_R_added_158 ?_
                  refine x_iload (pc := 161) K 1 d_R_added_161 rfl ?_
                  refine x_iald (pc := 163) K (n := 288) (j := ix V) hv9.1 (by omega) (zlt sh288) sh288 rfl (by decide) d_R_added_163 ?_
                  refine x_iconst (pc := 164) K (v := 3) d_R_added_164 (by decide) ?_
                  refine x_iand (pc := 165) K d_R_added_165 ?_
                  refine x_icmp_lt (pc := 166) K (tgt := 189) d_R_added_166 (by decide) (fun c166 => ?_) (fun c166 => ?_)
                  · skip
                    refine x_iconst (pc := 189) K (v := 1) d_R_added_189 (by decide) ?_
                    refine x_goto (pc := 190) K (tgt := 194) d_R_added_190 (by decide) ?_
                    refine x_istore (pc := 194) K (lv' := [(6, .int 1), (5, .int V), (4, .int (nI (8 * (12 + t) + i))), (3, .int (nI (12 + t))), (0, .ref (w.2.2 + 278)), (1, .int (nI 12)), (2, .int (nI t))]) d_R_added_194 (by decide) rfl ?_
                    refine x_iload (pc := 196) K 0 d_R_added_196 rfl ?_
                    refine x_if_eq (pc := 198) K (tgt := 214) d_R_added_198 (by decide) (fun q => absurd q (by decide)) (fun _ => ?_)
                    refine x_aload_n (pc := 201) K 4 d_R_added_201 rfl ?_
                    refine x_iload_n (pc := 202) K 5 d_R_added_202 rfl ?_
                    refine x_iload_n (pc := 203) K 6 d_R_added_203 rfl ?_
                    refine x_iload (pc := 204) K 2 d_R_added_204 rfl ?_
                    refine x_bipush (pc := 206) K (v := nI 8) d_R_added_206 (by decide) ?_
                    refine x_iload_n (pc := 208) K 3 d_R_added_208 rfl ?_
                    refine x_imul (pc := 209) K d_R_added_209 ?_
                    refine x_eqi (y := nI (8 * (12 + t))) (pk_mul _ _) ?_
                    refine x_isub (pc := 210) K d_R_added_210 ?_
                    refine x_eqi (y := nI i) (by rw [pk_sub (by omega), show 8 * (12 + t) + i - 8 * (12 + t) = i by omega]) ?_
                    refine x_callVv (pc := 211) K (As := [.int (nI 12), .int (nI t), .int (nI i)]) (rest := []) (c_R_tell l w X2 o hX1.1 12 t (by omega) (by omega) (nI i)) (zcwV K.ts lk_R_150 im_R_tell se_R_tell ii_R co_R_tell pd_R_tell ⟨rfl, rfl⟩ ⟨by decide, by decide⟩) (zlt shR) shR rfl rfl rfl (Nat.le_of_ble_eq_true rfl) ⟨Nat.zero_le _, Nat.zero_le _⟩ d_R_added_211 ?_
                    refine x_iinc (pc := 214) K (v := nI (8 * (12 + t) + (i + 1))) (lv' := [(4, .int (nI (8 * (12 + t) + (i + 1)))), (6, .int 1), (5, .int V), (3, .int (nI (12 + t))), (0, .ref (w.2.2 + 278)), (1, .int (nI 12)), (2, .int (nI t))]) 2 d_R_added_214 rfl (nI_1 _) (by decide) rfl ?_
                    refine x_goto (pc := 217) K (tgt := 11) d_R_added_217 (by decide) ?_
                    refine x_lv [0, 3, 4, 5, 6] rfl ?_
                    rw [cIf_t (show qAd X2.1 12 (8 * (12 + t) + i) V from by unfold qAd; clear hf hX hX1 ih hv; grind)] at hf
                    exact ih (i + 1) _ (by omega) (by omega) (mOk_kp hX1 tel_kp) (by rw [tel_kp.1 285 (12 + t) (by omega) (by omega), ← hX2, mFd_rd (by decide) (by decide)]; exact hc) hf
                  · skip
                    refine x_aload_n (pc := 169) K 4 d_R_added_169 rfl ?_
                    refine x_getr (pc := 170) K (n := 278) (n' := 288) (k := 9) (zlt shR) shR rfl hX1.1.r288 rfl (by decide) (fun _ q => zmem (uw_R _ q)) (zmem lk_R_38) d_R_added_170 ?_
                    refine x_iload (pc := 173) K 2 d_R_added_173 rfl ?_
                    refine x_iald (pc := 175) K (n := 288) (j := 8 * (12 + t) + i) rfl (by omega) (zlt sh288) sh288 rfl (by decide) d_R_added_175 ?_
                    refine x_aload_n (pc := 176) K 4 d_R_added_176 rfl ?_
                    refine x_getr (pc := 177) K (n := 278) (n' := 288) (k := 9) (zlt shR) shR rfl hX1.1.r288 rfl (by decide) (fun _ q => zmem (uw_R _ q)) (zmem lk_R_38) d_R_added_177 ?_
                    refine x_iload (pc := 180) K 1 d_R_added_180 rfl ?_
                    refine x_iald (pc := 182) K (n := 288) (j := ix V) hv9.1 (by omega) (zlt sh288) sh288 rfl (by decide) d_R_added_182 ?_
                    refine x_ixor (pc := 183) K d_R_added_183 ?_
                    refine x_iconst (pc := 184) K (v := 4) d_R_added_184 (by decide) ?_
                    refine x_iand (pc := 185) K d_R_added_185 ?_
                    refine x_if_eq (pc := 186) K (tgt := 193) d_R_added_186 (by decide) (fun c186 => ?_) (fun c186 => ?_)
                    · skip
                      refine x_iconst (pc := 193) K (v := 0) d_R_added_193 (by decide) ?_
                      refine x_istore (pc := 194) K (lv' := [(6, .int 0), (5, .int V), (4, .int (nI (8 * (12 + t) + i))), (3, .int (nI (12 + t))), (0, .ref (w.2.2 + 278)), (1, .int (nI 12)), (2, .int (nI t))]) d_R_added_194 (by decide) rfl ?_
                      refine x_iload (pc := 196) K 0 d_R_added_196 rfl ?_
                      refine x_if_eq (pc := 198) K (tgt := 214) d_R_added_198 (by decide) (fun _ => ?_) (fun q => absurd q (by decide))
                      refine x_iinc (pc := 214) K (v := nI (8 * (12 + t) + (i + 1))) (lv' := [(4, .int (nI (8 * (12 + t) + (i + 1)))), (6, .int 0), (5, .int V), (3, .int (nI (12 + t))), (0, .ref (w.2.2 + 278)), (1, .int (nI 12)), (2, .int (nI t))]) 2 d_R_added_214 rfl (nI_1 _) (by decide) rfl ?_
                      refine x_goto (pc := 217) K (tgt := 11) d_R_added_217 (by decide) ?_
                      refine x_lv [0, 3, 4, 5, 6] rfl ?_
                      rw [cIf_f (show ¬ qAd X2.1 12 (8 * (12 + t) + i) V from by unfold qAd; clear hf hX hX1 ih hv; grind)] at hf
                      exact ih (i + 1) _ (by omega) (by omega) hX1 (by rw [← hX2, mFd_rd (by decide) (by decide)]; exact hc) hf
                    · skip
                      refine x_iconst (pc := 189) K (v := 1) d_R_added_189 (by decide) ?_
                      refine x_goto (pc := 190) K (tgt := 194) d_R_added_190 (by decide) ?_
                      refine x_istore (pc := 194) K (lv' := [(6, .int 1), (5, .int V), (4, .int (nI (8 * (12 + t) + i))), (3, .int (nI (12 + t))), (0, .ref (w.2.2 + 278)), (1, .int (nI 12)), (2, .int (nI t))]) d_R_added_194 (by decide) rfl ?_
                      refine x_iload (pc := 196) K 0 d_R_added_196 rfl ?_
                      refine x_if_eq (pc := 198) K (tgt := 214) d_R_added_198 (by decide) (fun q => absurd q (by decide)) (fun _ => ?_)
                      refine x_aload_n (pc := 201) K 4 d_R_added_201 rfl ?_
                      refine x_iload_n (pc := 202) K 5 d_R_added_202 rfl ?_
                      refine x_iload_n (pc := 203) K 6 d_R_added_203 rfl ?_
                      refine x_iload (pc := 204) K 2 d_R_added_204 rfl ?_
                      refine x_bipush (pc := 206) K (v := nI 8) d_R_added_206 (by decide) ?_
                      refine x_iload_n (pc := 208) K 3 d_R_added_208 rfl ?_
                      refine x_imul (pc := 209) K d_R_added_209 ?_
                      refine x_eqi (y := nI (8 * (12 + t))) (pk_mul _ _) ?_
                      refine x_isub (pc := 210) K d_R_added_210 ?_
                      refine x_eqi (y := nI i) (by rw [pk_sub (by omega), show 8 * (12 + t) + i - 8 * (12 + t) = i by omega]) ?_
                      refine x_callVv (pc := 211) K (As := [.int (nI 12), .int (nI t), .int (nI i)]) (rest := []) (c_R_tell l w X2 o hX1.1 12 t (by omega) (by omega) (nI i)) (zcwV K.ts lk_R_150 im_R_tell se_R_tell ii_R co_R_tell pd_R_tell ⟨rfl, rfl⟩ ⟨by decide, by decide⟩) (zlt shR) shR rfl rfl rfl (Nat.le_of_ble_eq_true rfl) ⟨Nat.zero_le _, Nat.zero_le _⟩ d_R_added_211 ?_
                      refine x_iinc (pc := 214) K (v := nI (8 * (12 + t) + (i + 1))) (lv' := [(4, .int (nI (8 * (12 + t) + (i + 1)))), (6, .int 1), (5, .int V), (3, .int (nI (12 + t))), (0, .ref (w.2.2 + 278)), (1, .int (nI 12)), (2, .int (nI t))]) 2 d_R_added_214 rfl (nI_1 _) (by decide) rfl ?_
                      refine x_goto (pc := 217) K (tgt := 11) d_R_added_217 (by decide) ?_
                      refine x_lv [0, 3, 4, 5, 6] rfl ?_
                      rw [cIf_t (show qAd X2.1 12 (8 * (12 + t) + i) V from by unfold qAd; clear hf hX hX1 ih hv; grind)] at hf
                      exact ih (i + 1) _ (by omega) (by omega) (mOk_kp hX1 tel_kp) (by rw [tel_kp.1 285 (12 + t) (by omega) (by omega), ← hX2, mFd_rd (by decide) (by decide)]; exact hc) hf
          · skip
            refine x_iconst (pc := 94) K (v := 1) d_R_added_94 (by decide) ?_
            refine x_goto (pc := 95) K (tgt := 99) d_R_added_95 (by decide) ?_
            refine x_istore (pc := 99) K (lv' := [(6, .int 1), (5, .int V), (4, .int (nI (8 * (12 + t) + i))), (3, .int (nI (12 + t))), (0, .ref (w.2.2 + 278)), (1, .int (nI 12)), (2, .int (nI t))]) d_R_added_99 (by decide) rfl ?_
            refine x_iload_n (pc := 101) K 5 d_R_added_101 rfl ?_
            refine x_bipush (pc := 102) K (v := nI 12) d_R_added_102 (by decide) ?_
            refine x_icmp_ne (pc := 104) K (tgt := 196) d_R_added_104 (by decide) (fun q => absurd q (by decide)) (fun _ => ?_)
            refine x_aload_n (pc := 107) K 4 d_R_added_107 rfl ?_
            refine x_getr (pc := 108) K (n := 278) (n' := 286) (k := 7) (zlt shR) shR rfl hX1.1.r286 rfl (by decide) (fun _ q => zmem (uw_R _ q)) (zmem lk_R_32) d_R_added_108 ?_
            refine x_iload (pc := 111) K 2 d_R_added_111 rfl ?_
            refine x_iald (pc := 113) K (n := 286) (j := 8 * (12 + t) + i) rfl (by omega) (zlt sh286) sh286 rfl (by decide) d_R_added_113 ?_
            refine x_iconst (pc := 114) K (v := 2) d_R_added_114 (by decide) ?_
            refine x_icmp_ge (pc := 115) K (tgt := 140) d_R_added_115 (by decide) (fun c115 => ?_) (fun c115 => ?_)
            · skip
              refine x_iconst (pc := 140) K (v := 0) d_R_added_140 (by decide) ?_
              refine x_istore (pc := 141) K (lv' := [(6, .int 0), (5, .int V), (4, .int (nI (8 * (12 + t) + i))), (3, .int (nI (12 + t))), (0, .ref (w.2.2 + 278)), (1, .int (nI 12)), (2, .int (nI t))]) d_R_added_141 (by decide) rfl ?_
              refine x_iload (pc := 143) K 0 d_R_added_143 rfl ?_
              refine x_if_eq (pc := 145) K (tgt := 193) d_R_added_145 (by decide) (fun _ => ?_) (fun q => absurd q (by decide))
              refine x_iconst (pc := 193) K (v := 0) d_R_added_193 (by decide) ?_
              refine x_istore (pc := 194) K (lv' := [(6, .int 0), (5, .int V), (4, .int (nI (8 * (12 + t) + i))), (3, .int (nI (12 + t))), (0, .ref (w.2.2 + 278)), (1, .int (nI 12)), (2, .int (nI t))]) d_R_added_194 (by decide) rfl ?_
              refine x_iload (pc := 196) K 0 d_R_added_196 rfl ?_
              refine x_if_eq (pc := 198) K (tgt := 214) d_R_added_198 (by decide) (fun _ => ?_) (fun q => absurd q (by decide))
              refine x_iinc (pc := 214) K (v := nI (8 * (12 + t) + (i + 1))) (lv' := [(4, .int (nI (8 * (12 + t) + (i + 1)))), (6, .int 0), (5, .int V), (3, .int (nI (12 + t))), (0, .ref (w.2.2 + 278)), (1, .int (nI 12)), (2, .int (nI t))]) 2 d_R_added_214 rfl (nI_1 _) (by decide) rfl ?_
              refine x_goto (pc := 217) K (tgt := 11) d_R_added_217 (by decide) ?_
              refine x_lv [0, 3, 4, 5, 6] rfl ?_
              rw [cIf_f (show ¬ qAd X2.1 12 (8 * (12 + t) + i) V from by unfold qAd; clear hf hX hX1 ih hv; grind)] at hf
              exact ih (i + 1) _ (by omega) (by omega) hX1 (by rw [← hX2, mFd_rd (by decide) (by decide)]; exact hc) hf
            · skip
              refine x_iload (pc := 118) K 1 d_R_added_118 rfl ?_
              refine x_if_lt (pc := 120) K (tgt := 140) d_R_added_120 (by decide) (fun c120 => ?_) (fun c120 => ?_)
              · skip
                refine x_iconst (pc := 140) K (v := 0) d_R_added_140 (by decide) ?_
                refine x_istore (pc := 141) K (lv' := [(6, .int 0), (5, .int V), (4, .int (nI (8 * (12 + t) + i))), (3, .int (nI (12 + t))), (0, .ref (w.2.2 + 278)), (1, .int (nI 12)), (2, .int (nI t))]) d_R_added_141 (by decide) rfl ?_
                refine x_iload (pc := 143) K 0 d_R_added_143 rfl ?_
                refine x_if_eq (pc := 145) K (tgt := 193) d_R_added_145 (by decide) (fun _ => ?_) (fun q => absurd q (by decide))
                refine x_iconst (pc := 193) K (v := 0) d_R_added_193 (by decide) ?_
                refine x_istore (pc := 194) K (lv' := [(6, .int 0), (5, .int V), (4, .int (nI (8 * (12 + t) + i))), (3, .int (nI (12 + t))), (0, .ref (w.2.2 + 278)), (1, .int (nI 12)), (2, .int (nI t))]) d_R_added_194 (by decide) rfl ?_
                refine x_iload (pc := 196) K 0 d_R_added_196 rfl ?_
                refine x_if_eq (pc := 198) K (tgt := 214) d_R_added_198 (by decide) (fun _ => ?_) (fun q => absurd q (by decide))
                refine x_iinc (pc := 214) K (v := nI (8 * (12 + t) + (i + 1))) (lv' := [(4, .int (nI (8 * (12 + t) + (i + 1)))), (6, .int 0), (5, .int V), (3, .int (nI (12 + t))), (0, .ref (w.2.2 + 278)), (1, .int (nI 12)), (2, .int (nI t))]) 2 d_R_added_214 rfl (nI_1 _) (by decide) rfl ?_
                refine x_goto (pc := 217) K (tgt := 11) d_R_added_217 (by decide) ?_
                refine x_lv [0, 3, 4, 5, 6] rfl ?_
                rw [cIf_f (show ¬ qAd X2.1 12 (8 * (12 + t) + i) V from by unfold qAd; clear hf hX hX1 ih hv; grind)] at hf
                exact ih (i + 1) _ (by omega) (by omega) hX1 (by rw [← hX2, mFd_rd (by decide) (by decide)]; exact hc) hf
              · skip
                have hv9 := hv.resolve_left c120
                have hv2 := hv9.2
                refine x_aload_n (pc := 123) K 4 d_R_added_123 rfl ?_
                refine x_getr (pc := 124) K (n := 278) (n' := 288) (k := 9) (zlt shR) shR rfl hX1.1.r288 rfl (by decide) (fun _ q => zmem (uw_R _ q)) (zmem lk_R_38) d_R_added_124 ?_
                refine x_iload (pc := 127) K 1 d_R_added_127 rfl ?_
                refine x_iald (pc := 129) K (n := 288) (j := ix V) hv9.1 (by omega) (zlt sh288) sh288 rfl (by decide) d_R_added_129 ?_
                refine x_iconst (pc := 130) K (v := 3) d_R_added_130 (by decide) ?_
                refine x_iand (pc := 131) K d_R_added_131 ?_
                refine x_iconst (pc := 132) K (v := 2) d_R_added_132 (by decide) ?_
                refine x_icmp_lt (pc := 133) K (tgt := 140) d_R_added_133 (by decide) (fun c133 => ?_) (fun c133 => ?_)
                · skip
                  refine x_iconst (pc := 140) K (v := 0) d_R_added_140 (by decide) ?_
                  refine x_istore (pc := 141) K (lv' := [(6, .int 0), (5, .int V), (4, .int (nI (8 * (12 + t) + i))), (3, .int (nI (12 + t))), (0, .ref (w.2.2 + 278)), (1, .int (nI 12)), (2, .int (nI t))]) d_R_added_141 (by decide) rfl ?_
                  refine x_iload (pc := 143) K 0 d_R_added_143 rfl ?_
                  refine x_if_eq (pc := 145) K (tgt := 193) d_R_added_145 (by decide) (fun _ => ?_) (fun q => absurd q (by decide))
                  refine x_iconst (pc := 193) K (v := 0) d_R_added_193 (by decide) ?_
                  refine x_istore (pc := 194) K (lv' := [(6, .int 0), (5, .int V), (4, .int (nI (8 * (12 + t) + i))), (3, .int (nI (12 + t))), (0, .ref (w.2.2 + 278)), (1, .int (nI 12)), (2, .int (nI t))]) d_R_added_194 (by decide) rfl ?_
                  refine x_iload (pc := 196) K 0 d_R_added_196 rfl ?_
                  refine x_if_eq (pc := 198) K (tgt := 214) d_R_added_198 (by decide) (fun _ => ?_) (fun q => absurd q (by decide))
                  refine x_iinc (pc := 214) K (v := nI (8 * (12 + t) + (i + 1))) (lv' := [(4, .int (nI (8 * (12 + t) + (i + 1)))), (6, .int 0), (5, .int V), (3, .int (nI (12 + t))), (0, .ref (w.2.2 + 278)), (1, .int (nI 12)), (2, .int (nI t))]) 2 d_R_added_214 rfl (nI_1 _) (by decide) rfl ?_
                  refine x_goto (pc := 217) K (tgt := 11) d_R_added_217 (by decide) ?_
                  refine x_lv [0, 3, 4, 5, 6] rfl ?_
                  rw [cIf_f (show ¬ qAd X2.1 12 (8 * (12 + t) + i) V from by unfold qAd; clear hf hX hX1 ih hv; grind)] at hf
                  exact ih (i + 1) _ (by omega) (by omega) hX1 (by rw [← hX2, mFd_rd (by decide) (by decide)]; exact hc) hf
                · skip
                  refine x_iconst (pc := 136) K (v := 1) d_R_added_136 (by decide) ?_
                  refine x_goto (pc := 137) K (tgt := 141) d_R_added_137 (by decide) ?_
                  refine x_istore (pc := 141) K (lv' := [(6, .int 1), (5, .int V), (4, .int (nI (8 * (12 + t) + i))), (3, .int (nI (12 + t))), (0, .ref (w.2.2 + 278)), (1, .int (nI 12)), (2, .int (nI t))]) d_R_added_141 (by decide) rfl ?_
                  refine x_iload (pc := 143) K 0 d_R_added_143 rfl ?_
                  refine x_if_eq (pc := 145) K (tgt := 193) d_R_added_145 (by decide) (fun q => absurd q (by decide)) (fun _ => ?_)
                  refine x_aload_n (pc := 148) K 4 d_R_added_148 rfl ?_
                  refine x_getr (pc := 149) K (n := 278) (n' := 288) (k := 9) (zlt shR) shR rfl hX1.1.r288 rfl (by decide) (fun _ q => zmem (uw_R _ q)) (zmem lk_R_38) d_R_added_149 ?_
                  refine x_iload (pc := 152) K 2 d_R_added_152 rfl ?_
                  refine x_iald (pc := 154) K (n := 288) (j := 8 * (12 + t) + i) rfl (by omega) (zlt sh288) sh288 rfl (by decide) d_R_added_154 ?_
                  refine x_iconst (pc := 155) K (v := 3) d_R_added_155 (by decide) ?_
                  refine x_iand (pc := 156) K d_R_added_156 ?_
                  refine x_aload_n (pc := 157) K 4 d_R_added_157 rfl ?_
                  refine x_getr (pc := 158) K (n := 278) (n' := 288) (k := 9) (zlt shR) shR rfl hX1.1.r288 rfl (by decide) (fun _ q => zmem (uw_R _ q)) (zmem lk_R_38) d_R_added_158 ?_
                  refine x_iload (pc := 161) K 1 d_R_added_161 rfl ?_
                  refine x_iald (pc := 163) K (n := 288) (j := ix V) hv9.1 (by omega) (zlt sh288) sh288 rfl (by decide) d_R_added_163 ?_
                  refine x_iconst (pc := 164) K (v := 3) d_R_added_164 (by decide) ?_
                  refine x_iand (pc := 165) K d_R_added_165 ?_
                  refine x_icmp_lt (pc := 166) K (tgt := 189) d_R_added_166 (by decide) (fun c166 => ?_) (fun c166 => ?_)
                  · skip
                    refine x_iconst (pc := 189) K (v := 1) d_R_added_189 (by decide) ?_
                    refine x_goto (pc := 190) K (tgt := 194) d_R_added_190 (by decide) ?_
                    refine x_istore (pc := 194) K (lv' := [(6, .int 1), (5, .int V), (4, .int (nI (8 * (12 + t) + i))), (3, .int (nI (12 + t))), (0, .ref (w.2.2 + 278)), (1, .int (nI 12)), (2, .int (nI t))]) d_R_added_194 (by decide) rfl ?_
                    refine x_iload (pc := 196) K 0 d_R_added_196 rfl ?_
                    refine x_if_eq (pc := 198) K (tgt := 214) d_R_added_198 (by decide) (fun q => absurd q (by decide)) (fun _ => ?_)
                    refine x_aload_n (pc := 201) K 4 d_R_added_201 rfl ?_
                    refine x_iload_n (pc := 202) K 5 d_R_added_202 rfl ?_
                    refine x_iload_n (pc := 203) K 6 d_R_added_203 rfl ?_
                    refine x_iload (pc := 204) K 2 d_R_added_204 rfl ?_
                    refine x_bipush (pc := 206) K (v := nI 8) d_R_added_206 (by decide) ?_
                    refine x_iload_n (pc := 208) K 3 d_R_added_208 rfl ?_
                    refine x_imul (pc := 209) K d_R_added_209 ?_
                    refine x_eqi (y := nI (8 * (12 + t))) (pk_mul _ _) ?_
                    refine x_isub (pc := 210) K d_R_added_210 ?_
                    refine x_eqi (y := nI i) (by rw [pk_sub (by omega), show 8 * (12 + t) + i - 8 * (12 + t) = i by omega]) ?_
                    refine x_callVv (pc := 211) K (As := [.int (nI 12), .int (nI t), .int (nI i)]) (rest := []) (c_R_tell l w X2 o hX1.1 12 t (by omega) (by omega) (nI i)) (zcwV K.ts lk_R_150 im_R_tell se_R_tell ii_R co_R_tell pd_R_tell ⟨rfl, rfl⟩ ⟨by decide, by decide⟩) (zlt shR) shR rfl rfl rfl (Nat.le_of_ble_eq_true rfl) ⟨Nat.zero_le _, Nat.zero_le _⟩ d_R_added_211 ?_
                    refine x_iinc (pc := 214) K (v := nI (8 * (12 + t) + (i + 1))) (lv' := [(4, .int (nI (8 * (12 + t) + (i + 1)))), (6, .int 1), (5, .int V), (3, .int (nI (12 + t))), (0, .ref (w.2.2 + 278)), (1, .int (nI 12)), (2, .int (nI t))]) 2 d_R_added_214 rfl (nI_1 _) (by decide) rfl ?_
                    refine x_goto (pc := 217) K (tgt := 11) d_R_added_217 (by decide) ?_
                    refine x_lv [0, 3, 4, 5, 6] rfl ?_
                    rw [cIf_t (show qAd X2.1 12 (8 * (12 + t) + i) V from by unfold qAd; clear hf hX hX1 ih hv; grind)] at hf
                    exact ih (i + 1) _ (by omega) (by omega) (mOk_kp hX1 tel_kp) (by rw [tel_kp.1 285 (12 + t) (by omega) (by omega), ← hX2, mFd_rd (by decide) (by decide)]; exact hc) hf
                  · skip
                    refine x_aload_n (pc := 169) K 4 d_R_added_169 rfl ?_
                    refine x_getr (pc := 170) K (n := 278) (n' := 288) (k := 9) (zlt shR) shR rfl hX1.1.r288 rfl (by decide) (fun _ q => zmem (uw_R _ q)) (zmem lk_R_38) d_R_added_170 ?_
                    refine x_iload (pc := 173) K 2 d_R_added_173 rfl ?_
                    refine x_iald (pc := 175) K (n := 288) (j := 8 * (12 + t) + i) rfl (by omega) (zlt sh288) sh288 rfl (by decide) d_R_added_175 ?_
                    refine x_aload_n (pc := 176) K 4 d_R_added_176 rfl ?_
                    refine x_getr (pc := 177) K (n := 278) (n' := 288) (k := 9) (zlt shR) shR rfl hX1.1.r288 rfl (by decide) (fun _ q => zmem (uw_R _ q)) (zmem lk_R_38) d_R_added_177 ?_
                    refine x_iload (pc := 180) K 1 d_R_added_180 rfl ?_
                    refine x_iald (pc := 182) K (n := 288) (j := ix V) hv9.1 (by omega) (zlt sh288) sh288 rfl (by decide) d_R_added_182 ?_
                    refine x_ixor (pc := 183) K d_R_added_183 ?_
                    refine x_iconst (pc := 184) K (v := 4) d_R_added_184 (by decide) ?_
                    refine x_iand (pc := 185) K d_R_added_185 ?_
                    refine x_if_eq (pc := 186) K (tgt := 193) d_R_added_186 (by decide) (fun c186 => ?_) (fun c186 => ?_)
                    · skip
                      refine x_iconst (pc := 193) K (v := 0) d_R_added_193 (by decide) ?_
                      refine x_istore (pc := 194) K (lv' := [(6, .int 0), (5, .int V), (4, .int (nI (8 * (12 + t) + i))), (3, .int (nI (12 + t))), (0, .ref (w.2.2 + 278)), (1, .int (nI 12)), (2, .int (nI t))]) d_R_added_194 (by decide) rfl ?_
                      refine x_iload (pc := 196) K 0 d_R_added_196 rfl ?_
                      refine x_if_eq (pc := 198) K (tgt := 214) d_R_added_198 (by decide) (fun _ => ?_) (fun q => absurd q (by decide))
                      refine x_iinc (pc := 214) K (v := nI (8 * (12 + t) + (i + 1))) (lv' := [(4, .int (nI (8 * (12 + t) + (i + 1)))), (6, .int 0), (5, .int V), (3, .int (nI (12 + t))), (0, .ref (w.2.2 + 278)), (1, .int (nI 12)), (2, .int (nI t))]) 2 d_R_added_214 rfl (nI_1 _) (by decide) rfl ?_
                      refine x_goto (pc := 217) K (tgt := 11) d_R_added_217 (by decide) ?_
                      refine x_lv [0, 3, 4, 5, 6] rfl ?_
                      rw [cIf_f (show ¬ qAd X2.1 12 (8 * (12 + t) + i) V from by unfold qAd; clear hf hX hX1 ih hv; grind)] at hf
                      exact ih (i + 1) _ (by omega) (by omega) hX1 (by rw [← hX2, mFd_rd (by decide) (by decide)]; exact hc) hf
                    · skip
                      refine x_iconst (pc := 189) K (v := 1) d_R_added_189 (by decide) ?_
                      refine x_goto (pc := 190) K (tgt := 194) d_R_added_190 (by decide) ?_
                      refine x_istore (pc := 194) K (lv' := [(6, .int 1), (5, .int V), (4, .int (nI (8 * (12 + t) + i))), (3, .int (nI (12 + t))), (0, .ref (w.2.2 + 278)), (1, .int (nI 12)), (2, .int (nI t))]) d_R_added_194 (by decide) rfl ?_
                      refine x_iload (pc := 196) K 0 d_R_added_196 rfl ?_
                      refine x_if_eq (pc := 198) K (tgt := 214) d_R_added_198 (by decide) (fun q => absurd q (by decide)) (fun _ => ?_)
                      refine x_aload_n (pc := 201) K 4 d_R_added_201 rfl ?_
                      refine x_iload_n (pc := 202) K 5 d_R_added_202 rfl ?_
                      refine x_iload_n (pc := 203) K 6 d_R_added_203 rfl ?_
                      refine x_iload (pc := 204) K 2 d_R_added_204 rfl ?_
                      refine x_bipush (pc := 206) K (v := nI 8) d_R_added_206 (by decide) ?_
                      refine x_iload_n (pc := 208) K 3 d_R_added_208 rfl ?_
                      refine x_imul (pc := 209) K d_R_added_209 ?_
                      refine x_eqi (y := nI (8 * (12 + t))) (pk_mul _ _) ?_
                      refine x_isub (pc := 210) K d_R_added_210 ?_
                      refine x_eqi (y := nI i) (by rw [pk_sub (by omega), show 8 * (12 + t) + i - 8 * (12 + t) = i by omega]) ?_
                      refine x_callVv (pc := 211) K (As := [.int (nI 12), .int (nI t), .int (nI i)]) (rest := []) (c_R_tell l w X2 o hX1.1 12 t (by omega) (by omega) (nI i)) (zcwV K.ts lk_R_150 im_R_tell se_R_tell ii_R co_R_tell pd_R_tell ⟨rfl, rfl⟩ ⟨by decide, by decide⟩) (zlt shR) shR rfl rfl rfl (Nat.le_of_ble_eq_true rfl) ⟨Nat.zero_le _, Nat.zero_le _⟩ d_R_added_211 ?_
                      refine x_iinc (pc := 214) K (v := nI (8 * (12 + t) + (i + 1))) (lv' := [(4, .int (nI (8 * (12 + t) + (i + 1)))), (6, .int 1), (5, .int V), (3, .int (nI (12 + t))), (0, .ref (w.2.2 + 278)), (1, .int (nI 12)), (2, .int (nI t))]) 2 d_R_added_214 rfl (nI_1 _) (by decide) rfl ?_
                      refine x_goto (pc := 217) K (tgt := 11) d_R_added_217 (by decide) ?_
                      refine x_lv [0, 3, 4, 5, 6] rfl ?_
                      rw [cIf_t (show qAd X2.1 12 (8 * (12 + t) + i) V from by unfold qAd; clear hf hX hX1 ih hv; grind)] at hf
                      exact ih (i + 1) _ (by omega) (by omega) (mOk_kp hX1 tel_kp) (by rw [tel_kp.1 285 (12 + t) (by omega) (by omega), ← hX2, mFd_rd (by decide) (by decide)]; exact hc) hf
      · skip
        rw [if_pos (Int32.not_lt.mp c46)] at hf
        refine x_goto (pc := 49) K (tgt := 214) d_R_added_49 (by decide) ?_
        refine x_iinc (pc := 214) K (v := nI (8 * (12 + t) + (i + 1))) (lv' := [(4, .int (nI (8 * (12 + t) + (i + 1)))), (3, .int (nI (12 + t))), (0, .ref (w.2.2 + 278)), (1, .int (nI 12)), (2, .int (nI t))]) 0 d_R_added_214 rfl (nI_1 _) (by decide) rfl ?_
        refine x_goto (pc := 217) K (tgt := 11) d_R_added_217 (by decide) ?_
        refine x_lv [0, 1, 2, 3, 4] rfl ?_
        exact ih (i + 1) _ (by omega) (by omega) hX hc hf
set_option maxHeartbeats 4000000 in
set_option maxRecDepth 100000 in
theorem c_R_added12 (l : Launch) (w : fl_W) (M : fl_M) (o : Nat) (hM : mOk o M) (t : Nat) (ht : t < 12) : CT l y_R_added w_R_added rm_R_added w zN [.ref (w.2.2 + 278), .int (nI 12), .int (nI t)] M none (adl M 12 t 0 (qM M.1 (12 + t))) := by
  refine CT.of (cc := b_R_added) (own := "CompatibilityJudgeModel") (by decide) rfl rfl (Nat.le_of_ble_eq_true rfl) ?_
  intro p9 e9 s9 m9 ag9 bl9 mt9 c9 K
  show XW p9 l e9 (rm_R_added) s9 m9 ag9 bl9 mt9 c9 7 0 0 (MQ bl9 (CQ w zN none (adl M 12 t 0 (qM M.1 (12 + t)))) ag9 s9 0 0 (fun q : Nat => w.2.2 ≤ q)) w zN M 0 [(0, .ref (w.2.2 + 278)), (1, .int (nI 12)), (2, .int (nI t))] []
  refine x_bipush (pc := 0) K (v := nI 12) d_R_added_0 (by decide) ?_
  refine x_iload_n (pc := 2) K 2 d_R_added_2 rfl ?_
  refine x_iadd (pc := 3) K d_R_added_3 ?_
  refine x_eqi (y := nI (12 + t)) (nI_add _ _) ?_
  refine x_istore_n (pc := 4) K (lv' := [(3, .int (nI (12 + t))), (0, .ref (w.2.2 + 278)), (1, .int (nI 12)), (2, .int (nI t))]) d_R_added_4 (by decide) rfl ?_
  refine x_bipush (pc := 5) K (v := nI 8) d_R_added_5 (by decide) ?_
  refine x_iload_n (pc := 7) K 0 d_R_added_7 rfl ?_
  refine x_imul (pc := 8) K d_R_added_8 ?_
  refine x_eqi (y := nI (8 * (12 + t))) (pk_mul _ _) ?_
  refine x_istore (pc := 9) K (lv' := [(4, .int (nI (8 * (12 + t)))), (3, .int (nI (12 + t))), (0, .ref (w.2.2 + 278)), (1, .int (nI 12)), (2, .int (nI t))]) d_R_added_9 (by decide) rfl ?_
  have hc9 := (hM.2.1 (12 + t) (by omega)).2
  refine x_lv [0, 1, 2, 3, 4] rfl ?_
  exact lp_R_added12 l w M o t ht (qM M.1 (12 + t)) hc9.2 _ K (qM M.1 (12 + t) + 1) 0 M (by omega) (by omega) hM hc9.1 (by rw [Nat.sub_zero])
set_option maxHeartbeats 4000000 in
set_option maxRecDepth 100000 in
theorem lp_R_added13 (l : Launch) (w : fl_W) (M : fl_M) (o : Nat) (t : Nat) (ht : t < 12) (c : Nat) (h8 : c ≤ 8) (Y : fl_M) {p9 : Program} {e9 : Env} {s9 : State} {m9 : MethodId} {ag9 : Array Value} {bl9 : List Frame} {mt9 : Method} {c9 : Code} (K : XC p9 s9 m9 ag9 mt9 c9 b_R_added 7 none w_R_added "CompatibilityJudgeModel" w) : ∀ (k : Nat) (i : Nat) (X : fl_M), i ≤ c → c + 1 ≤ i + k → mOk o X → X.1 285 (12 + t) = nI c → adl X 13 t i (c - i) = Y → XW p9 l e9 (rm_R_added) s9 m9 ag9 bl9 mt9 c9 7 0 0 (MQ bl9 (CQ w zN none Y) ag9 s9 0 0 (fun q : Nat => w.2.2 ≤ q)) w zN X 11 [(4, .int (nI (8 * (12 + t) + i))), (3, .int (nI (12 + t))), (0, .ref (w.2.2 + 278)), (1, .int (nI 13)), (2, .int (nI t))] [] := by
  intro k
  induction k with
  | zero =>
    intro i X hi hk
    exact absurd hk (by omega)
  | succ k ih =>
    intro i X hi hk hX hc hf
    refine x_iload (pc := 11) K 0 d_R_added_11 rfl ?_
    refine x_bipush (pc := 13) K (v := nI 8) d_R_added_13 (by decide) ?_
    refine x_iload_n (pc := 15) K 1 d_R_added_15 rfl ?_
    refine x_imul (pc := 16) K d_R_added_16 ?_
    refine x_eqi (y := nI (8 * (12 + t))) (pk_mul _ _) ?_
    refine x_aload_n (pc := 17) K 2 d_R_added_17 rfl ?_
    refine x_getr (pc := 18) K (n := 278) (n' := 285) (k := 6) (zlt shR) shR rfl hX.1.r285 rfl (by decide) (fun _ q => zmem (uw_R _ q)) (zmem lk_R_29) d_R_added_18 ?_
    refine x_iload_n (pc := 21) K 1 d_R_added_21 rfl ?_
    refine x_iald (pc := 22) K (n := 285) (j := 12 + t) rfl (by omega) (zlt sh285) sh285 rfl (by decide) d_R_added_22 ?_
    refine x_eqi (y := nI c) (hc) ?_
    refine x_iadd (pc := 23) K d_R_added_23 ?_
    refine x_eqi (y := nI ((8 * (12 + t)) + c)) (nI_add _ _) ?_
    refine x_icmp_ge (pc := 24) K (tgt := 220) d_R_added_24 (by decide) (fun c24 => ?_) (fun c24 => ?_)
    · skip
      have hic : i = c := by have := (nI_leI (by omega) (by omega)).mp c24; omega
      rw [hic, Nat.sub_self] at hf
      exact x_vret (pc := 220) K rfl (by subst hf; rfl) d_R_added_220
    · skip
      have hic : i < c := by have := Nat.not_le.mp (fun q => c24 (nI_le q (by omega))); omega
      rw [show c - i = (c - (i + 1)) + 1 by omega, adl] at hf
      refine x_aload_n (pc := 27) K 2 d_R_added_27 rfl ?_
      refine x_iload_n (pc := 28) K 4 d_R_added_28 rfl ?_
      refine x_aload_n (pc := 29) K 2 d_R_added_29 rfl ?_
      refine x_getr (pc := 30) K (n := 278) (n' := 286) (k := 7) (zlt shR) shR rfl hX.1.r286 rfl (by decide) (fun _ q => zmem (uw_R _ q)) (zmem lk_R_32) d_R_added_30 ?_
      refine x_iload (pc := 33) K 0 d_R_added_33 rfl ?_
      refine x_iald (pc := 35) K (n := 286) (j := 8 * (12 + t) + i) rfl (by omega) (zlt sh286) sh286 rfl (by decide) d_R_added_35 ?_
      refine x_aload_n (pc := 36) K 2 d_R_added_36 rfl ?_
      refine x_getr (pc := 37) K (n := 278) (n' := 287) (k := 8) (zlt shR) shR rfl hX.1.r287 rfl (by decide) (fun _ q => zmem (uw_R _ q)) (zmem lk_R_35) d_R_added_37 ?_
      refine x_iload (pc := 40) K 0 d_R_added_40 rfl ?_
      refine x_iald (pc := 42) K (n := 287) (j := 8 * (12 + t) + i) rfl (by omega) (zlt sh287) sh287 rfl (by decide) d_R_added_42 ?_
      refine x_callV (pc := 43) K (As := [.int (nI t), .int (X.1 286 (8 * (12 + t) + i)), .int (X.1 287 (8 * (12 + t) + i))]) (rest := []) (c_R_own l w X o hX.1 t (by omega) (hX.2.1 _ (by omega)) (X.1 286 (8 * (12 + t) + i)) (X.1 287 (8 * (12 + t) + i))) (zcwV K.ts lk_R_72 im_R_own se_R_own ii_R co_R_own pd_R_own ⟨rfl, rfl⟩ ⟨by decide, by decide⟩) (zlt shR) shR rfl rfl rfl (Nat.le_of_ble_eq_true rfl) ⟨Nat.zero_le _, Nat.zero_le _⟩ d_R_added_43 ?_
      refine x_if_lt (pc := 46) K (tgt := 52) d_R_added_46 (by decide) (fun c46 => ?_) (fun c46 => ?_)
      · skip
        rw [if_neg (fun q => Int32.not_lt.mpr q c46)] at hf
        refine x_aload_n (pc := 52) K 2 d_R_added_52 rfl ?_
        refine x_iconst (pc := 53) K (v := nI 0) d_R_added_53 (by decide) ?_
        refine x_iload_n (pc := 54) K 4 d_R_added_54 rfl ?_
        refine x_aload_n (pc := 55) K 2 d_R_added_55 rfl ?_
        refine x_getr (pc := 56) K (n := 278) (n' := 286) (k := 7) (zlt shR) shR rfl hX.1.r286 rfl (by decide) (fun _ q => zmem (uw_R _ q)) (zmem lk_R_32) d_R_added_56 ?_
        refine x_iload (pc := 59) K 0 d_R_added_59 rfl ?_
        refine x_iald (pc := 61) K (n := 286) (j := 8 * (12 + t) + i) rfl (by omega) (zlt sh286) sh286 rfl (by decide) d_R_added_61 ?_
        refine x_aload_n (pc := 62) K 2 d_R_added_62 rfl ?_
        refine x_getr (pc := 63) K (n := 278) (n' := 287) (k := 8) (zlt shR) shR rfl hX.1.r287 rfl (by decide) (fun _ q => zmem (uw_R _ q)) (zmem lk_R_35) d_R_added_63 ?_
        refine x_iload (pc := 66) K 0 d_R_added_66 rfl ?_
        refine x_iald (pc := 68) K (n := 287) (j := 8 * (12 + t) + i) rfl (by omega) (zlt sh287) sh287 rfl (by decide) d_R_added_68 ?_
        refine x_callV (pc := 69) K (As := [.int (nI 0), .int (nI t), .int (X.1 286 (8 * (12 + t) + i)), .int (X.1 287 (8 * (12 + t) + i))]) (rest := []) (c_R_find l w X o hX.1 0 (by omega) t (by omega) hX.2.1 (hX.2.2 0 (by omega)) (X.1 286 (8 * (12 + t) + i)) (X.1 287 (8 * (12 + t) + i))) (zcwV K.ts lk_R_120 im_R_find se_R_find ii_R co_R_find pd_R_find ⟨rfl, rfl⟩ ⟨by decide, by decide⟩) (zlt shR) shR rfl rfl rfl (Nat.le_of_ble_eq_true rfl) ⟨Nat.zero_le _, Nat.zero_le _⟩ d_R_added_69 ?_
        have hX1 : mOk o (mFd X 0 t (X.1 286 (8 * (12 + t) + i)) (X.1 287 (8 * (12 + t) + i))) := mOk_kp hX kp_mFd
        have hv := vFd_in hX (b := 0) (t := t) (k := X.1 286 (8 * (12 + t) + i)) (key := X.1 287 (8 * (12 + t) + i)) (by omega) (by omega)
        generalize hV : vFd X 0 t (X.1 286 (8 * (12 + t) + i)) (X.1 287 (8 * (12 + t) + i)) = V at hf hv ⊢
        generalize hX2 : mFd X 0 t (X.1 286 (8 * (12 + t) + i)) (X.1 287 (8 * (12 + t) + i)) = X2 at hf hX1 ⊢
        refine x_istore (pc := 72) K (lv' := [(5, .int V), (4, .int (nI (8 * (12 + t) + i))), (3, .int (nI (12 + t))), (0, .ref (w.2.2 + 278)), (1, .int (nI 13)), (2, .int (nI t))]) d_R_added_72 (by decide) rfl ?_
        refine x_aload_n (pc := 74) K 3 d_R_added_74 rfl ?_
        refine x_getr (pc := 75) K (n := 278) (n' := 288) (k := 9) (zlt shR) shR rfl hX1.1.r288 rfl (by decide) (fun _ q => zmem (uw_R _ q)) (zmem lk_R_38) d_R_added_75 ?_
        refine x_iload (pc := 78) K 1 d_R_added_78 rfl ?_
        refine x_iald (pc := 80) K (n := 288) (j := 8 * (12 + t) + i) rfl (by omega) (zlt sh288) sh288 rfl (by decide) d_R_added_80 ?_
        refine x_bipush (pc := 81) K (v := 16) d_R_added_81 (by decide) ?_
        refine x_callS (pc := 83) K (As := [.int (X2.1 288 (8 * (12 + t) + i)), .int 16]) (rest := []) (c_R_has l w X2 (X2.1 288 (8 * (12 + t) + i)) 16) (zcwS K.ts lk_R_66 sm_R_has ii_R co_R_has pd_R_has ⟨rfl, rfl⟩ ⟨by decide, by decide⟩) rfl rfl (Nat.le_of_ble_eq_true rfl) ⟨Nat.zero_le _, Nat.zero_le _⟩ d_R_added_83 ?_
        refine x_ifeqB (pc := 86) K (tgt := 98) d_R_added_86 (by decide) (fun c86 => ?_) (fun c86 => ?_)
        · skip
          refine x_iconst (pc := 98) K (v := 0) d_R_added_98 (by decide) ?_
          refine x_istore (pc := 99) K (lv' := [(6, .int 0), (5, .int V), (4, .int (nI (8 * (12 + t) + i))), (3, .int (nI (12 + t))), (0, .ref (w.2.2 + 278)), (1, .int (nI 13)), (2, .int (nI t))]) d_R_added_99 (by decide) rfl ?_
          refine x_iload_n (pc := 101) K 5 d_R_added_101 rfl ?_
          refine x_bipush (pc := 102) K (v := nI 12) d_R_added_102 (by decide) ?_
          refine x_icmp_ne (pc := 104) K (tgt := 196) d_R_added_104 (by decide) (fun _ => ?_) (fun q => absurd q (by decide))
          refine x_iload (pc := 196) K 0 d_R_added_196 rfl ?_
          refine x_if_eq (pc := 198) K (tgt := 214) d_R_added_198 (by decide) (fun _ => ?_) (fun q => absurd q (by decide))
          refine x_iinc (pc := 214) K (v := nI (8 * (12 + t) + (i + 1))) (lv' := [(4, .int (nI (8 * (12 + t) + (i + 1)))), (6, .int 0), (5, .int V), (3, .int (nI (12 + t))), (0, .ref (w.2.2 + 278)), (1, .int (nI 13)), (2, .int (nI t))]) 2 d_R_added_214 rfl (nI_1 _) (by decide) rfl ?_
          refine x_goto (pc := 217) K (tgt := 11) d_R_added_217 (by decide) ?_
          refine x_lv [0, 3, 4, 5, 6] rfl ?_
          rw [cIf_f (show ¬ qAd X2.1 13 (8 * (12 + t) + i) V from by unfold qAd; clear hf hX hX1 ih hv; grind)] at hf
          exact ih (i + 1) _ (by omega) (by omega) hX1 (by rw [← hX2, mFd_rd (by decide) (by decide)]; exact hc) hf
        · skip
          refine x_iload (pc := 89) K 0 d_R_added_89 rfl ?_
          refine x_if_ge (pc := 91) K (tgt := 98) d_R_added_91 (by decide) (fun c91 => ?_) (fun c91 => ?_)
          · skip
            refine x_iconst (pc := 98) K (v := 0) d_R_added_98 (by decide) ?_
            refine x_istore (pc := 99) K (lv' := [(6, .int 0), (5, .int V), (4, .int (nI (8 * (12 + t) + i))), (3, .int (nI (12 + t))), (0, .ref (w.2.2 + 278)), (1, .int (nI 13)), (2, .int (nI t))]) d_R_added_99 (by decide) rfl ?_
            refine x_iload_n (pc := 101) K 5 d_R_added_101 rfl ?_
            refine x_bipush (pc := 102) K (v := nI 12) d_R_added_102 (by decide) ?_
            refine x_icmp_ne (pc := 104) K (tgt := 196) d_R_added_104 (by decide) (fun _ => ?_) (fun q => absurd q (by decide))
            refine x_iload (pc := 196) K 0 d_R_added_196 rfl ?_
            refine x_if_eq (pc := 198) K (tgt := 214) d_R_added_198 (by decide) (fun _ => ?_) (fun q => absurd q (by decide))
            refine x_iinc (pc := 214) K (v := nI (8 * (12 + t) + (i + 1))) (lv' := [(4, .int (nI (8 * (12 + t) + (i + 1)))), (6, .int 0), (5, .int V), (3, .int (nI (12 + t))), (0, .ref (w.2.2 + 278)), (1, .int (nI 13)), (2, .int (nI t))]) 2 d_R_added_214 rfl (nI_1 _) (by decide) rfl ?_
            refine x_goto (pc := 217) K (tgt := 11) d_R_added_217 (by decide) ?_
            refine x_lv [0, 3, 4, 5, 6] rfl ?_
            rw [cIf_f (show ¬ qAd X2.1 13 (8 * (12 + t) + i) V from by unfold qAd; clear hf hX hX1 ih hv; grind)] at hf
            exact ih (i + 1) _ (by omega) (by omega) hX1 (by rw [← hX2, mFd_rd (by decide) (by decide)]; exact hc) hf
          · skip
            refine x_iconst (pc := 94) K (v := 1) d_R_added_94 (by decide) ?_
            refine x_goto (pc := 95) K (tgt := 99) d_R_added_95 (by decide) ?_
            refine x_istore (pc := 99) K (lv' := [(6, .int 1), (5, .int V), (4, .int (nI (8 * (12 + t) + i))), (3, .int (nI (12 + t))), (0, .ref (w.2.2 + 278)), (1, .int (nI 13)), (2, .int (nI t))]) d_R_added_99 (by decide) rfl ?_
            refine x_iload_n (pc := 101) K 5 d_R_added_101 rfl ?_
            refine x_bipush (pc := 102) K (v := nI 12) d_R_added_102 (by decide) ?_
            refine x_icmp_ne (pc := 104) K (tgt := 196) d_R_added_104 (by decide) (fun _ => ?_) (fun q => absurd q (by decide))
            refine x_iload (pc := 196) K 0 d_R_added_196 rfl ?_
            refine x_if_eq (pc := 198) K (tgt := 214) d_R_added_198 (by decide) (fun q => absurd q (by decide)) (fun _ => ?_)
            refine x_aload_n (pc := 201) K 4 d_R_added_201 rfl ?_
            refine x_iload_n (pc := 202) K 5 d_R_added_202 rfl ?_
            refine x_iload_n (pc := 203) K 6 d_R_added_203 rfl ?_
            refine x_iload (pc := 204) K 2 d_R_added_204 rfl ?_
            refine x_bipush (pc := 206) K (v := nI 8) d_R_added_206 (by decide) ?_
            refine x_iload_n (pc := 208) K 3 d_R_added_208 rfl ?_
            refine x_imul (pc := 209) K d_R_added_209 ?_
            refine x_eqi (y := nI (8 * (12 + t))) (pk_mul _ _) ?_
            refine x_isub (pc := 210) K d_R_added_210 ?_
            refine x_eqi (y := nI i) (by rw [pk_sub (by omega), show 8 * (12 + t) + i - 8 * (12 + t) = i by omega]) ?_
            refine x_callVv (pc := 211) K (As := [.int (nI 13), .int (nI t), .int (nI i)]) (rest := []) (c_R_tell l w X2 o hX1.1 13 t (by omega) (by omega) (nI i)) (zcwV K.ts lk_R_150 im_R_tell se_R_tell ii_R co_R_tell pd_R_tell ⟨rfl, rfl⟩ ⟨by decide, by decide⟩) (zlt shR) shR rfl rfl rfl (Nat.le_of_ble_eq_true rfl) ⟨Nat.zero_le _, Nat.zero_le _⟩ d_R_added_211 ?_
            refine x_iinc (pc := 214) K (v := nI (8 * (12 + t) + (i + 1))) (lv' := [(4, .int (nI (8 * (12 + t) + (i + 1)))), (6, .int 1), (5, .int V), (3, .int (nI (12 + t))), (0, .ref (w.2.2 + 278)), (1, .int (nI 13)), (2, .int (nI t))]) 2 d_R_added_214 rfl (nI_1 _) (by decide) rfl ?_
            refine x_goto (pc := 217) K (tgt := 11) d_R_added_217 (by decide) ?_
            refine x_lv [0, 3, 4, 5, 6] rfl ?_
            rw [cIf_t (show qAd X2.1 13 (8 * (12 + t) + i) V from by unfold qAd; clear hf hX hX1 ih hv; grind)] at hf
            exact ih (i + 1) _ (by omega) (by omega) (mOk_kp hX1 tel_kp) (by rw [tel_kp.1 285 (12 + t) (by omega) (by omega), ← hX2, mFd_rd (by decide) (by decide)]; exact hc) hf
      · skip
        rw [if_pos (Int32.not_lt.mp c46)] at hf
        refine x_goto (pc := 49) K (tgt := 214) d_R_added_49 (by decide) ?_
        refine x_iinc (pc := 214) K (v := nI (8 * (12 + t) + (i + 1))) (lv' := [(4, .int (nI (8 * (12 + t) + (i + 1)))), (3, .int (nI (12 + t))), (0, .ref (w.2.2 + 278)), (1, .int (nI 13)), (2, .int (nI t))]) 0 d_R_added_214 rfl (nI_1 _) (by decide) rfl ?_
        refine x_goto (pc := 217) K (tgt := 11) d_R_added_217 (by decide) ?_
        refine x_lv [0, 1, 2, 3, 4] rfl ?_
        exact ih (i + 1) _ (by omega) (by omega) hX hc hf
set_option maxHeartbeats 4000000 in
set_option maxRecDepth 100000 in
theorem c_R_added13 (l : Launch) (w : fl_W) (M : fl_M) (o : Nat) (hM : mOk o M) (t : Nat) (ht : t < 12) : CT l y_R_added w_R_added rm_R_added w zN [.ref (w.2.2 + 278), .int (nI 13), .int (nI t)] M none (adl M 13 t 0 (qM M.1 (12 + t))) := by
  refine CT.of (cc := b_R_added) (own := "CompatibilityJudgeModel") (by decide) rfl rfl (Nat.le_of_ble_eq_true rfl) ?_
  intro p9 e9 s9 m9 ag9 bl9 mt9 c9 K
  show XW p9 l e9 (rm_R_added) s9 m9 ag9 bl9 mt9 c9 7 0 0 (MQ bl9 (CQ w zN none (adl M 13 t 0 (qM M.1 (12 + t)))) ag9 s9 0 0 (fun q : Nat => w.2.2 ≤ q)) w zN M 0 [(0, .ref (w.2.2 + 278)), (1, .int (nI 13)), (2, .int (nI t))] []
  refine x_bipush (pc := 0) K (v := nI 12) d_R_added_0 (by decide) ?_
  refine x_iload_n (pc := 2) K 2 d_R_added_2 rfl ?_
  refine x_iadd (pc := 3) K d_R_added_3 ?_
  refine x_eqi (y := nI (12 + t)) (nI_add _ _) ?_
  refine x_istore_n (pc := 4) K (lv' := [(3, .int (nI (12 + t))), (0, .ref (w.2.2 + 278)), (1, .int (nI 13)), (2, .int (nI t))]) d_R_added_4 (by decide) rfl ?_
  refine x_bipush (pc := 5) K (v := nI 8) d_R_added_5 (by decide) ?_
  refine x_iload_n (pc := 7) K 0 d_R_added_7 rfl ?_
  refine x_imul (pc := 8) K d_R_added_8 ?_
  refine x_eqi (y := nI (8 * (12 + t))) (pk_mul _ _) ?_
  refine x_istore (pc := 9) K (lv' := [(4, .int (nI (8 * (12 + t)))), (3, .int (nI (12 + t))), (0, .ref (w.2.2 + 278)), (1, .int (nI 13)), (2, .int (nI t))]) d_R_added_9 (by decide) rfl ?_
  have hc9 := (hM.2.1 (12 + t) (by omega)).2
  refine x_lv [0, 1, 2, 3, 4] rfl ?_
  exact lp_R_added13 l w M o t ht (qM M.1 (12 + t)) hc9.2 _ K (qM M.1 (12 + t) + 1) 0 M (by omega) (by omega) hM hc9.1 (by rw [Nat.sub_zero])
theorem tel_rf {o : Nat} {M : fl_M} {r t : Nat} {d : Int32} (h : zRf o M.2) : zRf o (tel M r t d).2 := by rw [tel_kp.2]; exact h
noncomputable def jgE (X : fl_M) (t : Nat) : fl_M := adl (adl X 12 t 0 (qM X.1 (12 + t))) 13 t 0 (qM (adl X 12 t 0 (qM X.1 (12 + t))).1 (12 + t))
noncomputable def jgr (X : fl_M) (t : Nat) : Nat → Nat → fl_M
  | _, 0 => X
  | r, k + 1 => jgr (mbl X r t 0 (qM X.1 t)) t (r + 1) k
noncomputable def jgs (X : fl_M) (t : Nat) : Nat → Nat → fl_M
  | _, 0 => X
  | s, k + 1 => jgs (if qAb X.1 0 t s ∧ ¬ qAb X.1 1 t s then tel X 4 t (nI s) else X) t (s + 1) k
noncomputable def jga (M : fl_M) (t r : Nat) (f : Int32) : fl_M := if M.1 280 t = 0 ∧ (¬ ¬ M.1 281 t &&& f = 0) ∧ ¬ M.1 281 (12 + t) &&& f = 0 then tel M r t (-1) else M
noncomputable def jg4 (M : fl_M) (t : Nat) : fl_M := jgE (jgr (jgs (jga (jga M t 2 2) t 3 4) t 0 t) t 5 7) t
noncomputable def jg (M : fl_M) (t : Nat) : fl_M := if M.1 279 t = 0 ∨ ¬ ¬ M.1 281 t &&& 1 = 0 then M else if M.1 279 (12 + t) = 0 ∨ ¬ ¬ M.1 281 (12 + t) &&& 1 = 0 then tel M 0 t (-1) else if M.1 280 (12 + t) = M.1 280 t then jg4 M t else tel M 1 t (-1)
theorem jgr_kp {t : Nat} : ∀ (k r : Nat) (X : fl_M), kpR X (jgr X t r k) := by
  intro k
  induction k with
  | zero => intro r X; exact kpR.rf
  | succ k ih => intro r X; rw [jgr]; exact (mbl_kp _ _ _).tr (ih _ _)
theorem jgs_kp {t : Nat} : ∀ (k s : Nat) (X : fl_M), kpR X (jgs X t s k) := by
  intro k
  induction k with
  | zero => intro s X; exact kpR.rf
  | succ k ih =>
    intro s X
    rw [jgs]
    split
    · exact tel_kp.tr (ih _ _)
    · exact ih _ _
theorem jga_kp {M : fl_M} {t r : Nat} {f : Int32} : kpR M (jga M t r f) := by
  unfold jga
  split
  · exact tel_kp
  · exact kpR.rf
theorem jg_kp {M : fl_M} {t : Nat} : kpR M (jg M t) := by
  unfold jg
  split
  · exact kpR.rf
  · split
    · exact tel_kp
    · split
      · exact (((jga_kp.tr jga_kp).tr (jgs_kp _ _ _)).tr (jgr_kp _ _ _)).tr ((adl_kp _ _ _).tr (adl_kp _ _ _))
      · exact tel_kp
set_option maxHeartbeats 4000000 in
set_option maxRecDepth 100000 in
theorem l2_R_judge (l : Launch) (w : fl_W) (M : fl_M) (o : Nat) (t : Nat) (ht : t < 12) (Y : fl_M) {p9 : Program} {e9 : Env} {s9 : State} {m9 : MethodId} {ag9 : Array Value} {bl9 : List Frame} {mt9 : Method} {c9 : Code} (K : XC p9 s9 m9 ag9 mt9 c9 b_R_judge 4 none w_R_judge "CompatibilityJudgeModel" w) : ∀ (k : Nat) (r : Nat) (X : fl_M), r ≤ 12 → 13 ≤ r + k → 5 ≤ r → mOk o X → jgr X t r (12 - r) = Y → XW p9 l e9 (rm_R_judge) s9 m9 ag9 bl9 mt9 c9 4 0 0 (MQ bl9 (CQ w zN none (jgE Y t)) ag9 s9 0 0 (fun q : Nat => w.2.2 ≤ q)) w zN X 211 [(3, .int (nI r)), (2, .int (nI (12 + t))), (0, .ref (w.2.2 + 278)), (1, .int (nI t))] [] := by
  intro k
  induction k with
  | zero =>
    intro r X hi hk
    exact absurd hk (by omega)
  | succ k ih =>
    intro r X hi hk h5 hX hf
    refine x_iload_n (pc := 211) K 0 d_R_judge_211 rfl ?_
    refine x_bipush (pc := 212) K (v := nI 11) d_R_judge_212 (by decide) ?_
    refine x_icmp_gt (pc := 214) K (tgt := 229) d_R_judge_214 (by decide) (fun c214 => ?_) (fun c214 => ?_)
    · skip
      have hic : r = 12 := by have := (nI_ltI (a := 11) (by omega) (by omega)).mp c214; omega
      rw [hic, Nat.sub_self] at hf
      refine x_aload_n (pc := 229) K 2 d_R_judge_229 rfl ?_
      refine x_bipush (pc := 230) K (v := nI 12) d_R_judge_230 (by decide) ?_
      refine x_iload_n (pc := 232) K 3 d_R_judge_232 rfl ?_
      refine x_callVv (pc := 233) K (As := [.int (nI 12), .int (nI t)]) (rest := []) (c_R_added12 l w X o hX t (by omega)) (zcwV K.ts lk_R_156 im_R_added se_R_added ii_R co_R_added pd_R_added ⟨rfl, rfl⟩ ⟨by decide, by decide⟩) (zlt shR) shR rfl rfl rfl (Nat.le_of_ble_eq_true rfl) ⟨Nat.zero_le _, Nat.zero_le _⟩ d_R_judge_233 ?_
      refine x_aload_n (pc := 236) K 2 d_R_judge_236 rfl ?_
      refine x_bipush (pc := 237) K (v := nI 13) d_R_judge_237 (by decide) ?_
      refine x_iload_n (pc := 239) K 3 d_R_judge_239 rfl ?_
      refine x_callVv (pc := 240) K (As := [.int (nI 13), .int (nI t)]) (rest := []) (c_R_added13 l w (adl X 12 t 0 (qM X.1 (12 + t))) o (mOk_kp hX (adl_kp _ _ _)) t (by omega)) (zcwV K.ts lk_R_156 im_R_added se_R_added ii_R co_R_added pd_R_added ⟨rfl, rfl⟩ ⟨by decide, by decide⟩) (zlt shR) shR rfl rfl rfl (Nat.le_of_ble_eq_true rfl) ⟨Nat.zero_le _, Nat.zero_le _⟩ d_R_judge_240 ?_
      exact x_vret (pc := 243) K rfl (by subst hf; rfl) d_R_judge_243
    · skip
      have hic : r < 12 := by have := Nat.not_lt.mp (fun q => c214 ((nI_ltI (a := 11) (b := r) (by omega) (by omega)).mpr q)); omega
      rw [show 12 - r = (12 - (r + 1)) + 1 by omega, jgr] at hf
      refine x_aload_n (pc := 217) K 2 d_R_judge_217 rfl ?_
      refine x_iload_n (pc := 218) K 0 d_R_judge_218 rfl ?_
      refine x_iload_n (pc := 219) K 3 d_R_judge_219 rfl ?_
      refine x_callVv (pc := 220) K (As := [.int (nI r), .int (nI t)]) (rest := []) (c_R_members l w X o hX r t (by omega) (by omega) (by omega)) (zcwV K.ts lk_R_154 im_R_members se_R_members ii_R co_R_members pd_R_members ⟨rfl, rfl⟩ ⟨by decide, by decide⟩) (zlt shR) shR rfl rfl rfl (Nat.le_of_ble_eq_true rfl) ⟨Nat.zero_le _, Nat.zero_le _⟩ d_R_judge_220 ?_
      refine x_iinc (pc := 223) K (v := nI (r + 1)) (lv' := [(3, .int (nI (r + 1))), (2, .int (nI (12 + t))), (0, .ref (w.2.2 + 278)), (1, .int (nI t))]) 0 d_R_judge_223 rfl (nI_1 _) (by decide) rfl ?_
      refine x_goto (pc := 226) K (tgt := 211) d_R_judge_226 (by decide) ?_
      exact ih (r + 1) _ (by omega) (by omega) (by omega) (mOk_kp hX (mbl_kp _ _ _)) hf
set_option maxHeartbeats 4000000 in
set_option maxRecDepth 100000 in
theorem l1_R_judge (l : Launch) (w : fl_W) (M : fl_M) (o : Nat) (t : Nat) (ht : t < 12) (Y : fl_M) {p9 : Program} {e9 : Env} {s9 : State} {m9 : MethodId} {ag9 : Array Value} {bl9 : List Frame} {mt9 : Method} {c9 : Code} (K : XC p9 s9 m9 ag9 mt9 c9 b_R_judge 4 none w_R_judge "CompatibilityJudgeModel" w) : ∀ (k : Nat) (i : Nat) (X : fl_M), i ≤ t → t + 1 ≤ i + k → mOk o X → jgs X t i (t - i) = Y → XW p9 l e9 (rm_R_judge) s9 m9 ag9 bl9 mt9 c9 4 0 0 (MQ bl9 (CQ w zN none (jgE (jgr Y t 5 7) t)) ag9 s9 0 0 (fun q : Nat => w.2.2 ≤ q)) w zN X 171 [(3, .int (nI i)), (2, .int (nI (12 + t))), (0, .ref (w.2.2 + 278)), (1, .int (nI t))] [] := by
  intro k
  induction k with
  | zero =>
    intro i X hi hk
    exact absurd hk (by omega)
  | succ k ih =>
    intro i X hi hk hX hf
    refine x_iload_n (pc := 171) K 0 d_R_judge_171 rfl ?_
    refine x_iload_n (pc := 172) K 3 d_R_judge_172 rfl ?_
    refine x_icmp_ge (pc := 173) K (tgt := 209) d_R_judge_173 (by decide) (fun c173 => ?_) (fun c173 => ?_)
    · skip
      have hic : i = t := by have := (nI_leI (by omega) (by omega)).mp c173; omega
      rw [hic, Nat.sub_self] at hf
      refine x_iconst (pc := 209) K (v := nI 5) d_R_judge_209 (by decide) ?_
      refine x_istore_n (pc := 210) K (lv' := [(3, .int (nI 5)), (2, .int (nI (12 + t))), (0, .ref (w.2.2 + 278)), (1, .int (nI t))]) d_R_judge_210 (by decide) rfl ?_
      have hf : X = Y := hf
      subst hf
      refine x_lv [0, 1, 2, 3] rfl ?_
      exact l2_R_judge l w M o t ht _ K 8 5 X (by omega) (by omega) (by omega) hX rfl
    · skip
      have hic : i < t := Nat.not_le.mp (fun q => c173 (nI_le q (by omega)))
      rw [show t - i = (t - (i + 1)) + 1 by omega, jgs] at hf
      refine x_aload_n (pc := 176) K 2 d_R_judge_176 rfl ?_
      refine x_iconst (pc := 177) K (v := nI 0) d_R_judge_177 (by decide) ?_
      refine x_iload_n (pc := 178) K 3 d_R_judge_178 rfl ?_
      refine x_iload_n (pc := 179) K 0 d_R_judge_179 rfl ?_
      refine x_callV (pc := 180) K (As := [.int (nI 0), .int (nI t), .int (nI i)]) (rest := []) (c_R_above l w X o hX.1 0 (by omega) t (by omega) hX.2.1 i) (zcwV K.ts lk_R_111 im_R_above se_R_above ii_R co_R_above pd_R_above ⟨rfl, rfl⟩ ⟨by decide, by decide⟩) (zlt shR) shR rfl rfl rfl (Nat.le_of_ble_eq_true rfl) ⟨Nat.zero_le _, Nat.zero_le _⟩ d_R_judge_180 ?_
      refine x_ifeqB (pc := 183) K (tgt := 203) d_R_judge_183 (by decide) (fun c183 => ?_) (fun c183 => ?_)
      · skip
        rw [if_neg (fun q => c183 q.1)] at hf
        refine x_iinc (pc := 203) K (v := nI (i + 1)) (lv' := [(3, .int (nI (i + 1))), (2, .int (nI (12 + t))), (0, .ref (w.2.2 + 278)), (1, .int (nI t))]) 0 d_R_judge_203 rfl (nI_1 _) (by decide) rfl ?_
        refine x_goto (pc := 206) K (tgt := 171) d_R_judge_206 (by decide) ?_
        exact ih (i + 1) _ (by omega) (by omega) hX hf
      · skip
        refine x_aload_n (pc := 186) K 2 d_R_judge_186 rfl ?_
        refine x_iconst (pc := 187) K (v := nI 1) d_R_judge_187 (by decide) ?_
        refine x_iload_n (pc := 188) K 3 d_R_judge_188 rfl ?_
        refine x_iload_n (pc := 189) K 0 d_R_judge_189 rfl ?_
        refine x_callV (pc := 190) K (As := [.int (nI 1), .int (nI t), .int (nI i)]) (rest := []) (c_R_above l w X o hX.1 1 (by omega) t (by omega) hX.2.1 i) (zcwV K.ts lk_R_111 im_R_above se_R_above ii_R co_R_above pd_R_above ⟨rfl, rfl⟩ ⟨by decide, by decide⟩) (zlt shR) shR rfl rfl rfl (Nat.le_of_ble_eq_true rfl) ⟨Nat.zero_le _, Nat.zero_le _⟩ d_R_judge_190 ?_
        refine x_ifneB (pc := 193) K (tgt := 203) d_R_judge_193 (by decide) (fun c193 => ?_) (fun c193 => ?_)
        · skip
          rw [if_neg (fun q => q.2 c193)] at hf
          refine x_iinc (pc := 203) K (v := nI (i + 1)) (lv' := [(3, .int (nI (i + 1))), (2, .int (nI (12 + t))), (0, .ref (w.2.2 + 278)), (1, .int (nI t))]) 0 d_R_judge_203 rfl (nI_1 _) (by decide) rfl ?_
          refine x_goto (pc := 206) K (tgt := 171) d_R_judge_206 (by decide) ?_
          exact ih (i + 1) _ (by omega) (by omega) hX hf
        · skip
          rw [if_pos ⟨c183, c193⟩] at hf
          refine x_aload_n (pc := 196) K 2 d_R_judge_196 rfl ?_
          refine x_iconst (pc := 197) K (v := nI 4) d_R_judge_197 (by decide) ?_
          refine x_iload_n (pc := 198) K 3 d_R_judge_198 rfl ?_
          refine x_iload_n (pc := 199) K 0 d_R_judge_199 rfl ?_
          refine x_callVv (pc := 200) K (As := [.int (nI 4), .int (nI t), .int (nI i)]) (rest := []) (c_R_tell l w X o hX.1 4 t (by omega) (by omega) (nI i)) (zcwV K.ts lk_R_150 im_R_tell se_R_tell ii_R co_R_tell pd_R_tell ⟨rfl, rfl⟩ ⟨by decide, by decide⟩) (zlt shR) shR rfl rfl rfl (Nat.le_of_ble_eq_true rfl) ⟨Nat.zero_le _, Nat.zero_le _⟩ d_R_judge_200 ?_
          refine x_iinc (pc := 203) K (v := nI (i + 1)) (lv' := [(3, .int (nI (i + 1))), (2, .int (nI (12 + t))), (0, .ref (w.2.2 + 278)), (1, .int (nI t))]) 0 d_R_judge_203 rfl (nI_1 _) (by decide) rfl ?_
          refine x_goto (pc := 206) K (tgt := 171) d_R_judge_206 (by decide) ?_
          exact ih (i + 1) _ (by omega) (by omega) (mOk_kp hX tel_kp) hf
set_option maxHeartbeats 4000000 in
set_option maxRecDepth 100000 in
theorem c_R_judge (l : Launch) (w : fl_W) (M : fl_M) (o : Nat) (hM : mOk o M) (t : Nat) (ht : t < 12) : CT l y_R_judge w_R_judge rm_R_judge w zN [.ref (w.2.2 + 278), .int (nI t)] M none (jg M t) := by
  refine CT.of (cc := b_R_judge) (own := "CompatibilityJudgeModel") (by decide) rfl rfl (Nat.le_of_ble_eq_true rfl) ?_
  intro p9 e9 s9 m9 ag9 bl9 mt9 c9 K
  show XW p9 l e9 (rm_R_judge) s9 m9 ag9 bl9 mt9 c9 4 0 0 (MQ bl9 (CQ w zN none (jg M t)) ag9 s9 0 0 (fun q : Nat => w.2.2 ≤ q)) w zN M 0 [(0, .ref (w.2.2 + 278)), (1, .int (nI t))] []
  refine x_bipush (pc := 0) K (v := nI 12) d_R_judge_0 (by decide) ?_
  refine x_iload_n (pc := 2) K 1 d_R_judge_2 rfl ?_
  refine x_iadd (pc := 3) K d_R_judge_3 ?_
  refine x_eqi (y := nI (12 + t)) (nI_add _ _) ?_
  refine x_istore_n (pc := 4) K (lv' := [(2, .int (nI (12 + t))), (0, .ref (w.2.2 + 278)), (1, .int (nI t))]) d_R_judge_4 (by decide) rfl ?_
  refine x_aload_n (pc := 5) K 1 d_R_judge_5 rfl ?_
  refine x_getr (pc := 6) K (n := 278) (n' := 279) (k := 0) (zlt shR) shR rfl hM.1.r279 rfl (by decide) (fun _ q => zmem (uw_R _ q)) (zmem lk_R_7) d_R_judge_6 ?_
  refine x_iload_n (pc := 9) K 2 d_R_judge_9 rfl ?_
  refine x_zald (pc := 10) K (n := 279) (j := t) rfl (by omega) (zlt sh279) sh279 rfl (by decide) d_R_judge_10 ?_
  refine x_if_eq (pc := 11) K (tgt := 27) d_R_judge_11 (by decide) (fun c11 => ?_) (fun c11 => ?_)
  · skip
    exact x_vret (pc := 27) K rfl ((if_pos (Or.inl c11)).symm) d_R_judge_27
  · skip
    refine x_aload_n (pc := 14) K 1 d_R_judge_14 rfl ?_
    refine x_getr (pc := 15) K (n := 278) (n' := 281) (k := 2) (zlt shR) shR rfl hM.1.r281 rfl (by decide) (fun _ q => zmem (uw_R _ q)) (zmem lk_R_17) d_R_judge_15 ?_
    refine x_iload_n (pc := 18) K 2 d_R_judge_18 rfl ?_
    refine x_iald (pc := 19) K (n := 281) (j := t) rfl (by omega) (zlt sh281) sh281 rfl (by decide) d_R_judge_19 ?_
    refine x_iconst (pc := 20) K (v := 1) d_R_judge_20 (by decide) ?_
    refine x_callS (pc := 21) K (As := [.int (M.1 281 t), .int 1]) (rest := []) (c_R_has l w M (M.1 281 t) 1) (zcwS K.ts lk_R_66 sm_R_has ii_R co_R_has pd_R_has ⟨rfl, rfl⟩ ⟨by decide, by decide⟩) rfl rfl (Nat.le_of_ble_eq_true rfl) ⟨Nat.zero_le _, Nat.zero_le _⟩ d_R_judge_21 ?_
    refine x_ifneB (pc := 24) K (tgt := 28) d_R_judge_24 (by decide) (fun c24 => ?_) (fun c24 => ?_)
    · skip
      refine x_aload_n (pc := 28) K 1 d_R_judge_28 rfl ?_
      refine x_getr (pc := 29) K (n := 278) (n' := 279) (k := 0) (zlt shR) shR rfl hM.1.r279 rfl (by decide) (fun _ q => zmem (uw_R _ q)) (zmem lk_R_7) d_R_judge_29 ?_
      refine x_iload_n (pc := 32) K 0 d_R_judge_32 rfl ?_
      refine x_zald (pc := 33) K (n := 279) (j := 12 + t) rfl (by omega) (zlt sh279) sh279 rfl (by decide) d_R_judge_33 ?_
      refine x_if_eq (pc := 34) K (tgt := 50) d_R_judge_34 (by decide) (fun c34 => ?_) (fun c34 => ?_)
      · skip
        refine x_aload_n (pc := 50) K 1 d_R_judge_50 rfl ?_
        refine x_iconst (pc := 51) K (v := nI 0) d_R_judge_51 (by decide) ?_
        refine x_iload_n (pc := 52) K 2 d_R_judge_52 rfl ?_
        refine x_iconst (pc := 53) K (v := (-1)) d_R_judge_53 (by decide) ?_
        refine x_callVv (pc := 54) K (As := [.int (nI 0), .int (nI t), .int (-1)]) (rest := []) (c_R_tell l w M o hM.1 0 t (by omega) (by omega) (-1)) (zcwV K.ts lk_R_150 im_R_tell se_R_tell ii_R co_R_tell pd_R_tell ⟨rfl, rfl⟩ ⟨by decide, by decide⟩) (zlt shR) shR rfl rfl rfl (Nat.le_of_ble_eq_true rfl) ⟨Nat.zero_le _, Nat.zero_le _⟩ d_R_judge_54 ?_
        refine x_goto (pc := 57) K (tgt := 243) d_R_judge_57 (by decide) ?_
        exact x_vret (pc := 243) K rfl (by unfold jg; rw [if_neg (fun q => q.elim c11 (fun z => z c24)), if_pos (Or.inl c34)]) d_R_judge_243
      · skip
        refine x_aload_n (pc := 37) K 1 d_R_judge_37 rfl ?_
        refine x_getr (pc := 38) K (n := 278) (n' := 281) (k := 2) (zlt shR) shR rfl hM.1.r281 rfl (by decide) (fun _ q => zmem (uw_R _ q)) (zmem lk_R_17) d_R_judge_38 ?_
        refine x_iload_n (pc := 41) K 0 d_R_judge_41 rfl ?_
        refine x_iald (pc := 42) K (n := 281) (j := 12 + t) rfl (by omega) (zlt sh281) sh281 rfl (by decide) d_R_judge_42 ?_
        refine x_iconst (pc := 43) K (v := 1) d_R_judge_43 (by decide) ?_
        refine x_callS (pc := 44) K (As := [.int (M.1 281 (12 + t)), .int 1]) (rest := []) (c_R_has l w M (M.1 281 (12 + t)) 1) (zcwS K.ts lk_R_66 sm_R_has ii_R co_R_has pd_R_has ⟨rfl, rfl⟩ ⟨by decide, by decide⟩) rfl rfl (Nat.le_of_ble_eq_true rfl) ⟨Nat.zero_le _, Nat.zero_le _⟩ d_R_judge_44 ?_
        refine x_ifneB (pc := 47) K (tgt := 60) d_R_judge_47 (by decide) (fun c47 => ?_) (fun c47 => ?_)
        · skip
          refine x_aload_n (pc := 60) K 1 d_R_judge_60 rfl ?_
          refine x_getr (pc := 61) K (n := 278) (n' := 280) (k := 1) (zlt shR) shR rfl hM.1.r280 rfl (by decide) (fun _ q => zmem (uw_R _ q)) (zmem lk_R_13) d_R_judge_61 ?_
          refine x_iload_n (pc := 64) K 0 d_R_judge_64 rfl ?_
          refine x_iald (pc := 65) K (n := 280) (j := 12 + t) rfl (by omega) (zlt sh280) sh280 rfl (by decide) d_R_judge_65 ?_
          refine x_aload_n (pc := 66) K 1 d_R_judge_66 rfl ?_
          refine x_getr (pc := 67) K (n := 278) (n' := 280) (k := 1) (zlt shR) shR rfl hM.1.r280 rfl (by decide) (fun _ q => zmem (uw_R _ q)) (zmem lk_R_13) d_R_judge_67 ?_
          refine x_iload_n (pc := 70) K 2 d_R_judge_70 rfl ?_
          refine x_iald (pc := 71) K (n := 280) (j := t) rfl (by omega) (zlt sh280) sh280 rfl (by decide) d_R_judge_71 ?_
          refine x_icmp_eq (pc := 72) K (tgt := 85) d_R_judge_72 (by decide) (fun c72 => ?_) (fun c72 => ?_)
          · skip
            refine x_aload_n (pc := 85) K 1 d_R_judge_85 rfl ?_
            refine x_getr (pc := 86) K (n := 278) (n' := 280) (k := 1) (zlt shR) shR rfl hM.1.r280 rfl (by decide) (fun _ q => zmem (uw_R _ q)) (zmem lk_R_13) d_R_judge_86 ?_
            refine x_iload_n (pc := 89) K 2 d_R_judge_89 rfl ?_
            refine x_iald (pc := 90) K (n := 280) (j := t) rfl (by omega) (zlt sh280) sh280 rfl (by decide) d_R_judge_90 ?_
            refine x_if_ne (pc := 91) K (tgt := 127) d_R_judge_91 (by decide) (fun c91 => ?_) (fun c91 => ?_)
            · skip
              refine x_aload_n (pc := 127) K 1 d_R_judge_127 rfl ?_
              refine x_getr (pc := 128) K (n := 278) (n' := 280) (k := 1) (zlt shR) shR rfl hM.1.r280 rfl (by decide) (fun _ q => zmem (uw_R _ q)) (zmem lk_R_13) d_R_judge_128 ?_
              refine x_iload_n (pc := 131) K 2 d_R_judge_131 rfl ?_
              refine x_iald (pc := 132) K (n := 280) (j := t) rfl (by omega) (zlt sh280) sh280 rfl (by decide) d_R_judge_132 ?_
              refine x_if_ne (pc := 133) K (tgt := 169) d_R_judge_133 (by decide) (fun c133 => ?_) (fun c133 => ?_)
              · skip
                refine x_iconst (pc := 169) K (v := nI 0) d_R_judge_169 (by decide) ?_
                refine x_istore_n (pc := 170) K (lv' := [(3, .int (nI 0)), (2, .int (nI (12 + t))), (0, .ref (w.2.2 + 278)), (1, .int (nI t))]) d_R_judge_170 (by decide) rfl ?_
                have e1 : jga M t 2 2 = M := if_neg (fun q => c91 q.1)
                have e2 : jga (M) t 3 4 = M := if_neg (fun q => c133 q.1)
                rw [show jg M t = jg4 M t from by unfold jg; rw [if_neg (fun q => q.elim c11 (fun z => z c24)), if_neg (fun q => q.elim c34 (fun z => z c47)), if_pos c72]]
                unfold jg4
                rw [e1, e2]
                refine x_lv [0, 1, 2, 3] rfl ?_
                exact l1_R_judge l w M o t ht _ K (t + 1) 0 _ (by omega) (by omega) hM (by rw [Nat.sub_zero])
              · skip
                refine x_aload_n (pc := 136) K 1 d_R_judge_136 rfl ?_
                refine x_getr (pc := 137) K (n := 278) (n' := 281) (k := 2) (zlt shR) shR rfl hM.1.r281 rfl (by decide) (fun _ q => zmem (uw_R _ q)) (zmem lk_R_17) d_R_judge_137 ?_
                refine x_iload_n (pc := 140) K 2 d_R_judge_140 rfl ?_
                refine x_iald (pc := 141) K (n := 281) (j := t) rfl (by omega) (zlt sh281) sh281 rfl (by decide) d_R_judge_141 ?_
                refine x_iconst (pc := 142) K (v := 4) d_R_judge_142 (by decide) ?_
                refine x_callS (pc := 143) K (As := [.int (M.1 281 t), .int 4]) (rest := []) (c_R_has l w M (M.1 281 t) 4) (zcwS K.ts lk_R_66 sm_R_has ii_R co_R_has pd_R_has ⟨rfl, rfl⟩ ⟨by decide, by decide⟩) rfl rfl (Nat.le_of_ble_eq_true rfl) ⟨Nat.zero_le _, Nat.zero_le _⟩ d_R_judge_143 ?_
                refine x_ifneB (pc := 146) K (tgt := 169) d_R_judge_146 (by decide) (fun c146 => ?_) (fun c146 => ?_)
                · skip
                  refine x_iconst (pc := 169) K (v := nI 0) d_R_judge_169 (by decide) ?_
                  refine x_istore_n (pc := 170) K (lv' := [(3, .int (nI 0)), (2, .int (nI (12 + t))), (0, .ref (w.2.2 + 278)), (1, .int (nI t))]) d_R_judge_170 (by decide) rfl ?_
                  have e1 : jga M t 2 2 = M := if_neg (fun q => c91 q.1)
                  have e2 : jga (M) t 3 4 = M := if_neg (fun q => q.2.1 c146)
                  rw [show jg M t = jg4 M t from by unfold jg; rw [if_neg (fun q => q.elim c11 (fun z => z c24)), if_neg (fun q => q.elim c34 (fun z => z c47)), if_pos c72]]
                  unfold jg4
                  rw [e1, e2]
                  refine x_lv [0, 1, 2, 3] rfl ?_
                  exact l1_R_judge l w M o t ht _ K (t + 1) 0 _ (by omega) (by omega) hM (by rw [Nat.sub_zero])
                · skip
                  refine x_aload_n (pc := 149) K 1 d_R_judge_149 rfl ?_
                  refine x_getr (pc := 150) K (n := 278) (n' := 281) (k := 2) (zlt shR) shR rfl hM.1.r281 rfl (by decide) (fun _ q => zmem (uw_R _ q)) (zmem lk_R_17) d_R_judge_150 ?_
                  refine x_iload_n (pc := 153) K 0 d_R_judge_153 rfl ?_
                  refine x_iald (pc := 154) K (n := 281) (j := 12 + t) rfl (by omega) (zlt sh281) sh281 rfl (by decide) d_R_judge_154 ?_
                  refine x_iconst (pc := 155) K (v := 4) d_R_judge_155 (by decide) ?_
                  refine x_callS (pc := 156) K (As := [.int (M.1 281 (12 + t)), .int 4]) (rest := []) (c_R_has l w M (M.1 281 (12 + t)) 4) (zcwS K.ts lk_R_66 sm_R_has ii_R co_R_has pd_R_has ⟨rfl, rfl⟩ ⟨by decide, by decide⟩) rfl rfl (Nat.le_of_ble_eq_true rfl) ⟨Nat.zero_le _, Nat.zero_le _⟩ d_R_judge_156 ?_
                  refine x_ifeqB (pc := 159) K (tgt := 169) d_R_judge_159 (by decide) (fun c159 => ?_) (fun c159 => ?_)
                  · skip
                    refine x_iconst (pc := 169) K (v := nI 0) d_R_judge_169 (by decide) ?_
                    refine x_istore_n (pc := 170) K (lv' := [(3, .int (nI 0)), (2, .int (nI (12 + t))), (0, .ref (w.2.2 + 278)), (1, .int (nI t))]) d_R_judge_170 (by decide) rfl ?_
                    have e1 : jga M t 2 2 = M := if_neg (fun q => c91 q.1)
                    have e2 : jga (M) t 3 4 = M := if_neg (fun q => c159 q.2.2)
                    rw [show jg M t = jg4 M t from by unfold jg; rw [if_neg (fun q => q.elim c11 (fun z => z c24)), if_neg (fun q => q.elim c34 (fun z => z c47)), if_pos c72]]
                    unfold jg4
                    rw [e1, e2]
                    refine x_lv [0, 1, 2, 3] rfl ?_
                    exact l1_R_judge l w M o t ht _ K (t + 1) 0 _ (by omega) (by omega) hM (by rw [Nat.sub_zero])
                  · skip
                    refine x_aload_n (pc := 162) K 1 d_R_judge_162 rfl ?_
                    refine x_iconst (pc := 163) K (v := nI 3) d_R_judge_163 (by decide) ?_
                    refine x_iload_n (pc := 164) K 2 d_R_judge_164 rfl ?_
                    refine x_iconst (pc := 165) K (v := (-1)) d_R_judge_165 (by decide) ?_
                    refine x_callVv (pc := 166) K (As := [.int (nI 3), .int (nI t), .int (-1)]) (rest := []) (c_R_tell l w M o hM.1 3 t (by omega) (by omega) (-1)) (zcwV K.ts lk_R_150 im_R_tell se_R_tell ii_R co_R_tell pd_R_tell ⟨rfl, rfl⟩ ⟨by decide, by decide⟩) (zlt shR) shR rfl rfl rfl (Nat.le_of_ble_eq_true rfl) ⟨Nat.zero_le _, Nat.zero_le _⟩ d_R_judge_166 ?_
                    refine x_iconst (pc := 169) K (v := nI 0) d_R_judge_169 (by decide) ?_
                    refine x_istore_n (pc := 170) K (lv' := [(3, .int (nI 0)), (2, .int (nI (12 + t))), (0, .ref (w.2.2 + 278)), (1, .int (nI t))]) d_R_judge_170 (by decide) rfl ?_
                    have e1 : jga M t 2 2 = M := if_neg (fun q => c91 q.1)
                    have e2 : jga (M) t 3 4 = tel M 3 t (-1) := if_pos ⟨c133, c146, c159⟩
                    rw [show jg M t = jg4 M t from by unfold jg; rw [if_neg (fun q => q.elim c11 (fun z => z c24)), if_neg (fun q => q.elim c34 (fun z => z c47)), if_pos c72]]
                    unfold jg4
                    rw [e1, e2]
                    refine x_lv [0, 1, 2, 3] rfl ?_
                    exact l1_R_judge l w M o t ht _ K (t + 1) 0 _ (by omega) (by omega) (mOk_kp hM tel_kp) (by rw [Nat.sub_zero])
            · skip
              refine x_aload_n (pc := 94) K 1 d_R_judge_94 rfl ?_
              refine x_getr (pc := 95) K (n := 278) (n' := 281) (k := 2) (zlt shR) shR rfl hM.1.r281 rfl (by decide) (fun _ q => zmem (uw_R _ q)) (zmem lk_R_17) d_R_judge_95 ?_
              refine x_iload_n (pc := 98) K 2 d_R_judge_98 rfl ?_
              refine x_iald (pc := 99) K (n := 281) (j := t) rfl (by omega) (zlt sh281) sh281 rfl (by decide) d_R_judge_99 ?_
              refine x_iconst (pc := 100) K (v := 2) d_R_judge_100 (by decide) ?_
              refine x_callS (pc := 101) K (As := [.int (M.1 281 t), .int 2]) (rest := []) (c_R_has l w M (M.1 281 t) 2) (zcwS K.ts lk_R_66 sm_R_has ii_R co_R_has pd_R_has ⟨rfl, rfl⟩ ⟨by decide, by decide⟩) rfl rfl (Nat.le_of_ble_eq_true rfl) ⟨Nat.zero_le _, Nat.zero_le _⟩ d_R_judge_101 ?_
              refine x_ifneB (pc := 104) K (tgt := 127) d_R_judge_104 (by decide) (fun c104 => ?_) (fun c104 => ?_)
              · skip
                refine x_aload_n (pc := 127) K 1 d_R_judge_127 rfl ?_
                refine x_getr (pc := 128) K (n := 278) (n' := 280) (k := 1) (zlt shR) shR rfl hM.1.r280 rfl (by decide) (fun _ q => zmem (uw_R _ q)) (zmem lk_R_13) d_R_judge_128 ?_
                refine x_iload_n (pc := 131) K 2 d_R_judge_131 rfl ?_
                refine x_iald (pc := 132) K (n := 280) (j := t) rfl (by omega) (zlt sh280) sh280 rfl (by decide) d_R_judge_132 ?_
                refine x_if_ne (pc := 133) K (tgt := 169) d_R_judge_133 (by decide) (fun c133 => ?_) (fun c133 => ?_)
                · skip
                  refine x_iconst (pc := 169) K (v := nI 0) d_R_judge_169 (by decide) ?_
                  refine x_istore_n (pc := 170) K (lv' := [(3, .int (nI 0)), (2, .int (nI (12 + t))), (0, .ref (w.2.2 + 278)), (1, .int (nI t))]) d_R_judge_170 (by decide) rfl ?_
                  have e1 : jga M t 2 2 = M := if_neg (fun q => q.2.1 c104)
                  have e2 : jga (M) t 3 4 = M := if_neg (fun q => c133 q.1)
                  rw [show jg M t = jg4 M t from by unfold jg; rw [if_neg (fun q => q.elim c11 (fun z => z c24)), if_neg (fun q => q.elim c34 (fun z => z c47)), if_pos c72]]
                  unfold jg4
                  rw [e1, e2]
                  refine x_lv [0, 1, 2, 3] rfl ?_
                  exact l1_R_judge l w M o t ht _ K (t + 1) 0 _ (by omega) (by omega) hM (by rw [Nat.sub_zero])
                · skip
                  refine x_aload_n (pc := 136) K 1 d_R_judge_136 rfl ?_
                  refine x_getr (pc := 137) K (n := 278) (n' := 281) (k := 2) (zlt shR) shR rfl hM.1.r281 rfl (by decide) (fun _ q => zmem (uw_R _ q)) (zmem lk_R_17) d_R_judge_137 ?_
                  refine x_iload_n (pc := 140) K 2 d_R_judge_140 rfl ?_
                  refine x_iald (pc := 141) K (n := 281) (j := t) rfl (by omega) (zlt sh281) sh281 rfl (by decide) d_R_judge_141 ?_
                  refine x_iconst (pc := 142) K (v := 4) d_R_judge_142 (by decide) ?_
                  refine x_callS (pc := 143) K (As := [.int (M.1 281 t), .int 4]) (rest := []) (c_R_has l w M (M.1 281 t) 4) (zcwS K.ts lk_R_66 sm_R_has ii_R co_R_has pd_R_has ⟨rfl, rfl⟩ ⟨by decide, by decide⟩) rfl rfl (Nat.le_of_ble_eq_true rfl) ⟨Nat.zero_le _, Nat.zero_le _⟩ d_R_judge_143 ?_
                  refine x_ifneB (pc := 146) K (tgt := 169) d_R_judge_146 (by decide) (fun c146 => ?_) (fun c146 => ?_)
                  · skip
                    refine x_iconst (pc := 169) K (v := nI 0) d_R_judge_169 (by decide) ?_
                    refine x_istore_n (pc := 170) K (lv' := [(3, .int (nI 0)), (2, .int (nI (12 + t))), (0, .ref (w.2.2 + 278)), (1, .int (nI t))]) d_R_judge_170 (by decide) rfl ?_
                    have e1 : jga M t 2 2 = M := if_neg (fun q => q.2.1 c104)
                    have e2 : jga (M) t 3 4 = M := if_neg (fun q => q.2.1 c146)
                    rw [show jg M t = jg4 M t from by unfold jg; rw [if_neg (fun q => q.elim c11 (fun z => z c24)), if_neg (fun q => q.elim c34 (fun z => z c47)), if_pos c72]]
                    unfold jg4
                    rw [e1, e2]
                    refine x_lv [0, 1, 2, 3] rfl ?_
                    exact l1_R_judge l w M o t ht _ K (t + 1) 0 _ (by omega) (by omega) hM (by rw [Nat.sub_zero])
                  · skip
                    refine x_aload_n (pc := 149) K 1 d_R_judge_149 rfl ?_
                    refine x_getr (pc := 150) K (n := 278) (n' := 281) (k := 2) (zlt shR) shR rfl hM.1.r281 rfl (by decide) (fun _ q => zmem (uw_R _ q)) (zmem lk_R_17) d_R_judge_150 ?_
                    refine x_iload_n (pc := 153) K 0 d_R_judge_153 rfl ?_
                    refine x_iald (pc := 154) K (n := 281) (j := 12 + t) rfl (by omega) (zlt sh281) sh281 rfl (by decide) d_R_judge_154 ?_
                    refine x_iconst (pc := 155) K (v := 4) d_R_judge_155 (by decide) ?_
                    refine x_callS (pc := 156) K (As := [.int (M.1 281 (12 + t)), .int 4]) (rest := []) (c_R_has l w M (M.1 281 (12 + t)) 4) (zcwS K.ts lk_R_66 sm_R_has ii_R co_R_has pd_R_has ⟨rfl, rfl⟩ ⟨by decide, by decide⟩) rfl rfl (Nat.le_of_ble_eq_true rfl) ⟨Nat.zero_le _, Nat.zero_le _⟩ d_R_judge_156 ?_
                    refine x_ifeqB (pc := 159) K (tgt := 169) d_R_judge_159 (by decide) (fun c159 => ?_) (fun c159 => ?_)
                    · skip
                      refine x_iconst (pc := 169) K (v := nI 0) d_R_judge_169 (by decide) ?_
                      refine x_istore_n (pc := 170) K (lv' := [(3, .int (nI 0)), (2, .int (nI (12 + t))), (0, .ref (w.2.2 + 278)), (1, .int (nI t))]) d_R_judge_170 (by decide) rfl ?_
                      have e1 : jga M t 2 2 = M := if_neg (fun q => q.2.1 c104)
                      have e2 : jga (M) t 3 4 = M := if_neg (fun q => c159 q.2.2)
                      rw [show jg M t = jg4 M t from by unfold jg; rw [if_neg (fun q => q.elim c11 (fun z => z c24)), if_neg (fun q => q.elim c34 (fun z => z c47)), if_pos c72]]
                      unfold jg4
                      rw [e1, e2]
                      refine x_lv [0, 1, 2, 3] rfl ?_
                      exact l1_R_judge l w M o t ht _ K (t + 1) 0 _ (by omega) (by omega) hM (by rw [Nat.sub_zero])
                    · skip
                      refine x_aload_n (pc := 162) K 1 d_R_judge_162 rfl ?_
                      refine x_iconst (pc := 163) K (v := nI 3) d_R_judge_163 (by decide) ?_
                      refine x_iload_n (pc := 164) K 2 d_R_judge_164 rfl ?_
                      refine x_iconst (pc := 165) K (v := (-1)) d_R_judge_165 (by decide) ?_
                      refine x_callVv (pc := 166) K (As := [.int (nI 3), .int (nI t), .int (-1)]) (rest := []) (c_R_tell l w M o hM.1 3 t (by omega) (by omega) (-1)) (zcwV K.ts lk_R_150 im_R_tell se_R_tell ii_R co_R_tell pd_R_tell ⟨rfl, rfl⟩ ⟨by decide, by decide⟩) (zlt shR) shR rfl rfl rfl (Nat.le_of_ble_eq_true rfl) ⟨Nat.zero_le _, Nat.zero_le _⟩ d_R_judge_166 ?_
                      refine x_iconst (pc := 169) K (v := nI 0) d_R_judge_169 (by decide) ?_
                      refine x_istore_n (pc := 170) K (lv' := [(3, .int (nI 0)), (2, .int (nI (12 + t))), (0, .ref (w.2.2 + 278)), (1, .int (nI t))]) d_R_judge_170 (by decide) rfl ?_
                      have e1 : jga M t 2 2 = M := if_neg (fun q => q.2.1 c104)
                      have e2 : jga (M) t 3 4 = tel M 3 t (-1) := if_pos ⟨c133, c146, c159⟩
                      rw [show jg M t = jg4 M t from by unfold jg; rw [if_neg (fun q => q.elim c11 (fun z => z c24)), if_neg (fun q => q.elim c34 (fun z => z c47)), if_pos c72]]
                      unfold jg4
                      rw [e1, e2]
                      refine x_lv [0, 1, 2, 3] rfl ?_
                      exact l1_R_judge l w M o t ht _ K (t + 1) 0 _ (by omega) (by omega) (mOk_kp hM tel_kp) (by rw [Nat.sub_zero])
              · skip
                refine x_aload_n (pc := 107) K 1 d_R_judge_107 rfl ?_
                refine x_getr (pc := 108) K (n := 278) (n' := 281) (k := 2) (zlt shR) shR rfl hM.1.r281 rfl (by decide) (fun _ q => zmem (uw_R _ q)) (zmem lk_R_17) d_R_judge_108 ?_
                refine x_iload_n (pc := 111) K 0 d_R_judge_111 rfl ?_
                refine x_iald (pc := 112) K (n := 281) (j := 12 + t) rfl (by omega) (zlt sh281) sh281 rfl (by decide) d_R_judge_112 ?_
                refine x_iconst (pc := 113) K (v := 2) d_R_judge_113 (by decide) ?_
                refine x_callS (pc := 114) K (As := [.int (M.1 281 (12 + t)), .int 2]) (rest := []) (c_R_has l w M (M.1 281 (12 + t)) 2) (zcwS K.ts lk_R_66 sm_R_has ii_R co_R_has pd_R_has ⟨rfl, rfl⟩ ⟨by decide, by decide⟩) rfl rfl (Nat.le_of_ble_eq_true rfl) ⟨Nat.zero_le _, Nat.zero_le _⟩ d_R_judge_114 ?_
                refine x_ifeqB (pc := 117) K (tgt := 127) d_R_judge_117 (by decide) (fun c117 => ?_) (fun c117 => ?_)
                · skip
                  refine x_aload_n (pc := 127) K 1 d_R_judge_127 rfl ?_
                  refine x_getr (pc := 128) K (n := 278) (n' := 280) (k := 1) (zlt shR) shR rfl hM.1.r280 rfl (by decide) (fun _ q => zmem (uw_R _ q)) (zmem lk_R_13) d_R_judge_128 ?_
                  refine x_iload_n (pc := 131) K 2 d_R_judge_131 rfl ?_
                  refine x_iald (pc := 132) K (n := 280) (j := t) rfl (by omega) (zlt sh280) sh280 rfl (by decide) d_R_judge_132 ?_
                  refine x_if_ne (pc := 133) K (tgt := 169) d_R_judge_133 (by decide) (fun c133 => ?_) (fun c133 => ?_)
                  · skip
                    refine x_iconst (pc := 169) K (v := nI 0) d_R_judge_169 (by decide) ?_
                    refine x_istore_n (pc := 170) K (lv' := [(3, .int (nI 0)), (2, .int (nI (12 + t))), (0, .ref (w.2.2 + 278)), (1, .int (nI t))]) d_R_judge_170 (by decide) rfl ?_
                    have e1 : jga M t 2 2 = M := if_neg (fun q => c117 q.2.2)
                    have e2 : jga (M) t 3 4 = M := if_neg (fun q => c133 q.1)
                    rw [show jg M t = jg4 M t from by unfold jg; rw [if_neg (fun q => q.elim c11 (fun z => z c24)), if_neg (fun q => q.elim c34 (fun z => z c47)), if_pos c72]]
                    unfold jg4
                    rw [e1, e2]
                    refine x_lv [0, 1, 2, 3] rfl ?_
                    exact l1_R_judge l w M o t ht _ K (t + 1) 0 _ (by omega) (by omega) hM (by rw [Nat.sub_zero])
                  · skip
                    refine x_aload_n (pc := 136) K 1 d_R_judge_136 rfl ?_
                    refine x_getr (pc := 137) K (n := 278) (n' := 281) (k := 2) (zlt shR) shR rfl hM.1.r281 rfl (by decide) (fun _ q => zmem (uw_R _ q)) (zmem lk_R_17) d_R_judge_137 ?_
                    refine x_iload_n (pc := 140) K 2 d_R_judge_140 rfl ?_
                    refine x_iald (pc := 141) K (n := 281) (j := t) rfl (by omega) (zlt sh281) sh281 rfl (by decide) d_R_judge_141 ?_
                    refine x_iconst (pc := 142) K (v := 4) d_R_judge_142 (by decide) ?_
                    refine x_callS (pc := 143) K (As := [.int (M.1 281 t), .int 4]) (rest := []) (c_R_has l w M (M.1 281 t) 4) (zcwS K.ts lk_R_66 sm_R_has ii_R co_R_has pd_R_has ⟨rfl, rfl⟩ ⟨by decide, by decide⟩) rfl rfl (Nat.le_of_ble_eq_true rfl) ⟨Nat.zero_le _, Nat.zero_le _⟩ d_R_judge_143 ?_
                    refine x_ifneB (pc := 146) K (tgt := 169) d_R_judge_146 (by decide) (fun c146 => ?_) (fun c146 => ?_)
                    · skip
                      refine x_iconst (pc := 169) K (v := nI 0) d_R_judge_169 (by decide) ?_
                      refine x_istore_n (pc := 170) K (lv' := [(3, .int (nI 0)), (2, .int (nI (12 + t))), (0, .ref (w.2.2 + 278)), (1, .int (nI t))]) d_R_judge_170 (by decide) rfl ?_
                      have e1 : jga M t 2 2 = M := if_neg (fun q => c117 q.2.2)
                      have e2 : jga (M) t 3 4 = M := if_neg (fun q => q.2.1 c146)
                      rw [show jg M t = jg4 M t from by unfold jg; rw [if_neg (fun q => q.elim c11 (fun z => z c24)), if_neg (fun q => q.elim c34 (fun z => z c47)), if_pos c72]]
                      unfold jg4
                      rw [e1, e2]
                      refine x_lv [0, 1, 2, 3] rfl ?_
                      exact l1_R_judge l w M o t ht _ K (t + 1) 0 _ (by omega) (by omega) hM (by rw [Nat.sub_zero])
                    · skip
                      refine x_aload_n (pc := 149) K 1 d_R_judge_149 rfl ?_
                      refine x_getr (pc := 150) K (n := 278) (n' := 281) (k := 2) (zlt shR) shR rfl hM.1.r281 rfl (by decide) (fun _ q => zmem (uw_R _ q)) (zmem lk_R_17) d_R_judge_150 ?_
                      refine x_iload_n (pc := 153) K 0 d_R_judge_153 rfl ?_
                      refine x_iald (pc := 154) K (n := 281) (j := 12 + t) rfl (by omega) (zlt sh281) sh281 rfl (by decide) d_R_judge_154 ?_
                      refine x_iconst (pc := 155) K (v := 4) d_R_judge_155 (by decide) ?_
                      refine x_callS (pc := 156) K (As := [.int (M.1 281 (12 + t)), .int 4]) (rest := []) (c_R_has l w M (M.1 281 (12 + t)) 4) (zcwS K.ts lk_R_66 sm_R_has ii_R co_R_has pd_R_has ⟨rfl, rfl⟩ ⟨by decide, by decide⟩) rfl rfl (Nat.le_of_ble_eq_true rfl) ⟨Nat.zero_le _, Nat.zero_le _⟩ d_R_judge_156 ?_
                      refine x_ifeqB (pc := 159) K (tgt := 169) d_R_judge_159 (by decide) (fun c159 => ?_) (fun c159 => ?_)
                      · skip
                        refine x_iconst (pc := 169) K (v := nI 0) d_R_judge_169 (by decide) ?_
                        refine x_istore_n (pc := 170) K (lv' := [(3, .int (nI 0)), (2, .int (nI (12 + t))), (0, .ref (w.2.2 + 278)), (1, .int (nI t))]) d_R_judge_170 (by decide) rfl ?_
                        have e1 : jga M t 2 2 = M := if_neg (fun q => c117 q.2.2)
                        have e2 : jga (M) t 3 4 = M := if_neg (fun q => c159 q.2.2)
                        rw [show jg M t = jg4 M t from by unfold jg; rw [if_neg (fun q => q.elim c11 (fun z => z c24)), if_neg (fun q => q.elim c34 (fun z => z c47)), if_pos c72]]
                        unfold jg4
                        rw [e1, e2]
                        refine x_lv [0, 1, 2, 3] rfl ?_
                        exact l1_R_judge l w M o t ht _ K (t + 1) 0 _ (by omega) (by omega) hM (by rw [Nat.sub_zero])
                      · skip
                        refine x_aload_n (pc := 162) K 1 d_R_judge_162 rfl ?_
                        refine x_iconst (pc := 163) K (v := nI 3) d_R_judge_163 (by decide) ?_
                        refine x_iload_n (pc := 164) K 2 d_R_judge_164 rfl ?_
                        refine x_iconst (pc := 165) K (v := (-1)) d_R_judge_165 (by decide) ?_
                        refine x_callVv (pc := 166) K (As := [.int (nI 3), .int (nI t), .int (-1)]) (rest := []) (c_R_tell l w M o hM.1 3 t (by omega) (by omega) (-1)) (zcwV K.ts lk_R_150 im_R_tell se_R_tell ii_R co_R_tell pd_R_tell ⟨rfl, rfl⟩ ⟨by decide, by decide⟩) (zlt shR) shR rfl rfl rfl (Nat.le_of_ble_eq_true rfl) ⟨Nat.zero_le _, Nat.zero_le _⟩ d_R_judge_166 ?_
                        refine x_iconst (pc := 169) K (v := nI 0) d_R_judge_169 (by decide) ?_
                        refine x_istore_n (pc := 170) K (lv' := [(3, .int (nI 0)), (2, .int (nI (12 + t))), (0, .ref (w.2.2 + 278)), (1, .int (nI t))]) d_R_judge_170 (by decide) rfl ?_
                        have e1 : jga M t 2 2 = M := if_neg (fun q => c117 q.2.2)
                        have e2 : jga (M) t 3 4 = tel M 3 t (-1) := if_pos ⟨c133, c146, c159⟩
                        rw [show jg M t = jg4 M t from by unfold jg; rw [if_neg (fun q => q.elim c11 (fun z => z c24)), if_neg (fun q => q.elim c34 (fun z => z c47)), if_pos c72]]
                        unfold jg4
                        rw [e1, e2]
                        refine x_lv [0, 1, 2, 3] rfl ?_
                        exact l1_R_judge l w M o t ht _ K (t + 1) 0 _ (by omega) (by omega) (mOk_kp hM tel_kp) (by rw [Nat.sub_zero])
                · skip
                  refine x_aload_n (pc := 120) K 1 d_R_judge_120 rfl ?_
                  refine x_iconst (pc := 121) K (v := nI 2) d_R_judge_121 (by decide) ?_
                  refine x_iload_n (pc := 122) K 2 d_R_judge_122 rfl ?_
                  refine x_iconst (pc := 123) K (v := (-1)) d_R_judge_123 (by decide) ?_
                  refine x_callVv (pc := 124) K (As := [.int (nI 2), .int (nI t), .int (-1)]) (rest := []) (c_R_tell l w M o hM.1 2 t (by omega) (by omega) (-1)) (zcwV K.ts lk_R_150 im_R_tell se_R_tell ii_R co_R_tell pd_R_tell ⟨rfl, rfl⟩ ⟨by decide, by decide⟩) (zlt shR) shR rfl rfl rfl (Nat.le_of_ble_eq_true rfl) ⟨Nat.zero_le _, Nat.zero_le _⟩ d_R_judge_124 ?_
                  refine x_aload_n (pc := 127) K 1 d_R_judge_127 rfl ?_
                  refine x_getr (pc := 128) K (n := 278) (n' := 280) (k := 1) (zlt shR) shR rfl (tel_rf hM.1).r280 rfl (by decide) (fun _ q => zmem (uw_R _ q)) (zmem lk_R_13) d_R_judge_128 ?_
                  refine x_iload_n (pc := 131) K 2 d_R_judge_131 rfl ?_
                  refine x_iald (pc := 132) K (n := 280) (j := t) rfl (by omega) (zlt sh280) sh280 rfl (by decide) d_R_judge_132 ?_
                  refine x_if_ne (pc := 133) K (tgt := 169) d_R_judge_133 (by decide) (fun c133 => ?_) (fun c133 => ?_)
                  · skip
                    refine x_iconst (pc := 169) K (v := nI 0) d_R_judge_169 (by decide) ?_
                    refine x_istore_n (pc := 170) K (lv' := [(3, .int (nI 0)), (2, .int (nI (12 + t))), (0, .ref (w.2.2 + 278)), (1, .int (nI t))]) d_R_judge_170 (by decide) rfl ?_
                    have e1 : jga M t 2 2 = tel M 2 t (-1) := if_pos ⟨c91, c104, c117⟩
                    have e2 : jga (tel M 2 t (-1)) t 3 4 = tel M 2 t (-1) := if_neg (fun q => c133 q.1)
                    rw [show jg M t = jg4 M t from by unfold jg; rw [if_neg (fun q => q.elim c11 (fun z => z c24)), if_neg (fun q => q.elim c34 (fun z => z c47)), if_pos c72]]
                    unfold jg4
                    rw [e1, e2]
                    refine x_lv [0, 1, 2, 3] rfl ?_
                    exact l1_R_judge l w M o t ht _ K (t + 1) 0 _ (by omega) (by omega) (mOk_kp hM tel_kp) (by rw [Nat.sub_zero])
                  · skip
                    refine x_aload_n (pc := 136) K 1 d_R_judge_136 rfl ?_
                    refine x_getr (pc := 137) K (n := 278) (n' := 281) (k := 2) (zlt shR) shR rfl (tel_rf hM.1).r281 rfl (by decide) (fun _ q => zmem (uw_R _ q)) (zmem lk_R_17) d_R_judge_137 ?_
                    refine x_iload_n (pc := 140) K 2 d_R_judge_140 rfl ?_
                    refine x_iald (pc := 141) K (n := 281) (j := t) rfl (by omega) (zlt sh281) sh281 rfl (by decide) d_R_judge_141 ?_
                    refine x_iconst (pc := 142) K (v := 4) d_R_judge_142 (by decide) ?_
                    refine x_callS (pc := 143) K (As := [.int ((tel M 2 t (-1)).1 281 t), .int 4]) (rest := []) (c_R_has l w (tel M 2 t (-1)) ((tel M 2 t (-1)).1 281 t) 4) (zcwS K.ts lk_R_66 sm_R_has ii_R co_R_has pd_R_has ⟨rfl, rfl⟩ ⟨by decide, by decide⟩) rfl rfl (Nat.le_of_ble_eq_true rfl) ⟨Nat.zero_le _, Nat.zero_le _⟩ d_R_judge_143 ?_
                    refine x_ifneB (pc := 146) K (tgt := 169) d_R_judge_146 (by decide) (fun c146 => ?_) (fun c146 => ?_)
                    · skip
                      refine x_iconst (pc := 169) K (v := nI 0) d_R_judge_169 (by decide) ?_
                      refine x_istore_n (pc := 170) K (lv' := [(3, .int (nI 0)), (2, .int (nI (12 + t))), (0, .ref (w.2.2 + 278)), (1, .int (nI t))]) d_R_judge_170 (by decide) rfl ?_
                      have e1 : jga M t 2 2 = tel M 2 t (-1) := if_pos ⟨c91, c104, c117⟩
                      have e2 : jga (tel M 2 t (-1)) t 3 4 = tel M 2 t (-1) := if_neg (fun q => q.2.1 c146)
                      rw [show jg M t = jg4 M t from by unfold jg; rw [if_neg (fun q => q.elim c11 (fun z => z c24)), if_neg (fun q => q.elim c34 (fun z => z c47)), if_pos c72]]
                      unfold jg4
                      rw [e1, e2]
                      refine x_lv [0, 1, 2, 3] rfl ?_
                      exact l1_R_judge l w M o t ht _ K (t + 1) 0 _ (by omega) (by omega) (mOk_kp hM tel_kp) (by rw [Nat.sub_zero])
                    · skip
                      refine x_aload_n (pc := 149) K 1 d_R_judge_149 rfl ?_
                      refine x_getr (pc := 150) K (n := 278) (n' := 281) (k := 2) (zlt shR) shR rfl (tel_rf hM.1).r281 rfl (by decide) (fun _ q => zmem (uw_R _ q)) (zmem lk_R_17) d_R_judge_150 ?_
                      refine x_iload_n (pc := 153) K 0 d_R_judge_153 rfl ?_
                      refine x_iald (pc := 154) K (n := 281) (j := 12 + t) rfl (by omega) (zlt sh281) sh281 rfl (by decide) d_R_judge_154 ?_
                      refine x_iconst (pc := 155) K (v := 4) d_R_judge_155 (by decide) ?_
                      refine x_callS (pc := 156) K (As := [.int ((tel M 2 t (-1)).1 281 (12 + t)), .int 4]) (rest := []) (c_R_has l w (tel M 2 t (-1)) ((tel M 2 t (-1)).1 281 (12 + t)) 4) (zcwS K.ts lk_R_66 sm_R_has ii_R co_R_has pd_R_has ⟨rfl, rfl⟩ ⟨by decide, by decide⟩) rfl rfl (Nat.le_of_ble_eq_true rfl) ⟨Nat.zero_le _, Nat.zero_le _⟩ d_R_judge_156 ?_
                      refine x_ifeqB (pc := 159) K (tgt := 169) d_R_judge_159 (by decide) (fun c159 => ?_) (fun c159 => ?_)
                      · skip
                        refine x_iconst (pc := 169) K (v := nI 0) d_R_judge_169 (by decide) ?_
                        refine x_istore_n (pc := 170) K (lv' := [(3, .int (nI 0)), (2, .int (nI (12 + t))), (0, .ref (w.2.2 + 278)), (1, .int (nI t))]) d_R_judge_170 (by decide) rfl ?_
                        have e1 : jga M t 2 2 = tel M 2 t (-1) := if_pos ⟨c91, c104, c117⟩
                        have e2 : jga (tel M 2 t (-1)) t 3 4 = tel M 2 t (-1) := if_neg (fun q => c159 q.2.2)
                        rw [show jg M t = jg4 M t from by unfold jg; rw [if_neg (fun q => q.elim c11 (fun z => z c24)), if_neg (fun q => q.elim c34 (fun z => z c47)), if_pos c72]]
                        unfold jg4
                        rw [e1, e2]
                        refine x_lv [0, 1, 2, 3] rfl ?_
                        exact l1_R_judge l w M o t ht _ K (t + 1) 0 _ (by omega) (by omega) (mOk_kp hM tel_kp) (by rw [Nat.sub_zero])
                      · skip
                        refine x_aload_n (pc := 162) K 1 d_R_judge_162 rfl ?_
                        refine x_iconst (pc := 163) K (v := nI 3) d_R_judge_163 (by decide) ?_
                        refine x_iload_n (pc := 164) K 2 d_R_judge_164 rfl ?_
                        refine x_iconst (pc := 165) K (v := (-1)) d_R_judge_165 (by decide) ?_
                        refine x_callVv (pc := 166) K (As := [.int (nI 3), .int (nI t), .int (-1)]) (rest := []) (c_R_tell l w (tel M 2 t (-1)) o (tel_rf hM.1) 3 t (by omega) (by omega) (-1)) (zcwV K.ts lk_R_150 im_R_tell se_R_tell ii_R co_R_tell pd_R_tell ⟨rfl, rfl⟩ ⟨by decide, by decide⟩) (zlt shR) shR rfl rfl rfl (Nat.le_of_ble_eq_true rfl) ⟨Nat.zero_le _, Nat.zero_le _⟩ d_R_judge_166 ?_
                        refine x_iconst (pc := 169) K (v := nI 0) d_R_judge_169 (by decide) ?_
                        refine x_istore_n (pc := 170) K (lv' := [(3, .int (nI 0)), (2, .int (nI (12 + t))), (0, .ref (w.2.2 + 278)), (1, .int (nI t))]) d_R_judge_170 (by decide) rfl ?_
                        have e1 : jga M t 2 2 = tel M 2 t (-1) := if_pos ⟨c91, c104, c117⟩
                        have e2 : jga (tel M 2 t (-1)) t 3 4 = tel (tel M 2 t (-1)) 3 t (-1) := if_pos ⟨c133, c146, c159⟩
                        rw [show jg M t = jg4 M t from by unfold jg; rw [if_neg (fun q => q.elim c11 (fun z => z c24)), if_neg (fun q => q.elim c34 (fun z => z c47)), if_pos c72]]
                        unfold jg4
                        rw [e1, e2]
                        refine x_lv [0, 1, 2, 3] rfl ?_
                        exact l1_R_judge l w M o t ht _ K (t + 1) 0 _ (by omega) (by omega) (mOk_kp (mOk_kp hM tel_kp) tel_kp) (by rw [Nat.sub_zero])
          · skip
            refine x_aload_n (pc := 75) K 1 d_R_judge_75 rfl ?_
            refine x_iconst (pc := 76) K (v := nI 1) d_R_judge_76 (by decide) ?_
            refine x_iload_n (pc := 77) K 2 d_R_judge_77 rfl ?_
            refine x_iconst (pc := 78) K (v := (-1)) d_R_judge_78 (by decide) ?_
            refine x_callVv (pc := 79) K (As := [.int (nI 1), .int (nI t), .int (-1)]) (rest := []) (c_R_tell l w M o hM.1 1 t (by omega) (by omega) (-1)) (zcwV K.ts lk_R_150 im_R_tell se_R_tell ii_R co_R_tell pd_R_tell ⟨rfl, rfl⟩ ⟨by decide, by decide⟩) (zlt shR) shR rfl rfl rfl (Nat.le_of_ble_eq_true rfl) ⟨Nat.zero_le _, Nat.zero_le _⟩ d_R_judge_79 ?_
            refine x_goto (pc := 82) K (tgt := 243) d_R_judge_82 (by decide) ?_
            exact x_vret (pc := 243) K rfl (by unfold jg; rw [if_neg (fun q => q.elim c11 (fun z => z c24)), if_neg (fun q => q.elim c34 (fun z => z c47)), if_neg c72]) d_R_judge_243
        · skip
          refine x_aload_n (pc := 50) K 1 d_R_judge_50 rfl ?_
          refine x_iconst (pc := 51) K (v := nI 0) d_R_judge_51 (by decide) ?_
          refine x_iload_n (pc := 52) K 2 d_R_judge_52 rfl ?_
          refine x_iconst (pc := 53) K (v := (-1)) d_R_judge_53 (by decide) ?_
          refine x_callVv (pc := 54) K (As := [.int (nI 0), .int (nI t), .int (-1)]) (rest := []) (c_R_tell l w M o hM.1 0 t (by omega) (by omega) (-1)) (zcwV K.ts lk_R_150 im_R_tell se_R_tell ii_R co_R_tell pd_R_tell ⟨rfl, rfl⟩ ⟨by decide, by decide⟩) (zlt shR) shR rfl rfl rfl (Nat.le_of_ble_eq_true rfl) ⟨Nat.zero_le _, Nat.zero_le _⟩ d_R_judge_54 ?_
          refine x_goto (pc := 57) K (tgt := 243) d_R_judge_57 (by decide) ?_
          exact x_vret (pc := 243) K rfl (by unfold jg; rw [if_neg (fun q => q.elim c11 (fun z => z c24)), if_pos (Or.inr c47)]) d_R_judge_243
    · skip
      exact x_vret (pc := 27) K rfl ((if_pos (Or.inr c24)).symm) d_R_judge_27
def alc (M : fl_M) : Nat → Nat → fl_M
  | _, 0 => M
  | i, k + 1 => alc (wI M 294 i 0) (i + 1) k
noncomputable def alj (M : fl_M) : Nat → Nat → fl_M
  | _, 0 => M
  | t, k + 1 => alj (jg M t) (t + 1) k
noncomputable def xAl (M : fl_M) (d : Int32) : fl_M := alj (alc (wI (wI (wI M 278 15 d) 278 16 0) 278 20 0) 0 14) 0 12
theorem alc_kp : ∀ (k i : Nat) (M : fl_M), kpR M (alc M i k) := by
  intro k
  induction k with
  | zero => intro i M; exact kpR.rf
  | succ k ih => intro i M; rw [alc]; exact kpR.tr ⟨fun a k h1 h2 => rdI_ne (Or.inl (by omega)), rfl⟩ (ih _ _)
theorem alj_kp : ∀ (k i : Nat) (M : fl_M), kpR M (alj M i k) := by
  intro k
  induction k with
  | zero => intro i M; exact kpR.rf
  | succ k ih => intro i M; rw [alj]; exact jg_kp.tr (ih _ _)
theorem al0_kp {M : fl_M} {d : Int32} : kpR M (wI (wI (wI M 278 15 d) 278 16 0) 278 20 0) := ⟨fun a k h1 h2 => by rw [rdI_ne (Or.inl (by omega)), rdI_ne (Or.inl (by omega)), rdI_ne (Or.inl (by omega))], rfl⟩
theorem xAl_kp {M : fl_M} {d : Int32} : kpR M (xAl M d) := (al0_kp.tr (alc_kp _ _ _)).tr (alj_kp _ _ _)
set_option maxHeartbeats 4000000 in
set_option maxRecDepth 100000 in
theorem l2_R_all (l : Launch) (w : fl_W) (M : fl_M) (o : Nat) (d : Int32) (Y : fl_M) {p9 : Program} {e9 : Env} {s9 : State} {m9 : MethodId} {ag9 : Array Value} {bl9 : List Frame} {mt9 : Method} {c9 : Code} (K : XC p9 s9 m9 ag9 mt9 c9 b_R_all 3 none w_R_all "CompatibilityJudgeModel" w) : ∀ (k : Nat) (i : Nat) (X : fl_M), i ≤ 12 → 12 + 1 ≤ i + k → mOk o X → alj X i (12 - i) = Y → XW p9 l e9 (rm_R_all) s9 m9 ag9 bl9 mt9 c9 3 0 0 (MQ bl9 (CQ w zN none Y) ag9 s9 0 0 (fun q : Nat => w.2.2 ≤ q)) w zN X 38 [(2, .int (nI i)), (0, .ref (w.2.2 + 278)), (1, .int d)] [] := by
  intro k
  induction k with
  | zero =>
    intro i X hi hk
    exact absurd hk (by omega)
  | succ k ih =>
    intro i X hi hk hX hf
    refine x_iload_n (pc := 38) K 0 d_R_all_38 rfl ?_
    refine x_bipush (pc := 39) K (v := nI 12) d_R_all_39 (by decide) ?_
    refine x_icmp_ge (pc := 41) K (tgt := 55) d_R_all_41 (by decide) (fun c41 => ?_) (fun c41 => ?_)
    · skip
      have hic : i = 12 := by have := (nI_leI (a := 12) (by omega) (by omega)).mp c41; omega
      rw [hic, Nat.sub_self] at hf
      exact x_vret (pc := 55) K rfl (by subst hf; rfl) d_R_all_55
    · skip
      have hic : i < 12 := Nat.not_le.mp (fun q => c41 (nI_le (a := 12) q (by omega)))
      rw [show 12 - i = (12 - (i + 1)) + 1 by omega, alj] at hf
      refine x_aload_n (pc := 44) K 1 d_R_all_44 rfl ?_
      refine x_iload_n (pc := 45) K 0 d_R_all_45 rfl ?_
      refine x_callVv (pc := 46) K (As := [.int (nI i)]) (rest := []) (c_R_judge l w X o hX i (by omega)) (zcwV K.ts lk_R_159 im_R_judge se_R_judge ii_R co_R_judge pd_R_judge ⟨rfl, rfl⟩ ⟨by decide, by decide⟩) (zlt shR) shR rfl rfl rfl (Nat.le_of_ble_eq_true rfl) ⟨Nat.zero_le _, Nat.zero_le _⟩ d_R_all_46 ?_
      refine x_iinc (pc := 49) K (v := nI (i + 1)) (lv' := [(2, .int (nI (i + 1))), (0, .ref (w.2.2 + 278)), (1, .int d)]) 0 d_R_all_49 rfl (nI_1 _) (by decide) rfl ?_
      refine x_goto (pc := 52) K (tgt := 38) d_R_all_52 (by decide) ?_
      exact ih (i + 1) _ (by omega) (by omega) (mOk_kp hX jg_kp) hf
set_option maxHeartbeats 4000000 in
set_option maxRecDepth 100000 in
theorem l1_R_all (l : Launch) (w : fl_W) (M : fl_M) (o : Nat) (d : Int32) (Y : fl_M) {p9 : Program} {e9 : Env} {s9 : State} {m9 : MethodId} {ag9 : Array Value} {bl9 : List Frame} {mt9 : Method} {c9 : Code} (K : XC p9 s9 m9 ag9 mt9 c9 b_R_all 3 none w_R_all "CompatibilityJudgeModel" w) : ∀ (k : Nat) (i : Nat) (X : fl_M), i ≤ 14 → 14 + 1 ≤ i + k → mOk o X → alc X i (14 - i) = Y → XW p9 l e9 (rm_R_all) s9 m9 ag9 bl9 mt9 c9 3 0 0 (MQ bl9 (CQ w zN none (alj Y 0 12)) ag9 s9 0 0 (fun q : Nat => w.2.2 ≤ q)) w zN X 17 [(2, .int (nI i)), (0, .ref (w.2.2 + 278)), (1, .int d)] [] := by
  intro k
  induction k with
  | zero =>
    intro i X hi hk
    exact absurd hk (by omega)
  | succ k ih =>
    intro i X hi hk hX hf
    refine x_iload_n (pc := 17) K 0 d_R_all_17 rfl ?_
    refine x_bipush (pc := 18) K (v := nI 14) d_R_all_18 (by decide) ?_
    refine x_icmp_ge (pc := 20) K (tgt := 36) d_R_all_20 (by decide) (fun c20 => ?_) (fun c20 => ?_)
    · skip
      have hic : i = 14 := by have := (nI_leI (a := 14) (by omega) (by omega)).mp c20; omega
      rw [hic, Nat.sub_self] at hf
      refine x_iconst (pc := 36) K (v := nI 0) d_R_all_36 (by decide) ?_
      refine x_istore_n (pc := 37) K (lv' := [(2, .int (nI 0)), (0, .ref (w.2.2 + 278)), (1, .int d)]) d_R_all_37 (by decide) rfl ?_
      have hf : X = Y := hf
      subst hf
      refine x_lv [0, 1, 2] rfl ?_
      exact l2_R_all l w M o d _ K 13 0 X (by omega) (by omega) hX rfl
    · skip
      have hic : i < 14 := Nat.not_le.mp (fun q => c20 (nI_le (a := 14) q (by omega)))
      rw [show 14 - i = (14 - (i + 1)) + 1 by omega, alc] at hf
      refine x_aload_n (pc := 23) K 1 d_R_all_23 rfl ?_
      refine x_getr (pc := 24) K (n := 278) (n' := 294) (k := 21) (zlt shR) shR rfl hX.1.r294 rfl (by decide) (fun _ q => zmem (uw_R _ q)) (zmem lk_R_56) d_R_all_24 ?_
      refine x_iload_n (pc := 27) K 0 d_R_all_27 rfl ?_
      refine x_iconst (pc := 28) K (v := 0) d_R_all_28 (by decide) ?_
      refine x_iast (pc := 29) K (n := 294) (j := i) (x := 0) rfl (by omega) (zlt sh294) sh294 rfl (by decide) d_R_all_29 ?_
      refine x_iinc (pc := 30) K (v := nI (i + 1)) (lv' := [(2, .int (nI (i + 1))), (0, .ref (w.2.2 + 278)), (1, .int d)]) 0 d_R_all_30 rfl (nI_1 _) (by decide) rfl ?_
      refine x_goto (pc := 33) K (tgt := 17) d_R_all_33 (by decide) ?_
      exact ih (i + 1) _ (by omega) (by omega) (mOk_kp hX ⟨fun a k h1 h2 => rdI_ne (Or.inl (by omega)), rfl⟩) hf
set_option maxHeartbeats 4000000 in
set_option maxRecDepth 100000 in
theorem c_R_all (l : Launch) (w : fl_W) (M : fl_M) (o : Nat) (hM : mOk o M) (d : Int32) : CT l y_R_all w_R_all rm_R_all w zN [.ref (w.2.2 + 278), .int d] M none (xAl M d) := by
  refine CT.of (cc := b_R_all) (own := "CompatibilityJudgeModel") (by decide) rfl rfl (Nat.le_of_ble_eq_true rfl) ?_
  intro p9 e9 s9 m9 ag9 bl9 mt9 c9 K
  show XW p9 l e9 (rm_R_all) s9 m9 ag9 bl9 mt9 c9 3 0 0 (MQ bl9 (CQ w zN none (xAl M d)) ag9 s9 0 0 (fun q : Nat => w.2.2 ≤ q)) w zN M 0 [(0, .ref (w.2.2 + 278)), (1, .int d)] []
  refine x_aload_n (pc := 0) K 0 d_R_all_0 rfl ?_
  refine x_iload_n (pc := 1) K 1 d_R_all_1 rfl ?_
  refine x_puti (pc := 2) K (n := 278) (k := 15) (x := d) uY_R tk_R nm_R (zlt shR) shR rfl rfl (by decide) (fun _ q => zmem (uw_R _ q)) (zmem lk_R_128) rfl rfl rfl d_R_all_2 ?_
  refine x_aload_n (pc := 5) K 0 d_R_all_5 rfl ?_
  refine x_iconst (pc := 6) K (v := 0) d_R_all_6 (by decide) ?_
  refine x_puti (pc := 7) K (n := 278) (k := 16) (x := 0) uY_R tk_R nm_R (zlt shR) shR rfl rfl (by decide) (fun _ q => zmem (uw_R _ q)) (zmem lk_R_124) rfl rfl rfl d_R_all_7 ?_
  refine x_aload_n (pc := 10) K 0 d_R_all_10 rfl ?_
  refine x_iconst (pc := 11) K (v := 0) d_R_all_11 (by decide) ?_
  refine x_puti (pc := 12) K (n := 278) (k := 20) (x := 0) uY_R tk_R nm_R (zlt shR) shR rfl rfl (by decide) (fun _ q => zmem (uw_R _ q)) (zmem lk_R_143) rfl rfl rfl d_R_all_12 ?_
  refine x_iconst (pc := 15) K (v := nI 0) d_R_all_15 (by decide) ?_
  refine x_istore_n (pc := 16) K (lv' := [(2, .int (nI 0)), (0, .ref (w.2.2 + 278)), (1, .int d)]) d_R_all_16 (by decide) rfl ?_
  unfold xAl
  exact l1_R_all l w M o d _ K 15 0 _ (by omega) (by omega) (mOk_kp hM al0_kp) rfl
set_option maxHeartbeats 4000000 in
set_option maxRecDepth 100000 in
theorem c_R_findings (l : Launch) (w : fl_W) (M : fl_M) (o : Nat) (hM : mOk o M) : CT l y_R_findings w_R_findings rm_R_findings w zN [.ref (w.2.2 + 278)] M (some (.int ((xAl M (-1)).1 278 16))) (xAl M (-1)) := by
  refine CT.of (cc := b_R_findings) (own := "CompatibilityJudgeModel") (by decide) rfl rfl (Nat.le_of_ble_eq_true rfl) ?_
  intro p9 e9 s9 m9 ag9 bl9 mt9 c9 K
  have ha9 : CT l y_R_all w_R_all rm_R_all w zN [.ref (w.2.2 + 278), .int (-1)] M none (xAl M (-1)) := c_R_all l w M o hM (-1)
  have hY := mOk_kp hM (xAl_kp (d := (-1)))
  generalize xAl M (-1) = Y at ha9 hY ⊢
  show XW p9 l e9 (rm_R_findings) s9 m9 ag9 bl9 mt9 c9 1 0 0 (MQ bl9 (CQ w zN (some (.int ((Y).1 278 16))) (Y)) ag9 s9 0 0 (fun q : Nat => w.2.2 ≤ q)) w zN M 0 [(0, .ref (w.2.2 + 278))] []
  refine x_aload_n (pc := 0) K 0 d_R_findings_0 rfl ?_
  refine x_iconst (pc := 1) K (v := (-1)) d_R_findings_1 (by decide) ?_
  refine x_callVv (pc := 2) K (As := [.int (-1)]) (rest := []) ha9 (zcwV K.ts lk_R_163 im_R_all se_R_all ii_R co_R_all pd_R_all ⟨rfl, rfl⟩ ⟨by decide, by decide⟩) (zlt shR) shR rfl rfl rfl (Nat.le_of_ble_eq_true rfl) ⟨Nat.zero_le _, Nat.zero_le _⟩ d_R_findings_2 ?_
  refine x_aload_n (pc := 5) K 0 d_R_findings_5 rfl ?_
  refine x_geti (pc := 6) K (n := 278) (k := 16) (zlt shR) shR rfl rfl (by decide) (fun _ q => zmem (uw_R _ q)) (zmem lk_R_124) d_R_findings_6 ?_
  exact x_iret (pc := 9) K (rfl) (rfl) d_R_findings_9
set_option maxHeartbeats 4000000 in
set_option maxRecDepth 100000 in
theorem c_R_verdict (l : Launch) (w : fl_W) (M : fl_M) (o : Nat) (hM : mOk o M) : CT l y_R_verdict w_R_verdict rm_R_verdict w zN [.ref (w.2.2 + 278)] M (some (.int ((xAl M (-1)).1 278 20))) (xAl M (-1)) := by
  refine CT.of (cc := b_R_verdict) (own := "CompatibilityJudgeModel") (by decide) rfl rfl (Nat.le_of_ble_eq_true rfl) ?_
  intro p9 e9 s9 m9 ag9 bl9 mt9 c9 K
  have ha9 : CT l y_R_all w_R_all rm_R_all w zN [.ref (w.2.2 + 278), .int (-1)] M none (xAl M (-1)) := c_R_all l w M o hM (-1)
  have hY := mOk_kp hM (xAl_kp (d := (-1)))
  generalize xAl M (-1) = Y at ha9 hY ⊢
  show XW p9 l e9 (rm_R_verdict) s9 m9 ag9 bl9 mt9 c9 1 0 0 (MQ bl9 (CQ w zN (some (.int ((Y).1 278 20))) (Y)) ag9 s9 0 0 (fun q : Nat => w.2.2 ≤ q)) w zN M 0 [(0, .ref (w.2.2 + 278))] []
  refine x_aload_n (pc := 0) K 0 d_R_verdict_0 rfl ?_
  refine x_iconst (pc := 1) K (v := (-1)) d_R_verdict_1 (by decide) ?_
  refine x_callVv (pc := 2) K (As := [.int (-1)]) (rest := []) ha9 (zcwV K.ts lk_R_163 im_R_all se_R_all ii_R co_R_all pd_R_all ⟨rfl, rfl⟩ ⟨by decide, by decide⟩) (zlt shR) shR rfl rfl rfl (Nat.le_of_ble_eq_true rfl) ⟨Nat.zero_le _, Nat.zero_le _⟩ d_R_verdict_2 ?_
  refine x_aload_n (pc := 5) K 0 d_R_verdict_5 rfl ?_
  refine x_geti (pc := 6) K (n := 278) (k := 20) (zlt shR) shR rfl rfl (by decide) (fun _ q => zmem (uw_R _ q)) (zmem lk_R_143) d_R_verdict_6 ?_
  exact x_iret (pc := 9) K (rfl) (rfl) d_R_verdict_9
set_option maxHeartbeats 4000000 in
set_option maxRecDepth 100000 in
theorem c_R_byRule (l : Launch) (w : fl_W) (M : fl_M) (o : Nat) (hM : mOk o M) (r : Int32) : CT l y_R_byRule w_R_byRule rm_R_byRule w zN [.ref (w.2.2 + 278), .int r] M (some (.int (if r < 0 ∨ (13 : Int32) < r then -1 else (xAl M (-1)).1 294 (ix r)))) (if r < 0 ∨ (13 : Int32) < r then M else xAl M (-1)) := by
  refine CT.of (cc := b_R_byRule) (own := "CompatibilityJudgeModel") (by decide) rfl rfl (Nat.le_of_ble_eq_true rfl) ?_
  intro p9 e9 s9 m9 ag9 bl9 mt9 c9 K
  have ha9 : CT l y_R_all w_R_all rm_R_all w zN [.ref (w.2.2 + 278), .int (-1)] M none (xAl M (-1)) := c_R_all l w M o hM (-1)
  have hY := mOk_kp hM (xAl_kp (d := (-1)))
  generalize xAl M (-1) = Y at ha9 hY ⊢
  show XW p9 l e9 (rm_R_byRule) s9 m9 ag9 bl9 mt9 c9 2 0 0 (MQ bl9 (CQ w zN (some (.int (if r < 0 ∨ (13 : Int32) < r then -1 else (Y).1 294 (ix r)))) (if r < 0 ∨ (13 : Int32) < r then M else Y)) ag9 s9 0 0 (fun q : Nat => w.2.2 ≤ q)) w zN M 0 [(0, .ref (w.2.2 + 278)), (1, .int r)] []
  refine x_iload_n (pc := 0) K 1 d_R_byRule_0 rfl ?_
  refine x_bipush (pc := 1) K (v := 13) d_R_byRule_1 (by decide) ?_
  refine x_callS (pc := 3) K (As := [.int r, .int 13]) (rest := []) (c_R_out l w M r 13) (zcwS K.ts lk_R_59 sm_R_out ii_R co_R_out pd_R_out ⟨rfl, rfl⟩ ⟨by decide, by decide⟩) rfl rfl (Nat.le_of_ble_eq_true rfl) ⟨Nat.zero_le _, Nat.zero_le _⟩ d_R_byRule_3 ?_
  refine x_ifeqB (pc := 6) K (tgt := 11) d_R_byRule_6 (by decide) (fun c6 => ?_) (fun c6 => ?_)
  · skip
    have hr0 := (out_in (h := 13) (n := 14) (by omega) (by decide) (by decide) (by omega)).mp c6
    have hrx := ix_of 14 (by omega) hr0.1 hr0.2
    refine x_aload_n (pc := 11) K 0 d_R_byRule_11 rfl ?_
    refine x_iconst (pc := 12) K (v := (-1)) d_R_byRule_12 (by decide) ?_
    refine x_callVv (pc := 13) K (As := [.int (-1)]) (rest := []) ha9 (zcwV K.ts lk_R_163 im_R_all se_R_all ii_R co_R_all pd_R_all ⟨rfl, rfl⟩ ⟨by decide, by decide⟩) (zlt shR) shR rfl rfl rfl (Nat.le_of_ble_eq_true rfl) ⟨Nat.zero_le _, Nat.zero_le _⟩ d_R_byRule_13 ?_
    refine x_aload_n (pc := 16) K 0 d_R_byRule_16 rfl ?_
    refine x_getr (pc := 17) K (n := 278) (n' := 294) (k := 21) (zlt shR) shR rfl hY.1.r294 rfl (by decide) (fun _ q => zmem (uw_R _ q)) (zmem lk_R_56) d_R_byRule_17 ?_
    refine x_iload_n (pc := 20) K 1 d_R_byRule_20 rfl ?_
    refine x_iald (pc := 21) K (n := 294) (j := ix r) hrx.1 hrx.2 (zlt sh294) sh294 rfl (by decide) d_R_byRule_21 ?_
    exact x_iret (pc := 22) K (by rw [if_neg c6]) (by rw [if_neg c6]) d_R_byRule_22
  · skip
    refine x_iconst (pc := 9) K (v := (-1)) d_R_byRule_9 (by decide) ?_
    exact x_iret (pc := 10) K (by rw [if_pos c6]) (by rw [if_pos c6]) d_R_byRule_10
abbrev rf5 (μ : Nat → Nat → Int32) (x : Int32) : Int32 := if x = 0 then μ 278 17 else if x = 1 then μ 278 18 else if ¬ (3 : Int32) ≤ x then μ 278 19 else if x = 3 then sev (μ 278 17) else if μ 291 (12 * ix (μ 278 17) + ix (μ 278 18)) = 0 then 0 else 1
set_option maxHeartbeats 4000000 in
set_option maxRecDepth 100000 in
theorem c_R_finding (l : Launch) (w : fl_W) (M : fl_M) (o : Nat) (hM : mOk o M) (i x : Int32) (hg : ¬ i < 0 → ¬ (xAl M i).1 278 16 ≤ i → inL 14 ((xAl M i).1 278 17) ∧ inL 12 ((xAl M i).1 278 18)) : CT l y_R_finding w_R_finding rm_R_finding w zN [.ref (w.2.2 + 278), .int i, .int x] M (some (.int (if ¬ i < 0 ∧ ¬ (xAl M i).1 278 16 ≤ i ∧ ¬ (x < 0 ∨ (4 : Int32) < x) then rf5 (xAl M i).1 x else -1))) (xAl M i) := by
  refine CT.of (cc := b_R_finding) (own := "CompatibilityJudgeModel") (by decide) rfl rfl (Nat.le_of_ble_eq_true rfl) ?_
  intro p9 e9 s9 m9 ag9 bl9 mt9 c9 K
  have ha9 : CT l y_R_all w_R_all rm_R_all w zN [.ref (w.2.2 + 278), .int i] M none (xAl M i) := c_R_all l w M o hM i
  have hY := mOk_kp hM (xAl_kp (d := i))
  generalize xAl M i = Y at ha9 hY hg ⊢
  show XW p9 l e9 (rm_R_finding) s9 m9 ag9 bl9 mt9 c9 3 0 0 (MQ bl9 (CQ w zN (some (.int (if ¬ i < 0 ∧ ¬ (Y).1 278 16 ≤ i ∧ ¬ (x < 0 ∨ (4 : Int32) < x) then rf5 (Y).1 x else -1))) (Y)) ag9 s9 0 0 (fun q : Nat => w.2.2 ≤ q)) w zN M 0 [(0, .ref (w.2.2 + 278)), (1, .int i), (2, .int x)] []
  refine x_aload_n (pc := 0) K 0 d_R_finding_0 rfl ?_
  refine x_iload_n (pc := 1) K 1 d_R_finding_1 rfl ?_
  refine x_callVv (pc := 2) K (As := [.int i]) (rest := []) ha9 (zcwV K.ts lk_R_163 im_R_all se_R_all ii_R co_R_all pd_R_all ⟨rfl, rfl⟩ ⟨by decide, by decide⟩) (zlt shR) shR rfl rfl rfl (Nat.le_of_ble_eq_true rfl) ⟨Nat.zero_le _, Nat.zero_le _⟩ d_R_finding_2 ?_
  refine x_iload_n (pc := 5) K 1 d_R_finding_5 rfl ?_
  refine x_if_lt (pc := 6) K (tgt := 25) d_R_finding_6 (by decide) (fun c6 => ?_) (fun c6 => ?_)
  · skip
    refine x_iconst (pc := 25) K (v := (-1)) d_R_finding_25 (by decide) ?_
    exact x_iret (pc := 26) K (by rw [if_neg (fun q => q.1 c6)]) rfl d_R_finding_26
  · skip
    refine x_iload_n (pc := 9) K 1 d_R_finding_9 rfl ?_
    refine x_aload_n (pc := 10) K 0 d_R_finding_10 rfl ?_
    refine x_geti (pc := 11) K (n := 278) (k := 16) (zlt shR) shR rfl rfl (by decide) (fun _ q => zmem (uw_R _ q)) (zmem lk_R_124) d_R_finding_11 ?_
    refine x_icmp_ge (pc := 14) K (tgt := 25) d_R_finding_14 (by decide) (fun c14 => ?_) (fun c14 => ?_)
    · skip
      refine x_iconst (pc := 25) K (v := (-1)) d_R_finding_25 (by decide) ?_
      exact x_iret (pc := 26) K (by rw [if_neg (fun q => q.2.1 c14)]) rfl d_R_finding_26
    · skip
      obtain ⟨hg1, hg2⟩ := hg c6 c14
      have hg3 := hg1.2
      have hg4 := hg2.2
      refine x_iload_n (pc := 17) K 2 d_R_finding_17 rfl ?_
      refine x_iconst (pc := 18) K (v := 4) d_R_finding_18 (by decide) ?_
      refine x_callS (pc := 19) K (As := [.int x, .int 4]) (rest := []) (c_R_out l w Y x 4) (zcwS K.ts lk_R_59 sm_R_out ii_R co_R_out pd_R_out ⟨rfl, rfl⟩ ⟨by decide, by decide⟩) rfl rfl (Nat.le_of_ble_eq_true rfl) ⟨Nat.zero_le _, Nat.zero_le _⟩ d_R_finding_19 ?_
      refine x_ifeqB (pc := 22) K (tgt := 27) d_R_finding_22 (by decide) (fun c22 => ?_) (fun c22 => ?_)
      · skip
        refine x_iload_n (pc := 27) K 2 d_R_finding_27 rfl ?_
        refine x_iconst (pc := 28) K (v := 3) d_R_finding_28 (by decide) ?_
        refine x_icmp_ge (pc := 29) K (tgt := 60) d_R_finding_29 (by decide) (fun c29 => ?_) (fun c29 => ?_)
        · skip
          refine x_iload_n (pc := 60) K 2 d_R_finding_60 rfl ?_
          refine x_iconst (pc := 61) K (v := 3) d_R_finding_61 (by decide) ?_
          refine x_icmp_ne (pc := 62) K (tgt := 75) d_R_finding_62 (by decide) (fun c62 => ?_) (fun c62 => ?_)
          · skip
            refine x_aload_n (pc := 75) K 0 d_R_finding_75 rfl ?_
            refine x_getr (pc := 76) K (n := 278) (n' := 291) (k := 12) (zlt shR) shR rfl hY.1.r291 rfl (by decide) (fun _ q => zmem (uw_R _ q)) (zmem lk_R_47) d_R_finding_76 ?_
            refine x_bipush (pc := 79) K (v := nI 12) d_R_finding_79 (by decide) ?_
            refine x_aload_n (pc := 81) K 0 d_R_finding_81 rfl ?_
            refine x_geti (pc := 82) K (n := 278) (k := 17) (zlt shR) shR rfl rfl (by decide) (fun _ q => zmem (uw_R _ q)) (zmem lk_R_131) d_R_finding_82 ?_
            refine x_eqi (y := nI (ix (Y.1 278 17))) (hg1.1) ?_
            refine x_imul (pc := 85) K d_R_finding_85 ?_
            refine x_eqi (y := nI (12 * ix (Y.1 278 17))) (pk_mul _ _) ?_
            refine x_aload_n (pc := 86) K 0 d_R_finding_86 rfl ?_
            refine x_geti (pc := 87) K (n := 278) (k := 18) (zlt shR) shR rfl rfl (by decide) (fun _ q => zmem (uw_R _ q)) (zmem lk_R_134) d_R_finding_87 ?_
            refine x_eqi (y := nI (ix (Y.1 278 18))) (hg2.1) ?_
            refine x_iadd (pc := 90) K d_R_finding_90 ?_
            refine x_eqi (y := nI (12 * ix (Y.1 278 17) + ix (Y.1 278 18))) (nI_add _ _) ?_
            refine x_zald (pc := 91) K (n := 291) (j := 12 * ix (Y.1 278 17) + ix (Y.1 278 18)) rfl (by omega) (zlt sh291) sh291 rfl (by decide) d_R_finding_91 ?_
            refine x_if_eq (pc := 92) K (tgt := 99) d_R_finding_92 (by decide) (fun c92 => ?_) (fun c92 => ?_)
            · skip
              refine x_iconst (pc := 99) K (v := 0) d_R_finding_99 (by decide) ?_
              exact x_iret (pc := 100) K (by rw [if_pos ⟨c6, c14, c22⟩]; unfold rf5; rw [if_neg (fun z => by rw [z] at c29; exact absurd c29 (by decide)), if_neg (fun z => by rw [z] at c29; exact absurd c29 (by decide)), if_neg (fun z => z c29), if_neg c62, if_pos c92]) rfl d_R_finding_100
            · skip
              refine x_iconst (pc := 95) K (v := 1) d_R_finding_95 (by decide) ?_
              refine x_goto (pc := 96) K (tgt := 100) d_R_finding_96 (by decide) ?_
              exact x_iret (pc := 100) K (by rw [if_pos ⟨c6, c14, c22⟩]; unfold rf5; rw [if_neg (fun z => by rw [z] at c29; exact absurd c29 (by decide)), if_neg (fun z => by rw [z] at c29; exact absurd c29 (by decide)), if_neg (fun z => z c29), if_neg c62, if_neg c92]) rfl d_R_finding_100
          · skip
            refine x_aload_n (pc := 65) K 0 d_R_finding_65 rfl ?_
            refine x_geti (pc := 66) K (n := 278) (k := 17) (zlt shR) shR rfl rfl (by decide) (fun _ q => zmem (uw_R _ q)) (zmem lk_R_131) d_R_finding_66 ?_
            refine x_callS (pc := 69) K (As := [.int (Y.1 278 17)]) (rest := []) (c_R_severity l w Y (Y.1 278 17)) (zcwS K.ts lk_R_140 sm_R_severity ii_R co_R_severity pd_R_severity ⟨rfl, rfl⟩ ⟨by decide, by decide⟩) rfl rfl (Nat.le_of_ble_eq_true rfl) ⟨Nat.zero_le _, Nat.zero_le _⟩ d_R_finding_69 ?_
            refine x_goto (pc := 72) K (tgt := 100) d_R_finding_72 (by decide) ?_
            exact x_iret (pc := 100) K (by rw [if_pos ⟨c6, c14, c22⟩]; unfold rf5; rw [if_neg (fun z => by rw [z] at c29; exact absurd c29 (by decide)), if_neg (fun z => by rw [z] at c29; exact absurd c29 (by decide)), if_neg (fun z => z c29), if_pos c62]) rfl d_R_finding_100
        · skip
          refine x_iload_n (pc := 32) K 2 d_R_finding_32 rfl ?_
          refine x_if_ne (pc := 33) K (tgt := 43) d_R_finding_33 (by decide) (fun c33 => ?_) (fun c33 => ?_)
          · skip
            refine x_iload_n (pc := 43) K 2 d_R_finding_43 rfl ?_
            refine x_iconst (pc := 44) K (v := 1) d_R_finding_44 (by decide) ?_
            refine x_icmp_ne (pc := 45) K (tgt := 55) d_R_finding_45 (by decide) (fun c45 => ?_) (fun c45 => ?_)
            · skip
              refine x_aload_n (pc := 55) K 0 d_R_finding_55 rfl ?_
              refine x_geti (pc := 56) K (n := 278) (k := 19) (zlt shR) shR rfl rfl (by decide) (fun _ q => zmem (uw_R _ q)) (zmem lk_R_137) d_R_finding_56 ?_
              exact x_iret (pc := 59) K (by rw [if_pos ⟨c6, c14, c22⟩]; unfold rf5; rw [if_neg c33, if_neg c45, if_pos c29]) rfl d_R_finding_59
            · skip
              refine x_aload_n (pc := 48) K 0 d_R_finding_48 rfl ?_
              refine x_geti (pc := 49) K (n := 278) (k := 18) (zlt shR) shR rfl rfl (by decide) (fun _ q => zmem (uw_R _ q)) (zmem lk_R_134) d_R_finding_49 ?_
              refine x_goto (pc := 52) K (tgt := 59) d_R_finding_52 (by decide) ?_
              exact x_iret (pc := 59) K (by rw [if_pos ⟨c6, c14, c22⟩]; unfold rf5; rw [if_neg c33, if_pos c45]) rfl d_R_finding_59
          · skip
            refine x_aload_n (pc := 36) K 0 d_R_finding_36 rfl ?_
            refine x_geti (pc := 37) K (n := 278) (k := 17) (zlt shR) shR rfl rfl (by decide) (fun _ q => zmem (uw_R _ q)) (zmem lk_R_131) d_R_finding_37 ?_
            refine x_goto (pc := 40) K (tgt := 59) d_R_finding_40 (by decide) ?_
            exact x_iret (pc := 59) K (by rw [if_pos ⟨c6, c14, c22⟩]; unfold rf5; rw [if_pos c33]) rfl d_R_finding_59
      · skip
        refine x_iconst (pc := 25) K (v := (-1)) d_R_finding_25 (by decide) ?_
        exact x_iret (pc := 26) K (by rw [if_neg (fun q => q.2.2 c22)]) rfl d_R_finding_26
