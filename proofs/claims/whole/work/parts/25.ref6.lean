/-- the rows of a baseline of the reference: a defined type's superclass and interfaces lie below it -/
def rP (μ : Nat → Nat → Int32) (b : Nat) : Prop := ∀ t, t < 12 → ¬ μ 279 (12 * b + t) = 0 → (μ 282 (12 * b + t) = -1 ∨ inL t (μ 282 (12 * b + t))) ∧ ∀ i, i < qF μ (12 * b + t) → inL t (μ 284 (3 * (12 * b + t) + i))
def rCs (μ : Nat → Nat → Int32) : Prop := ∀ r, r < 24 → rC μ r
theorem rCs_w {M : fl_M} {n k : Nat} {v : Int32} (h1 : n ≠ 283) (h2 : n ≠ 285) (h : rCs M.1) : rCs (wI M n k v).1 := by
  intro r hr
  unfold rC qF qM
  rw [rdI_ne (Or.inl (Ne.symm h1)), rdI_ne (Or.inl (Ne.symm h2))]
  exact h r hr
theorem rP_w {M : fl_M} {b n k : Nat} {v : Int32} (hn : 290 < n) (h : rP M.1 b) : rP (wI M n k v).1 b := by
  intro t ht hd
  rw [rdI_ne (Or.inl (by omega))] at hd
  refine ⟨?_, fun i hi => ?_⟩
  · rw [rdI_ne (Or.inl (by omega))]; exact (h t ht hd).1
  · unfold qF at hi
    rw [rdI_ne (Or.inl (by omega))] at hi
    rw [rdI_ne (Or.inl (by omega))]
    exact (h t ht hd).2 i hi
theorem qOwn_in {μ : Nat → Nat → Int32} {r : Nat} {a b : Int32} (hr : r < 24) (hc : rC μ r) (h : ¬ qOwn μ r a b < 0) : inL 192 (qOwn μ r a b) := by
  unfold qOwn at h ⊢
  split
  · rename_i q
    rw [if_pos q] at h
    exact absurd (by decide) h
  · rename_i q
    rw [if_neg q] at h
    unfold cell at h ⊢
    split
    · rename_i e
      rw [e] at h
      exact absurd (show (-1 : Int32) < 0 from by decide) h
    · rename_i i e
      have := (fnd_lt e).2.1
      have := hc.2.2
      exact inL_nI (by omega) (by omega)
def mz (x : Int32) : Nat := if x < 0 then 0 else ix x + 1
abbrev qup (μ : Nat → Nat → Int32) (r : Nat) : Int32 := if μ 280 r = 0 then μ 282 r else -1
def qml (μ : Nat → Nat → Int32) (b : Nat) (key : Int32) : Nat → Int32 → Option Int32
  | 0, _ => none
  | k + 1, x => if x < 0 then none else if qOwn μ (12 * b + ix x) 1 key < 0 then qml μ b key k (if qIs μ b (qup μ (12 * b + ix x)) 0 then qup μ (12 * b + ix x) else -1) else some (qOwn μ (12 * b + ix x) 1 key)
def qil (μ : Nat → Nat → Int32) (b t : Nat) (key : Int32) : Nat → Nat → Int32 → Int32
  | _, 0, a => a
  | s, k + 1, a => if qOwn μ (12 * b + s) 1 key < 0 ∨ ¬ qIs μ b (nI s) 1 ∨ ¬ qAb μ b t s then qil μ b t key (s + 1) k a
    else if μ 288 (ix (qOwn μ (12 * b + s) 1 key)) &&& 20 = 0 ∧ ¬ μ 288 (ix (qOwn μ (12 * b + s) 1 key)) &&& 3 = 0 then qOwn μ (12 * b + s) 1 key
    else qil μ b t key (s + 1) k (if ¬ μ 288 (ix (qOwn μ (12 * b + s) 1 key)) &&& 16 = 0 ∧ a < 0 then qOwn μ (12 * b + s) 1 key else a)
def qmz (μ : Nat → Nat → Int32) (b t : Nat) (key : Int32) (F : Option Int32) : Int32 := match F with
  | some c => c
  | none => qil μ b t key 0 t (-1)
abbrev qMth (μ : Nat → Nat → Int32) (b t : Nat) (key : Int32) : Int32 := qmz μ b t key (qml μ b key 13 (nI t))
set_option maxHeartbeats 4000000 in
set_option maxRecDepth 100000 in
theorem l2_R_method (l : Launch) (w : fl_W) (M : fl_M) (o : Nat) (hR : zRf o M.2) (b : Nat) (hb : b < 2) (t : Nat) (ht : t < 12) (hc : rCs M.1) (key : Int32) (F : Int32) {p9 : Program} {e9 : Env} {s9 : State} {m9 : MethodId} {ag9 : Array Value} {bl9 : List Frame} {mt9 : Method} {c9 : Code} (K : XC p9 s9 m9 ag9 mt9 c9 b_R_method 8 (some .int) w_R_method "CompatibilityJudgeModel" w) : ∀ (k : Nat) (i : Nat) (a : Int32), i ≤ t → t + 1 ≤ i + k → qil M.1 b t key i (t - i) a = F → XW p9 l e9 (rm_R_method) s9 m9 ag9 bl9 mt9 c9 8 0 0 (MQ bl9 (CQ w zN (some (.int F)) M) ag9 s9 0 0 (fun q : Nat => w.2.2 ≤ q)) w zN M 92 [(6, .int (nI i)), (5, .int a), (0, .ref (w.2.2 + 278)), (1, .int (nI b)), (2, .int (nI t)), (3, .int key)] [] := by
  intro k
  induction k with
  | zero =>
    intro i a hi hk
    exact absurd hk (by omega)
  | succ k ih =>
    intro i a hi hk hf
    refine x_iload (pc := 92) K 0 d_R_method_92 rfl ?_
    refine x_iload_n (pc := 94) K 4 d_R_method_94 rfl ?_
    refine x_icmp_ge (pc := 95) K (tgt := 201) d_R_method_95 (by decide) (fun c95 => ?_) (fun c95 => ?_)
    · skip
      have hic : i = t := by have := (nI_leI (by omega) (by omega)).mp c95; omega
      rw [hic, Nat.sub_self] at hf
      refine x_iload (pc := 201) K 1 d_R_method_201 rfl ?_
      exact x_iret (pc := 203) K (by subst hf; rfl) (rfl) d_R_method_203
    · skip
      have hic : i < t := Nat.not_le.mp (fun q => c95 (nI_le q (by omega)))
      rw [show t - i = (t - (i + 1)) + 1 by omega, qil] at hf
      refine x_aload_n (pc := 98) K 2 d_R_method_98 rfl ?_
      refine x_bipush (pc := 99) K (v := nI 12) d_R_method_99 (by decide) ?_
      refine x_iload_n (pc := 101) K 3 d_R_method_101 rfl ?_
      refine x_imul (pc := 102) K d_R_method_102 ?_
      refine x_eqi (y := nI (12 * b)) (pk_mul _ _) ?_
      refine x_iload (pc := 103) K 0 d_R_method_103 rfl ?_
      refine x_iadd (pc := 105) K d_R_method_105 ?_
      refine x_eqi (y := nI ((12 * b) + i)) (nI_add _ _) ?_
      refine x_iconst (pc := 106) K (v := 1) d_R_method_106 (by decide) ?_
      refine x_iload_n (pc := 107) K 5 d_R_method_107 rfl ?_
      refine x_callV (pc := 108) K (As := [.int (nI ((12 * b) + i)), .int 1, .int key]) (rest := []) (c_R_own l w M o hR ((12 * b) + i) (by omega) (hc _ (by omega)) 1 key) (zcwV K.ts lk_R_72 im_R_own se_R_own ii_R co_R_own pd_R_own ⟨rfl, rfl⟩ ⟨by decide, by decide⟩) (zlt shR) shR rfl rfl rfl (Nat.le_of_ble_eq_true rfl) ⟨Nat.zero_le _, Nat.zero_le _⟩ d_R_method_108 ?_
      refine x_istore (pc := 111) K (lv' := [(7, .int (qOwn M.1 ((12 * b) + i) 1 key)), (6, .int (nI i)), (5, .int a), (0, .ref (w.2.2 + 278)), (1, .int (nI b)), (2, .int (nI t)), (3, .int key)]) d_R_method_111 (by decide) rfl ?_
      refine x_iload (pc := 113) K 0 d_R_method_113 rfl ?_
      refine x_if_lt (pc := 115) K (tgt := 195) d_R_method_115 (by decide) (fun c115 => ?_) (fun c115 => ?_)
      · skip
        rw [if_pos (Or.inl c115)] at hf
        refine x_iinc (pc := 195) K (v := nI (i + 1)) (lv' := [(6, .int (nI (i + 1))), (7, .int (qOwn M.1 ((12 * b) + i) 1 key)), (5, .int a), (0, .ref (w.2.2 + 278)), (1, .int (nI b)), (2, .int (nI t)), (3, .int key)]) 1 d_R_method_195 rfl (nI_1 _) (by decide) rfl ?_
        refine x_goto (pc := 198) K (tgt := 92) d_R_method_198 (by decide) ?_
        refine x_lv [0, 2, 3, 4, 5, 6] rfl ?_
        exact ih (i + 1) _ (by omega) (by omega) hf
      · skip
        refine x_aload_n (pc := 118) K 3 d_R_method_118 rfl ?_
        refine x_iload_n (pc := 119) K 4 d_R_method_119 rfl ?_
        refine x_iload (pc := 120) K 1 d_R_method_120 rfl ?_
        refine x_iconst (pc := 122) K (v := 1) d_R_method_122 (by decide) ?_
        refine x_callV (pc := 123) K (As := [.int (nI b), .int (nI i), .int 1]) (rest := []) (c_R_is l w M o hR b (by omega) (nI i) 1 (Or.inr (inL_nI (by omega) (by omega)))) (zcwV K.ts lk_R_108 im_R_is se_R_is ii_R co_R_is pd_R_is ⟨rfl, rfl⟩ ⟨by decide, by decide⟩) (zlt shR) shR rfl rfl rfl (Nat.le_of_ble_eq_true rfl) ⟨Nat.zero_le _, Nat.zero_le _⟩ d_R_method_123 ?_
        refine x_ifeqB (pc := 126) K (tgt := 195) d_R_method_126 (by decide) (fun c126 => ?_) (fun c126 => ?_)
        · skip
          rw [if_pos (Or.inr (Or.inl c126))] at hf
          refine x_iinc (pc := 195) K (v := nI (i + 1)) (lv' := [(6, .int (nI (i + 1))), (7, .int (qOwn M.1 ((12 * b) + i) 1 key)), (5, .int a), (0, .ref (w.2.2 + 278)), (1, .int (nI b)), (2, .int (nI t)), (3, .int key)]) 1 d_R_method_195 rfl (nI_1 _) (by decide) rfl ?_
          refine x_goto (pc := 198) K (tgt := 92) d_R_method_198 (by decide) ?_
          refine x_lv [0, 2, 3, 4, 5, 6] rfl ?_
          exact ih (i + 1) _ (by omega) (by omega) hf
        · skip
          refine x_aload_n (pc := 129) K 3 d_R_method_129 rfl ?_
          refine x_iload_n (pc := 130) K 4 d_R_method_130 rfl ?_
          refine x_iload_n (pc := 131) K 5 d_R_method_131 rfl ?_
          refine x_iload (pc := 132) K 1 d_R_method_132 rfl ?_
          refine x_callV (pc := 134) K (As := [.int (nI b), .int (nI t), .int (nI i)]) (rest := []) (c_R_above l w M o hR b (by omega) t (by omega) hc i) (zcwV K.ts lk_R_111 im_R_above se_R_above ii_R co_R_above pd_R_above ⟨rfl, rfl⟩ ⟨by decide, by decide⟩) (zlt shR) shR rfl rfl rfl (Nat.le_of_ble_eq_true rfl) ⟨Nat.zero_le _, Nat.zero_le _⟩ d_R_method_134 ?_
          refine x_ifneB (pc := 137) K (tgt := 143) d_R_method_137 (by decide) (fun c137 => ?_) (fun c137 => ?_)
          · skip
            rw [if_neg (fun q => q.elim c115 (fun z => z.elim (fun y => y c126) (fun y => y c137)))] at hf
            have hi9 := qOwn_in (show 12 * b + i < 24 by omega) (hc _ (by omega)) c115
            have hi92 := hi9.2
            refine x_aload_n (pc := 143) K 3 d_R_method_143 rfl ?_
            refine x_getr (pc := 144) K (n := 278) (n' := 288) (k := 9) (zlt shR) shR rfl hR.r288 rfl (by decide) (fun _ q => zmem (uw_R _ q)) (zmem lk_R_38) d_R_method_144 ?_
            refine x_iload (pc := 147) K 0 d_R_method_147 rfl ?_
            refine x_iald (pc := 149) K (n := 288) (j := ix (qOwn M.1 (12 * b + i) 1 key)) hi9.1 (by omega) (zlt sh288) sh288 rfl (by decide) d_R_method_149 ?_
            refine x_bipush (pc := 150) K (v := 20) d_R_method_150 (by decide) ?_
            refine x_iand (pc := 152) K d_R_method_152 ?_
            refine x_if_ne (pc := 153) K (tgt := 171) d_R_method_153 (by decide) (fun c153 => ?_) (fun c153 => ?_)
            · skip
              rw [if_neg (fun q => c153 q.1)] at hf
              refine x_aload_n (pc := 171) K 3 d_R_method_171 rfl ?_
              refine x_getr (pc := 172) K (n := 278) (n' := 288) (k := 9) (zlt shR) shR rfl hR.r288 rfl (by decide) (fun _ q => zmem (uw_R _ q)) (zmem lk_R_38) d_R_method_172 ?_
              refine x_iload (pc := 175) K 0 d_R_method_175 rfl ?_
              refine x_iald (pc := 177) K (n := 288) (j := ix (qOwn M.1 (12 * b + i) 1 key)) hi9.1 (by omega) (zlt sh288) sh288 rfl (by decide) d_R_method_177 ?_
              refine x_bipush (pc := 178) K (v := 16) d_R_method_178 (by decide) ?_
              refine x_callS (pc := 180) K (As := [.int (M.1 288 (ix (qOwn M.1 (12 * b + i) 1 key))), .int 16]) (rest := []) (c_R_has l w M (M.1 288 (ix (qOwn M.1 (12 * b + i) 1 key))) 16) (zcwS K.ts lk_R_66 sm_R_has ii_R co_R_has pd_R_has ⟨rfl, rfl⟩ ⟨by decide, by decide⟩) rfl rfl (Nat.le_of_ble_eq_true rfl) ⟨Nat.zero_le _, Nat.zero_le _⟩ d_R_method_180 ?_
              refine x_ifeqB (pc := 183) K (tgt := 195) d_R_method_183 (by decide) (fun c183 => ?_) (fun c183 => ?_)
              · skip
                rw [if_neg (fun q => c183 q.1)] at hf
                refine x_iinc (pc := 195) K (v := nI (i + 1)) (lv' := [(6, .int (nI (i + 1))), (7, .int (qOwn M.1 ((12 * b) + i) 1 key)), (5, .int a), (0, .ref (w.2.2 + 278)), (1, .int (nI b)), (2, .int (nI t)), (3, .int key)]) 1 d_R_method_195 rfl (nI_1 _) (by decide) rfl ?_
                refine x_goto (pc := 198) K (tgt := 92) d_R_method_198 (by decide) ?_
                refine x_lv [0, 2, 3, 4, 5, 6] rfl ?_
                exact ih (i + 1) _ (by omega) (by omega) hf
              · skip
                refine x_iload (pc := 186) K 2 d_R_method_186 rfl ?_
                refine x_if_ge (pc := 188) K (tgt := 195) d_R_method_188 (by decide) (fun c188 => ?_) (fun c188 => ?_)
                · skip
                  rw [if_neg (fun q => Int32.not_lt.mpr c188 q.2)] at hf
                  refine x_iinc (pc := 195) K (v := nI (i + 1)) (lv' := [(6, .int (nI (i + 1))), (7, .int (qOwn M.1 ((12 * b) + i) 1 key)), (5, .int a), (0, .ref (w.2.2 + 278)), (1, .int (nI b)), (2, .int (nI t)), (3, .int key)]) 1 d_R_method_195 rfl (nI_1 _) (by decide) rfl ?_
                  refine x_goto (pc := 198) K (tgt := 92) d_R_method_198 (by decide) ?_
                  refine x_lv [0, 2, 3, 4, 5, 6] rfl ?_
                  exact ih (i + 1) _ (by omega) (by omega) hf
                · skip
                  rw [if_pos ⟨c183, Int32.not_le.mp c188⟩] at hf
                  refine x_iload (pc := 191) K 0 d_R_method_191 rfl ?_
                  refine x_istore (pc := 193) K (lv' := [(5, .int (qOwn M.1 ((12 * b) + i) 1 key)), (7, .int (qOwn M.1 ((12 * b) + i) 1 key)), (6, .int (nI i)), (0, .ref (w.2.2 + 278)), (1, .int (nI b)), (2, .int (nI t)), (3, .int key)]) d_R_method_193 (by decide) rfl ?_
                  refine x_iinc (pc := 195) K (v := nI (i + 1)) (lv' := [(6, .int (nI (i + 1))), (5, .int (qOwn M.1 ((12 * b) + i) 1 key)), (7, .int (qOwn M.1 ((12 * b) + i) 1 key)), (0, .ref (w.2.2 + 278)), (1, .int (nI b)), (2, .int (nI t)), (3, .int key)]) 2 d_R_method_195 rfl (nI_1 _) (by decide) rfl ?_
                  refine x_goto (pc := 198) K (tgt := 92) d_R_method_198 (by decide) ?_
                  refine x_lv [0, 1, 3, 4, 5, 6] rfl ?_
                  exact ih (i + 1) _ (by omega) (by omega) hf
            · skip
              refine x_aload_n (pc := 156) K 3 d_R_method_156 rfl ?_
              refine x_getr (pc := 157) K (n := 278) (n' := 288) (k := 9) (zlt shR) shR rfl hR.r288 rfl (by decide) (fun _ q => zmem (uw_R _ q)) (zmem lk_R_38) d_R_method_157 ?_
              refine x_iload (pc := 160) K 0 d_R_method_160 rfl ?_
              refine x_iald (pc := 162) K (n := 288) (j := ix (qOwn M.1 (12 * b + i) 1 key)) hi9.1 (by omega) (zlt sh288) sh288 rfl (by decide) d_R_method_162 ?_
              refine x_iconst (pc := 163) K (v := 3) d_R_method_163 (by decide) ?_
              refine x_iand (pc := 164) K d_R_method_164 ?_
              refine x_if_eq (pc := 165) K (tgt := 171) d_R_method_165 (by decide) (fun c165 => ?_) (fun c165 => ?_)
              · skip
                rw [if_neg (fun q => q.2 c165)] at hf
                refine x_aload_n (pc := 171) K 3 d_R_method_171 rfl ?_
                refine x_getr (pc := 172) K (n := 278) (n' := 288) (k := 9) (zlt shR) shR rfl hR.r288 rfl (by decide) (fun _ q => zmem (uw_R _ q)) (zmem lk_R_38) d_R_method_172 ?_
                refine x_iload (pc := 175) K 0 d_R_method_175 rfl ?_
                refine x_iald (pc := 177) K (n := 288) (j := ix (qOwn M.1 (12 * b + i) 1 key)) hi9.1 (by omega) (zlt sh288) sh288 rfl (by decide) d_R_method_177 ?_
                refine x_bipush (pc := 178) K (v := 16) d_R_method_178 (by decide) ?_
                refine x_callS (pc := 180) K (As := [.int (M.1 288 (ix (qOwn M.1 (12 * b + i) 1 key))), .int 16]) (rest := []) (c_R_has l w M (M.1 288 (ix (qOwn M.1 (12 * b + i) 1 key))) 16) (zcwS K.ts lk_R_66 sm_R_has ii_R co_R_has pd_R_has ⟨rfl, rfl⟩ ⟨by decide, by decide⟩) rfl rfl (Nat.le_of_ble_eq_true rfl) ⟨Nat.zero_le _, Nat.zero_le _⟩ d_R_method_180 ?_
                refine x_ifeqB (pc := 183) K (tgt := 195) d_R_method_183 (by decide) (fun c183 => ?_) (fun c183 => ?_)
                · skip
                  rw [if_neg (fun q => c183 q.1)] at hf
                  refine x_iinc (pc := 195) K (v := nI (i + 1)) (lv' := [(6, .int (nI (i + 1))), (7, .int (qOwn M.1 ((12 * b) + i) 1 key)), (5, .int a), (0, .ref (w.2.2 + 278)), (1, .int (nI b)), (2, .int (nI t)), (3, .int key)]) 1 d_R_method_195 rfl (nI_1 _) (by decide) rfl ?_
                  refine x_goto (pc := 198) K (tgt := 92) d_R_method_198 (by decide) ?_
                  refine x_lv [0, 2, 3, 4, 5, 6] rfl ?_
                  exact ih (i + 1) _ (by omega) (by omega) hf
                · skip
                  refine x_iload (pc := 186) K 2 d_R_method_186 rfl ?_
                  refine x_if_ge (pc := 188) K (tgt := 195) d_R_method_188 (by decide) (fun c188 => ?_) (fun c188 => ?_)
                  · skip
                    rw [if_neg (fun q => Int32.not_lt.mpr c188 q.2)] at hf
                    refine x_iinc (pc := 195) K (v := nI (i + 1)) (lv' := [(6, .int (nI (i + 1))), (7, .int (qOwn M.1 ((12 * b) + i) 1 key)), (5, .int a), (0, .ref (w.2.2 + 278)), (1, .int (nI b)), (2, .int (nI t)), (3, .int key)]) 1 d_R_method_195 rfl (nI_1 _) (by decide) rfl ?_
                    refine x_goto (pc := 198) K (tgt := 92) d_R_method_198 (by decide) ?_
                    refine x_lv [0, 2, 3, 4, 5, 6] rfl ?_
                    exact ih (i + 1) _ (by omega) (by omega) hf
                  · skip
                    rw [if_pos ⟨c183, Int32.not_le.mp c188⟩] at hf
                    refine x_iload (pc := 191) K 0 d_R_method_191 rfl ?_
                    refine x_istore (pc := 193) K (lv' := [(5, .int (qOwn M.1 ((12 * b) + i) 1 key)), (7, .int (qOwn M.1 ((12 * b) + i) 1 key)), (6, .int (nI i)), (0, .ref (w.2.2 + 278)), (1, .int (nI b)), (2, .int (nI t)), (3, .int key)]) d_R_method_193 (by decide) rfl ?_
                    refine x_iinc (pc := 195) K (v := nI (i + 1)) (lv' := [(6, .int (nI (i + 1))), (5, .int (qOwn M.1 ((12 * b) + i) 1 key)), (7, .int (qOwn M.1 ((12 * b) + i) 1 key)), (0, .ref (w.2.2 + 278)), (1, .int (nI b)), (2, .int (nI t)), (3, .int key)]) 2 d_R_method_195 rfl (nI_1 _) (by decide) rfl ?_
                    refine x_goto (pc := 198) K (tgt := 92) d_R_method_198 (by decide) ?_
                    refine x_lv [0, 1, 3, 4, 5, 6] rfl ?_
                    exact ih (i + 1) _ (by omega) (by omega) hf
              · skip
                rw [if_pos ⟨c153, c165⟩] at hf
                refine x_iload (pc := 168) K 0 d_R_method_168 rfl ?_
                exact x_iret (pc := 170) K (by subst hf; rfl) (rfl) d_R_method_170
          · skip
            rw [if_pos (Or.inr (Or.inr c137))] at hf
            refine x_goto (pc := 140) K (tgt := 195) d_R_method_140 (by decide) ?_
            refine x_iinc (pc := 195) K (v := nI (i + 1)) (lv' := [(6, .int (nI (i + 1))), (7, .int (qOwn M.1 ((12 * b) + i) 1 key)), (5, .int a), (0, .ref (w.2.2 + 278)), (1, .int (nI b)), (2, .int (nI t)), (3, .int key)]) 1 d_R_method_195 rfl (nI_1 _) (by decide) rfl ?_
            refine x_goto (pc := 198) K (tgt := 92) d_R_method_198 (by decide) ?_
            refine x_lv [0, 2, 3, 4, 5, 6] rfl ?_
            exact ih (i + 1) _ (by omega) (by omega) hf
set_option maxHeartbeats 4000000 in
set_option maxRecDepth 100000 in
theorem l1_R_method (l : Launch) (w : fl_W) (M : fl_M) (o : Nat) (hR : zRf o M.2) (b : Nat) (hb : b < 2) (t : Nat) (ht : t < 12) (hc : rCs M.1) (key : Int32) (hP : rP M.1 b) (F : Option Int32) {p9 : Program} {e9 : Env} {s9 : State} {m9 : MethodId} {ag9 : Array Value} {bl9 : List Frame} {mt9 : Method} {c9 : Code} (K : XC p9 s9 m9 ag9 mt9 c9 b_R_method 8 (some .int) w_R_method "CompatibilityJudgeModel" w) : ∀ (k : Nat) (x : Int32), True → mz x + 1 ≤ k → (x < 0 ∨ (inL 12 x ∧ ¬ M.1 279 (12 * b + ix x) = 0)) → qml M.1 b key k x = F → XW p9 l e9 (rm_R_method) s9 m9 ag9 bl9 mt9 c9 8 0 0 (MQ bl9 (CQ w zN (some (.int (qmz M.1 b t key F))) M) ag9 s9 0 0 (fun q : Nat => w.2.2 ≤ q)) w zN M 3 [(4, .int x), (0, .ref (w.2.2 + 278)), (1, .int (nI b)), (2, .int (nI t)), (3, .int key)] [] := by
  intro k
  induction k with
  | zero =>
    intro x hi hk
    exact absurd hk (by omega)
  | succ k ih =>
    intro x hi hk hx hf
    rw [qml] at hf
    refine x_iload (pc := 3) K 0 d_R_method_3 rfl ?_
    refine x_if_lt (pc := 5) K (tgt := 86) d_R_method_5 (by decide) (fun c5 => ?_) (fun c5 => ?_)
    · skip
      rw [if_pos c5] at hf
      refine x_iconst (pc := 86) K (v := (-1)) d_R_method_86 (by decide) ?_
      refine x_istore (pc := 87) K (lv' := [(5, .int (-1)), (4, .int x), (0, .ref (w.2.2 + 278)), (1, .int (nI b)), (2, .int (nI t)), (3, .int key)]) d_R_method_87 (by decide) rfl ?_
      refine x_iconst (pc := 89) K (v := nI 0) d_R_method_89 (by decide) ?_
      refine x_istore (pc := 90) K (lv' := [(6, .int (nI 0)), (5, .int (-1)), (4, .int x), (0, .ref (w.2.2 + 278)), (1, .int (nI b)), (2, .int (nI t)), (3, .int key)]) d_R_method_90 (by decide) rfl ?_
      refine x_lv [0, 1, 3, 4, 5, 6] rfl ?_
      rw [← hf]
      exact l2_R_method l w M o hR b hb t ht hc key _ K (t + 1) 0 _ (by omega) (by omega) (by rw [Nat.sub_zero]; rfl)
    · skip
      rw [if_neg c5] at hf
      obtain ⟨hx9, hxd⟩ := hx.resolve_left c5
      have hx12 := hx9.2
      have hP9 := (hP _ hx12 hxd).1
      have emz : mz x = ix x + 1 := if_neg c5
      refine x_aload_n (pc := 8) K 1 d_R_method_8 rfl ?_
      refine x_bipush (pc := 9) K (v := nI 12) d_R_method_9 (by decide) ?_
      refine x_iload_n (pc := 11) K 2 d_R_method_11 rfl ?_
      refine x_imul (pc := 12) K d_R_method_12 ?_
      refine x_eqi (y := nI (12 * b)) (pk_mul _ _) ?_
      refine x_iload (pc := 13) K 0 d_R_method_13 rfl ?_
      refine x_eqi (y := nI (ix x)) (hx9.1) ?_
      refine x_iadd (pc := 15) K d_R_method_15 ?_
      refine x_eqi (y := nI ((12 * b) + (ix x))) (nI_add _ _) ?_
      refine x_iconst (pc := 16) K (v := 1) d_R_method_16 (by decide) ?_
      refine x_iload_n (pc := 17) K 4 d_R_method_17 rfl ?_
      refine x_callV (pc := 18) K (As := [.int (nI ((12 * b) + (ix x))), .int 1, .int key]) (rest := []) (c_R_own l w M o hR ((12 * b) + (ix x)) (by omega) (hc _ (by omega)) 1 key) (zcwV K.ts lk_R_72 im_R_own se_R_own ii_R co_R_own pd_R_own ⟨rfl, rfl⟩ ⟨by decide, by decide⟩) (zlt shR) shR rfl rfl rfl (Nat.le_of_ble_eq_true rfl) ⟨Nat.zero_le _, Nat.zero_le _⟩ d_R_method_18 ?_
      refine x_istore (pc := 21) K (lv' := [(5, .int (qOwn M.1 ((12 * b) + (ix x)) 1 key)), (4, .int x), (0, .ref (w.2.2 + 278)), (1, .int (nI b)), (2, .int (nI t)), (3, .int key)]) d_R_method_21 (by decide) rfl ?_
      refine x_iload (pc := 23) K 0 d_R_method_23 rfl ?_
      refine x_if_lt (pc := 25) K (tgt := 31) d_R_method_25 (by decide) (fun c25 => ?_) (fun c25 => ?_)
      · skip
        rw [if_pos c25] at hf
        refine x_aload_n (pc := 31) K 2 d_R_method_31 rfl ?_
        refine x_getr (pc := 32) K (n := 278) (n' := 280) (k := 1) (zlt shR) shR rfl hR.r280 rfl (by decide) (fun _ q => zmem (uw_R _ q)) (zmem lk_R_13) d_R_method_32 ?_
        refine x_bipush (pc := 35) K (v := nI 12) d_R_method_35 (by decide) ?_
        refine x_iload_n (pc := 37) K 3 d_R_method_37 rfl ?_
        refine x_imul (pc := 38) K d_R_method_38 ?_
        refine x_eqi (y := nI (12 * b)) (pk_mul _ _) ?_
        refine x_iload (pc := 39) K 1 d_R_method_39 rfl ?_
        refine x_eqi (y := nI (ix x)) (hx9.1) ?_
        refine x_iadd (pc := 41) K d_R_method_41 ?_
        refine x_eqi (y := nI ((12 * b) + (ix x))) (nI_add _ _) ?_
        refine x_iald (pc := 42) K (n := 280) (j := (12 * b) + (ix x)) rfl (by omega) (zlt sh280) sh280 rfl (by decide) d_R_method_42 ?_
        refine x_if_ne (pc := 43) K (tgt := 61) d_R_method_43 (by decide) (fun c43 => ?_) (fun c43 => ?_)
        · skip
          have eu : qup M.1 (12 * b + ix x) = -1 := if_neg c43
          rw [eu] at hf
          refine x_iconst (pc := 61) K (v := (-1)) d_R_method_61 (by decide) ?_
          refine x_istore (pc := 62) K (lv' := [(6, .int (-1)), (5, .int (qOwn M.1 ((12 * b) + (ix x)) 1 key)), (4, .int x), (0, .ref (w.2.2 + 278)), (1, .int (nI b)), (2, .int (nI t)), (3, .int key)]) d_R_method_62 (by decide) rfl ?_
          refine x_aload_n (pc := 64) K 3 d_R_method_64 rfl ?_
          refine x_iload_n (pc := 65) K 4 d_R_method_65 rfl ?_
          refine x_iload (pc := 66) K 0 d_R_method_66 rfl ?_
          refine x_iconst (pc := 68) K (v := 0) d_R_method_68 (by decide) ?_
          refine x_callV (pc := 69) K (As := [.int (nI b), .int (-1), .int 0]) (rest := []) (c_R_is l w M o hR b (by omega) (-1) 0 (Or.inl (by decide))) (zcwV K.ts lk_R_108 im_R_is se_R_is ii_R co_R_is pd_R_is ⟨rfl, rfl⟩ ⟨by decide, by decide⟩) (zlt shR) shR rfl rfl rfl (Nat.le_of_ble_eq_true rfl) ⟨Nat.zero_le _, Nat.zero_le _⟩ d_R_method_69 ?_
          refine x_ifeqB (pc := 72) K (tgt := 80) d_R_method_72 (by decide) (fun c72 => ?_) (fun c72 => ?_)
          · skip
            rw [if_neg c72] at hf
            refine x_iconst (pc := 80) K (v := (-1)) d_R_method_80 (by decide) ?_
            refine x_istore (pc := 81) K (lv' := [(4, .int (-1)), (6, .int (-1)), (5, .int (qOwn M.1 ((12 * b) + (ix x)) 1 key)), (0, .ref (w.2.2 + 278)), (1, .int (nI b)), (2, .int (nI t)), (3, .int key)]) d_R_method_81 (by decide) rfl ?_
            refine x_goto (pc := 83) K (tgt := 3) d_R_method_83 (by decide) ?_
            refine x_lv [0, 3, 4, 5, 6] rfl ?_
            exact ih _ trivial (by rw [show mz (-1) = 0 from by decide]; omega) (Or.inl (by decide)) hf
          · skip
            rw [if_pos c72] at hf
            refine x_iload (pc := 75) K 0 d_R_method_75 rfl ?_
            refine x_goto (pc := 77) K (tgt := 81) d_R_method_77 (by decide) ?_
            refine x_istore (pc := 81) K (lv' := [(4, .int (-1)), (6, .int (-1)), (5, .int (qOwn M.1 ((12 * b) + (ix x)) 1 key)), (0, .ref (w.2.2 + 278)), (1, .int (nI b)), (2, .int (nI t)), (3, .int key)]) d_R_method_81 (by decide) rfl ?_
            refine x_goto (pc := 83) K (tgt := 3) d_R_method_83 (by decide) ?_
            refine x_lv [0, 3, 4, 5, 6] rfl ?_
            exact absurd c72.1 (by decide)
        · skip
          have eu : qup M.1 (12 * b + ix x) = M.1 282 (12 * b + ix x) := if_pos c43
          rw [eu] at hf
          refine x_aload_n (pc := 46) K 2 d_R_method_46 rfl ?_
          refine x_getr (pc := 47) K (n := 278) (n' := 282) (k := 3) (zlt shR) shR rfl hR.r282 rfl (by decide) (fun _ q => zmem (uw_R _ q)) (zmem lk_R_20) d_R_method_47 ?_
          refine x_bipush (pc := 50) K (v := nI 12) d_R_method_50 (by decide) ?_
          refine x_iload_n (pc := 52) K 3 d_R_method_52 rfl ?_
          refine x_imul (pc := 53) K d_R_method_53 ?_
          refine x_eqi (y := nI (12 * b)) (pk_mul _ _) ?_
          refine x_iload (pc := 54) K 1 d_R_method_54 rfl ?_
          refine x_eqi (y := nI (ix x)) (hx9.1) ?_
          refine x_iadd (pc := 56) K d_R_method_56 ?_
          refine x_eqi (y := nI ((12 * b) + (ix x))) (nI_add _ _) ?_
          refine x_iald (pc := 57) K (n := 282) (j := (12 * b) + (ix x)) rfl (by omega) (zlt sh282) sh282 rfl (by decide) d_R_method_57 ?_
          refine x_goto (pc := 58) K (tgt := 62) d_R_method_58 (by decide) ?_
          refine x_istore (pc := 62) K (lv' := [(6, .int (M.1 282 ((12 * b) + (ix x)))), (5, .int (qOwn M.1 ((12 * b) + (ix x)) 1 key)), (4, .int x), (0, .ref (w.2.2 + 278)), (1, .int (nI b)), (2, .int (nI t)), (3, .int key)]) d_R_method_62 (by decide) rfl ?_
          refine x_aload_n (pc := 64) K 3 d_R_method_64 rfl ?_
          refine x_iload_n (pc := 65) K 4 d_R_method_65 rfl ?_
          refine x_iload (pc := 66) K 0 d_R_method_66 rfl ?_
          refine x_iconst (pc := 68) K (v := 0) d_R_method_68 (by decide) ?_
          refine x_callV (pc := 69) K (As := [.int (nI b), .int (M.1 282 ((12 * b) + (ix x))), .int 0]) (rest := []) (c_R_is l w M o hR b (by omega) (M.1 282 ((12 * b) + (ix x))) 0 (hP9.imp (fun q => by rw [q]; decide) (fun q => inL_le q (by omega)))) (zcwV K.ts lk_R_108 im_R_is se_R_is ii_R co_R_is pd_R_is ⟨rfl, rfl⟩ ⟨by decide, by decide⟩) (zlt shR) shR rfl rfl rfl (Nat.le_of_ble_eq_true rfl) ⟨Nat.zero_le _, Nat.zero_le _⟩ d_R_method_69 ?_
          refine x_ifeqB (pc := 72) K (tgt := 80) d_R_method_72 (by decide) (fun c72 => ?_) (fun c72 => ?_)
          · skip
            rw [if_neg c72] at hf
            refine x_iconst (pc := 80) K (v := (-1)) d_R_method_80 (by decide) ?_
            refine x_istore (pc := 81) K (lv' := [(4, .int (-1)), (6, .int (M.1 282 ((12 * b) + (ix x)))), (5, .int (qOwn M.1 ((12 * b) + (ix x)) 1 key)), (0, .ref (w.2.2 + 278)), (1, .int (nI b)), (2, .int (nI t)), (3, .int key)]) d_R_method_81 (by decide) rfl ?_
            refine x_goto (pc := 83) K (tgt := 3) d_R_method_83 (by decide) ?_
            refine x_lv [0, 3, 4, 5, 6] rfl ?_
            exact ih _ trivial (by rw [show mz (-1) = 0 from by decide]; omega) (Or.inl (by decide)) hf
          · skip
            rw [if_pos c72] at hf
            refine x_iload (pc := 75) K 0 d_R_method_75 rfl ?_
            refine x_goto (pc := 77) K (tgt := 81) d_R_method_77 (by decide) ?_
            refine x_istore (pc := 81) K (lv' := [(4, .int (M.1 282 ((12 * b) + (ix x)))), (6, .int (M.1 282 ((12 * b) + (ix x)))), (5, .int (qOwn M.1 ((12 * b) + (ix x)) 1 key)), (0, .ref (w.2.2 + 278)), (1, .int (nI b)), (2, .int (nI t)), (3, .int key)]) d_R_method_81 (by decide) rfl ?_
            refine x_goto (pc := 83) K (tgt := 3) d_R_method_83 (by decide) ?_
            refine x_lv [0, 3, 4, 5, 6] rfl ?_
            exact ih _ trivial (by have z := hP9.resolve_left (fun q => by rw [q] at c72; exact absurd c72.1 (by decide)); rw [show mz (M.1 282 (12 * b + ix x)) = ix (M.1 282 (12 * b + ix x)) + 1 from if_neg c72.1]; have := z.2; omega) (Or.inr ⟨inL_le (hP9.resolve_left (fun q => by rw [q] at c72; exact absurd c72.1 (by decide))) (by omega), c72.2.1⟩) hf
      · skip
        rw [if_neg c25] at hf
        refine x_iload (pc := 28) K 0 d_R_method_28 rfl ?_
        exact x_iret (pc := 30) K (by rw [← hf]; rfl) (rfl) d_R_method_30
set_option maxHeartbeats 4000000 in
set_option maxRecDepth 100000 in
theorem c_R_method (l : Launch) (w : fl_W) (M : fl_M) (o : Nat) (hR : zRf o M.2) (b : Nat) (hb : b < 2) (t : Nat) (ht : t < 12) (hc : rCs M.1) (key : Int32) (hP : rP M.1 b) (hd : ¬ M.1 279 (12 * b + t) = 0) : CT l y_R_method w_R_method rm_R_method w zN [.ref (w.2.2 + 278), .int (nI b), .int (nI t), .int key] M (some (.int (qMth M.1 b t key))) M := by
  refine CT.of (cc := b_R_method) (own := "CompatibilityJudgeModel") (by decide) rfl rfl (Nat.le_of_ble_eq_true rfl) ?_
  intro p9 e9 s9 m9 ag9 bl9 mt9 c9 K
  show XW p9 l e9 (rm_R_method) s9 m9 ag9 bl9 mt9 c9 8 0 0 (MQ bl9 (CQ w zN (some (.int (qMth M.1 b t key))) M) ag9 s9 0 0 (fun q : Nat => w.2.2 ≤ q)) w zN M 0 [(0, .ref (w.2.2 + 278)), (1, .int (nI b)), (2, .int (nI t)), (3, .int key)] []
  refine x_iload_n (pc := 0) K 2 d_R_method_0 rfl ?_
  refine x_istore (pc := 1) K (lv' := [(4, .int (nI t)), (0, .ref (w.2.2 + 278)), (1, .int (nI b)), (2, .int (nI t)), (3, .int key)]) d_R_method_1 (by decide) rfl ?_
  exact l1_R_method l w M o hR b hb t ht hc key hP _ K 13 _ trivial (by rw [show mz (nI t) = ix (nI t) + 1 from if_neg (nI_pos (by omega)), ix_nI (by omega)]; omega) (Or.inr ⟨inL_nI (by omega) ht, by rw [ix_nI (by omega)]; exact hd⟩) rfl
def fcl (M : fl_M) : Nat → Nat → fl_M
  | _, 0 => M
  | i, k + 1 => fcl (wI M 292 i 0) (i + 1) k
/-- the interfaces that count go on the pile, the last first -/
def ffl (M : fl_M) (b r : Nat) : Nat → Nat → fl_M × Nat
  | n, 0 => (M, n)
  | n, s + 1 => if qIs M.1 b (M.1 284 (3 * r + s)) 1 then ffl (wI M 293 n (M.1 284 (3 * r + s))) b r (n + 1) s else ffl M b r n s
def fsc (M : fl_M) (b r n : Nat) : fl_M × Nat := if M.1 280 r = 0 ∧ qIs M.1 b (M.1 282 r) 0 then (wI M 293 n (M.1 282 r), n + 1) else (M, n)
def dfs (b : Nat) (key : Int32) : Nat → fl_M → Nat → Int32 × fl_M
  | 0, M, _ => (-1, M)
  | k + 1, M, n => if n = 0 then (-1, M) else if ¬ M.1 292 (ix (M.1 293 (n - 1))) = 0 then dfs b key k M (n - 1)
    else if ¬ qOwn (wI M 292 (ix (M.1 293 (n - 1))) 1).1 (12 * b + ix (M.1 293 (n - 1))) 0 key < 0 then (qOwn (wI M 292 (ix (M.1 293 (n - 1))) 1).1 (12 * b + ix (M.1 293 (n - 1))) 0 key, wI M 292 (ix (M.1 293 (n - 1))) 1)
    else dfs b key k (ffl (fsc (wI M 292 (ix (M.1 293 (n - 1))) 1) b (12 * b + ix (M.1 293 (n - 1))) (n - 1)).1 b (12 * b + ix (M.1 293 (n - 1))) (fsc (wI M 292 (ix (M.1 293 (n - 1))) 1) b (12 * b + ix (M.1 293 (n - 1))) (n - 1)).2 (qF M.1 (12 * b + ix (M.1 293 (n - 1))))).1 (ffl (fsc (wI M 292 (ix (M.1 293 (n - 1))) 1) b (12 * b + ix (M.1 293 (n - 1))) (n - 1)).1 b (12 * b + ix (M.1 293 (n - 1))) (fsc (wI M 292 (ix (M.1 293 (n - 1))) 1) b (12 * b + ix (M.1 293 (n - 1))) (n - 1)).2 (qF M.1 (12 * b + ix (M.1 293 (n - 1))))).2
/-- how many types aren't seen yet -/
def uns (μ : Nat → Nat → Int32) (j : Nat) : Nat := if μ 292 j = 0 then 1 else 0
def unS (μ : Nat → Nat → Int32) : Nat := uns μ 0 + uns μ 1 + uns μ 2 + uns μ 3 + uns μ 4 + uns μ 5 + uns μ 6 + uns μ 7 + uns μ 8 + uns μ 9 + uns μ 10 + uns μ 11
theorem uns_le {μ : Nat → Nat → Int32} {j : Nat} : uns μ j ≤ 1 := by unfold uns; split <;> omega
theorem unS_le {μ : Nat → Nat → Int32} : unS μ ≤ 12 := by
  unfold unS
  have a := fun j => uns_le (μ := μ) (j := j)
  have := a 0; have := a 1; have := a 2; have := a 3; have := a 4; have := a 5; have := a 6; have := a 7; have := a 8; have := a 9; have := a 10; have := a 11
  omega
theorem unS_mark {M : fl_M} {j : Nat} (hj : j < 12) (h : M.1 292 j = 0) : unS (wI M 292 j 1).1 + 1 = unS M.1 := by
  have e : ∀ i, i ≠ j → uns (wI M 292 j 1).1 i = uns M.1 i := fun i hi => by unfold uns; rw [rdI_ne (Or.inr hi)]
  have e1 : uns (wI M 292 j 1).1 j = 0 := by unfold uns; rw [rdI_eq]; decide
  have e2 : uns M.1 j = 1 := by unfold uns; rw [if_pos h]
  unfold unS
  rcases (show j = 0 ∨ j = 1 ∨ j = 2 ∨ j = 3 ∨ j = 4 ∨ j = 5 ∨ j = 6 ∨ j = 7 ∨ j = 8 ∨ j = 9 ∨ j = 10 ∨ j = 11 by omega) with rfl | rfl | rfl | rfl | rfl | rfl | rfl | rfl | rfl | rfl | rfl | rfl
  · rw [e1, e 1 (by omega), e 2 (by omega), e 3 (by omega), e 4 (by omega), e 5 (by omega), e 6 (by omega), e 7 (by omega), e 8 (by omega), e 9 (by omega), e 10 (by omega), e 11 (by omega)]; omega
  · rw [e1, e 0 (by omega), e 2 (by omega), e 3 (by omega), e 4 (by omega), e 5 (by omega), e 6 (by omega), e 7 (by omega), e 8 (by omega), e 9 (by omega), e 10 (by omega), e 11 (by omega)]; omega
  · rw [e1, e 1 (by omega), e 0 (by omega), e 3 (by omega), e 4 (by omega), e 5 (by omega), e 6 (by omega), e 7 (by omega), e 8 (by omega), e 9 (by omega), e 10 (by omega), e 11 (by omega)]; omega
  · rw [e1, e 1 (by omega), e 2 (by omega), e 0 (by omega), e 4 (by omega), e 5 (by omega), e 6 (by omega), e 7 (by omega), e 8 (by omega), e 9 (by omega), e 10 (by omega), e 11 (by omega)]; omega
  · rw [e1, e 1 (by omega), e 2 (by omega), e 3 (by omega), e 0 (by omega), e 5 (by omega), e 6 (by omega), e 7 (by omega), e 8 (by omega), e 9 (by omega), e 10 (by omega), e 11 (by omega)]; omega
  · rw [e1, e 1 (by omega), e 2 (by omega), e 3 (by omega), e 4 (by omega), e 0 (by omega), e 6 (by omega), e 7 (by omega), e 8 (by omega), e 9 (by omega), e 10 (by omega), e 11 (by omega)]; omega
  · rw [e1, e 1 (by omega), e 2 (by omega), e 3 (by omega), e 4 (by omega), e 5 (by omega), e 0 (by omega), e 7 (by omega), e 8 (by omega), e 9 (by omega), e 10 (by omega), e 11 (by omega)]; omega
  · rw [e1, e 1 (by omega), e 2 (by omega), e 3 (by omega), e 4 (by omega), e 5 (by omega), e 6 (by omega), e 0 (by omega), e 8 (by omega), e 9 (by omega), e 10 (by omega), e 11 (by omega)]; omega
  · rw [e1, e 1 (by omega), e 2 (by omega), e 3 (by omega), e 4 (by omega), e 5 (by omega), e 6 (by omega), e 7 (by omega), e 0 (by omega), e 9 (by omega), e 10 (by omega), e 11 (by omega)]; omega
  · rw [e1, e 1 (by omega), e 2 (by omega), e 3 (by omega), e 4 (by omega), e 5 (by omega), e 6 (by omega), e 7 (by omega), e 8 (by omega), e 0 (by omega), e 10 (by omega), e 11 (by omega)]; omega
  · rw [e1, e 1 (by omega), e 2 (by omega), e 3 (by omega), e 4 (by omega), e 5 (by omega), e 6 (by omega), e 7 (by omega), e 8 (by omega), e 9 (by omega), e 0 (by omega), e 11 (by omega)]; omega
  · rw [e1, e 1 (by omega), e 2 (by omega), e 3 (by omega), e 4 (by omega), e 5 (by omega), e 6 (by omega), e 7 (by omega), e 8 (by omega), e 9 (by omega), e 10 (by omega), e 0 (by omega)]; omega
theorem unS_line {M : fl_M} {k : Nat} {v : Int32} : unS (wI M 293 k v).1 = unS M.1 := by
  have e : ∀ i, uns (wI M 293 k v).1 i = uns M.1 i := fun i => by unfold uns; rw [rdI_ne (Or.inl (by decide))]
  unfold unS
  rw [e, e, e, e, e, e, e, e, e, e, e, e]
/-- the pile holds defined types -/
def stk (μ : Nat → Nat → Int32) (b n : Nat) : Prop := ∀ i, i < n → ∃ j, μ 293 i = nI j ∧ j < 12 ∧ ¬ μ 279 (12 * b + j) = 0
theorem stk_mark {M : fl_M} {b n k : Nat} {v : Int32} (h : stk M.1 b n) : stk (wI M 292 k v).1 b n := by
  intro i hi
  obtain ⟨j, a, c, d⟩ := h i hi
  exact ⟨j, by rw [rdI_ne (Or.inl (by decide))]; exact a, c, by rw [rdI_ne (Or.inl (by omega))]; exact d⟩
theorem stk_push {M : fl_M} {b n : Nat} {v : Int32} (h : stk M.1 b n) (hv : inL 12 v) (hd : ¬ M.1 279 (12 * b + ix v) = 0) : stk (wI M 293 n v).1 b (n + 1) := by
  intro i hi
  by_cases q : i = n
  · exact ⟨ix v, by rw [q, rdI_eq]; exact hv.1, hv.2, by rw [rdI_ne (Or.inl (by omega))]; exact hd⟩
  · obtain ⟨j, a, c, d⟩ := h i (by omega)
    exact ⟨j, by rw [rdI_ne (Or.inr q)]; exact a, c, by rw [rdI_ne (Or.inl (by omega))]; exact d⟩
/-- what holds while a field is looked for -/
def fOk (o b : Nat) (M : fl_M) (n : Nat) : Prop := zRf o M.2 ∧ rCs M.1 ∧ rP M.1 b ∧ stk M.1 b n
theorem fOk_push {o b n : Nat} {M : fl_M} {v : Int32} (h : fOk o b M n) (hv : inL 12 v) (hd : ¬ M.1 279 (12 * b + ix v) = 0) : fOk o b (wI M 293 n v) (n + 1) := ⟨h.1, rCs_w (by decide) (by decide) h.2.1, rP_w (by decide) h.2.2.1, stk_push h.2.2.2 hv hd⟩
theorem fOk_mark {o b n j : Nat} {M : fl_M} {v : Int32} (h : fOk o b M n) : fOk o b (wI M 292 j v) n := ⟨h.1, rCs_w (by decide) (by decide) h.2.1, rP_w (by decide) h.2.2.1, stk_mark h.2.2.2⟩
theorem fOk_pop {o b n m : Nat} {M : fl_M} (h : fOk o b M n) (hm : m ≤ n) : fOk o b M m := ⟨h.1, h.2.1, h.2.2.1, fun i hi => h.2.2.2 i (by omega)⟩
theorem decN {n : Nat} (h : 0 < n) : nI n + Int32.ofInt (-1) = nI (n - 1) := by
  rw [dec1, show (1 : Int32) = nI 1 from by decide, pk_sub h]
set_option maxHeartbeats 4000000 in
set_option maxRecDepth 100000 in
theorem li_R_field (l : Launch) (w : fl_W) (M : fl_M) (o : Nat) (b : Nat) (hb : b < 2) (t : Nat) (ht : t < 12) (key : Int32) (j : Nat) (hj : j < 12) (c : Int32) (q0 : Nat) (h3 : q0 ≤ 3) (Y : fl_M) (N : Nat) (V : Int32) (Z : fl_M) {p9 : Program} {e9 : Env} {s9 : State} {m9 : MethodId} {ag9 : Array Value} {bl9 : List Frame} {mt9 : Method} {c9 : Code} (K : XC p9 s9 m9 ag9 mt9 c9 b_R_field 9 (some .int) w_R_field "CompatibilityJudgeModel" w) : ∀ (s : Nat) (n : Nat) (X : fl_M), s ≤ q0 → n + s ≤ 44 → qF X.1 (12 * b + j) = q0 → ¬ X.1 279 (12 * b + j) = 0 → fOk o b X n → ffl X b (12 * b + j) n s = (Y, N) → (fOk o b Y N → N ≤ n + s → unS Y.1 = unS X.1 → XW p9 l e9 (rm_R_field) s9 m9 ag9 bl9 mt9 c9 9 0 0 (MQ bl9 (CQ w zN (some (.int V)) Z) ag9 s9 0 0 (fun q : Nat => w.2.2 ≤ q)) w zN Y 34 [(4, .int (nI N)), (0, .ref (w.2.2 + 278)), (1, .int (nI b)), (2, .int (nI t)), (3, .int key)] []) → XW p9 l e9 (rm_R_field) s9 m9 ag9 bl9 mt9 c9 9 0 0 (MQ bl9 (CQ w zN (some (.int V)) Z) ag9 s9 0 0 (fun q : Nat => w.2.2 ≤ q)) w zN X 153 [(8, .int (nI s - 1)), (7, .int c), (6, .int (nI (12 * b + j))), (5, .int (nI j)), (4, .int (nI n)), (0, .ref (w.2.2 + 278)), (1, .int (nI b)), (2, .int (nI t)), (3, .int key)] [] := by
  intro s
  induction s with
  | zero =>
    intro n X hs hn hq hd hX hf hE
    refine x_iload (pc := 153) K 0 d_R_field_153 rfl ?_
    refine x_if_lt (pc := 155) K (tgt := 210) d_R_field_155 (by decide) (fun c155 => ?_) (fun c155 => ?_)
    · skip
      refine x_goto (pc := 210) K (tgt := 34) d_R_field_210 (by decide) ?_
      have e1 : X = Y := congrArg Prod.fst hf
      have e2 : n = N := congrArg Prod.snd hf
      subst e1; subst e2
      refine x_lv [4, 5, 6, 7, 8] rfl ?_
      exact hE hX (by omega) rfl
    · skip
      exact absurd ((pre1 (by omega)).mpr rfl) c155
  | succ s ih =>
    intro n X hs hn hq hd hX hf hE
    rw [ffl] at hf
    have hfi := (hX.2.2.1 j hj hd).2 s (by omega)
    have hf12 : inL 12 (X.1 284 (3 * (12 * b + j) + s)) := inL_le hfi (by omega)
    refine x_iload (pc := 153) K 0 d_R_field_153 rfl ?_
    refine x_if_lt (pc := 155) K (tgt := 210) d_R_field_155 (by decide) (fun c155 => ?_) (fun c155 => ?_)
    · skip
      exact absurd ((pre1 (by omega)).mp c155) (by omega)
    · skip
      rw [show nI (s + 1) - 1 = nI s from nI_pred s]
      refine x_aload_n (pc := 158) K 5 d_R_field_158 rfl ?_
      refine x_iload_n (pc := 159) K 6 d_R_field_159 rfl ?_
      refine x_aload_n (pc := 160) K 5 d_R_field_160 rfl ?_
      refine x_getr (pc := 161) K (n := 278) (n' := 284) (k := 5) (zlt shR) shR rfl hX.1.r284 rfl (by decide) (fun _ q => zmem (uw_R _ q)) (zmem lk_R_26) d_R_field_161 ?_
      refine x_iconst (pc := 164) K (v := nI 3) d_R_field_164 (by decide) ?_
      refine x_iload (pc := 165) K 2 d_R_field_165 rfl ?_
      refine x_imul (pc := 167) K d_R_field_167 ?_
      refine x_eqi (y := nI (3 * (12 * b + j))) (pk_mul _ _) ?_
      refine x_iload (pc := 168) K 0 d_R_field_168 rfl ?_
      refine x_iadd (pc := 170) K d_R_field_170 ?_
      refine x_eqi (y := nI ((3 * (12 * b + j)) + s)) (nI_add _ _) ?_
      refine x_iald (pc := 171) K (n := 284) (j := (3 * (12 * b + j)) + s) rfl (by omega) (zlt sh284) sh284 rfl (by decide) d_R_field_171 ?_
      refine x_iconst (pc := 172) K (v := 1) d_R_field_172 (by decide) ?_
      refine x_callV (pc := 173) K (As := [.int (nI b), .int (X.1 284 ((3 * (12 * b + j)) + s)), .int 1]) (rest := []) (c_R_is l w X o hX.1 b (by omega) (X.1 284 ((3 * (12 * b + j)) + s)) 1 (Or.inr hf12)) (zcwV K.ts lk_R_108 im_R_is se_R_is ii_R co_R_is pd_R_is ⟨rfl, rfl⟩ ⟨by decide, by decide⟩) (zlt shR) shR rfl rfl rfl (Nat.le_of_ble_eq_true rfl) ⟨Nat.zero_le _, Nat.zero_le _⟩ d_R_field_173 ?_
      refine x_ifneB (pc := 176) K (tgt := 182) d_R_field_176 (by decide) (fun c176 => ?_) (fun c176 => ?_)
      · skip
        rw [if_pos c176] at hf
        refine x_aload_n (pc := 182) K 5 d_R_field_182 rfl ?_
        refine x_getr (pc := 183) K (n := 278) (n' := 293) (k := 14) (zlt shR) shR rfl hX.1.r293 rfl (by decide) (fun _ q => zmem (uw_R _ q)) (zmem lk_R_53) d_R_field_183 ?_
        refine x_iload (pc := 186) K 4 d_R_field_186 rfl ?_
        refine x_aload_n (pc := 188) K 5 d_R_field_188 rfl ?_
        refine x_getr (pc := 189) K (n := 278) (n' := 284) (k := 5) (zlt shR) shR rfl hX.1.r284 rfl (by decide) (fun _ q => zmem (uw_R _ q)) (zmem lk_R_26) d_R_field_189 ?_
        refine x_iconst (pc := 192) K (v := nI 3) d_R_field_192 (by decide) ?_
        refine x_iload (pc := 193) K 2 d_R_field_193 rfl ?_
        refine x_imul (pc := 195) K d_R_field_195 ?_
        refine x_eqi (y := nI (3 * (12 * b + j))) (pk_mul _ _) ?_
        refine x_iload (pc := 196) K 0 d_R_field_196 rfl ?_
        refine x_iadd (pc := 198) K d_R_field_198 ?_
        refine x_eqi (y := nI ((3 * (12 * b + j)) + s)) (nI_add _ _) ?_
        refine x_iald (pc := 199) K (n := 284) (j := (3 * (12 * b + j)) + s) rfl (by omega) (zlt sh284) sh284 rfl (by decide) d_R_field_199 ?_
        refine x_iast (pc := 200) K (n := 293) (j := n) (x := X.1 284 ((3 * (12 * b + j)) + s)) rfl (by omega) (zlt sh293) sh293 rfl (by decide) d_R_field_200 ?_
        refine x_iinc (pc := 201) K (v := nI (n + 1)) (lv' := [(4, .int (nI (n + 1))), (8, .int (nI s)), (7, .int c), (6, .int (nI (12 * b + j))), (5, .int (nI j)), (0, .ref (w.2.2 + 278)), (1, .int (nI b)), (2, .int (nI t)), (3, .int key)]) 4 d_R_field_201 rfl (nI_1 _) (by decide) rfl ?_
        refine x_iinc (pc := 204) K (v := nI s - 1) (lv' := [(8, .int (nI s - 1)), (4, .int (nI (n + 1))), (7, .int c), (6, .int (nI (12 * b + j))), (5, .int (nI j)), (0, .ref (w.2.2 + 278)), (1, .int (nI b)), (2, .int (nI t)), (3, .int key)]) 1 d_R_field_204 rfl (dec1 _) (by decide) rfl ?_
        refine x_goto (pc := 207) K (tgt := 153) d_R_field_207 (by decide) ?_
        refine x_lv [0, 2, 3, 4, 1, 5, 6, 7, 8] rfl ?_
        exact ih (n + 1) _ (by omega) (by omega) (by unfold qF; rw [rdI_ne (Or.inl (by decide))]; exact hq) (by rw [rdI_ne (Or.inl (by decide))]; exact hd) (fOk_push hX hf12 c176.2.1) hf (fun a b9 c9 => hE a (by omega) (c9.trans unS_line))
      · skip
        rw [if_neg c176] at hf
        refine x_goto (pc := 179) K (tgt := 204) d_R_field_179 (by decide) ?_
        refine x_iinc (pc := 204) K (v := nI s - 1) (lv' := [(8, .int (nI s - 1)), (7, .int c), (6, .int (nI (12 * b + j))), (5, .int (nI j)), (4, .int (nI n)), (0, .ref (w.2.2 + 278)), (1, .int (nI b)), (2, .int (nI t)), (3, .int key)]) 0 d_R_field_204 rfl (dec1 _) (by decide) rfl ?_
        refine x_goto (pc := 207) K (tgt := 153) d_R_field_207 (by decide) ?_
        refine x_lv [0, 1, 2, 3, 4, 5, 6, 7, 8] rfl ?_
        exact ih n _ (by omega) (by omega) hq hd hX hf (fun a b9 c9 => hE a (by omega) c9)
set_option maxHeartbeats 4000000 in
set_option maxRecDepth 100000 in
theorem lp_R_field (l : Launch) (w : fl_W) (M : fl_M) (o : Nat) (b : Nat) (hb : b < 2) (t : Nat) (ht : t < 12) (key : Int32) (V : Int32) (Z : fl_M) {p9 : Program} {e9 : Env} {s9 : State} {m9 : MethodId} {ag9 : Array Value} {bl9 : List Frame} {mt9 : Method} {c9 : Code} (K : XC p9 s9 m9 ag9 mt9 c9 b_R_field 9 (some .int) w_R_field "CompatibilityJudgeModel" w) : ∀ (k : Nat) (n : Nat) (X : fl_M), n + 3 * unS X.1 ≤ 37 → n + 4 * unS X.1 + 1 ≤ k → fOk o b X n → dfs b key k X n = (V, Z) → XW p9 l e9 (rm_R_field) s9 m9 ag9 bl9 mt9 c9 9 0 0 (MQ bl9 (CQ w zN (some (.int V)) Z) ag9 s9 0 0 (fun q : Nat => w.2.2 ≤ q)) w zN X 34 [(4, .int (nI n)), (0, .ref (w.2.2 + 278)), (1, .int (nI b)), (2, .int (nI t)), (3, .int key)] [] := by
  intro k
  induction k with
  | zero =>
    intro n X hi hk
    exact absurd hk (by omega)
  | succ k ih =>
    intro n X hi hk hX hf
    rw [dfs] at hf
    refine x_iload (pc := 34) K 0 d_R_field_34 rfl ?_
    refine x_if_le (pc := 36) K (tgt := 213) d_R_field_36 (by decide) (fun c36 => ?_) (fun c36 => ?_)
    · skip
      have hn0 : n = 0 := by rcases Nat.eq_zero_or_pos n with z | z; exact z; exact absurd c36 (nI_nle z (by omega))
      rw [if_pos hn0] at hf
      have e1 : -1 = V := congrArg Prod.fst hf
      have e2 : X = Z := congrArg Prod.snd hf
      refine x_iconst (pc := 213) K (v := (-1)) d_R_field_213 (by decide) ?_
      exact x_iret (pc := 214) K (by rw [← e1]) e2 d_R_field_214
    · skip
      have hn0 : ¬ n = 0 := fun z => c36 (by rw [z]; decide)
      rw [if_neg hn0] at hf
      obtain ⟨j, hj1, hj, hjd⟩ := hX.2.2.2 (n - 1) (by omega)
      rw [hj1, ix_nI (by omega)] at hf
      have hu := unS_le (μ := X.1)
      refine x_iinc (pc := 39) K (v := nI (n - 1)) (lv' := [(4, .int (nI (n - 1))), (0, .ref (w.2.2 + 278)), (1, .int (nI b)), (2, .int (nI t)), (3, .int key)]) 0 d_R_field_39 rfl (decN (by omega)) (by decide) rfl ?_
      refine x_aload_n (pc := 42) K 1 d_R_field_42 rfl ?_
      refine x_getr (pc := 43) K (n := 278) (n' := 293) (k := 14) (zlt shR) shR rfl hX.1.r293 rfl (by decide) (fun _ q => zmem (uw_R _ q)) (zmem lk_R_53) d_R_field_43 ?_
      refine x_iload (pc := 46) K 0 d_R_field_46 rfl ?_
      refine x_iald (pc := 48) K (n := 293) (j := n - 1) rfl (by omega) (zlt sh293) sh293 rfl (by decide) d_R_field_48 ?_
      refine x_eqi (y := nI j) (hj1) ?_
      refine x_istore (pc := 49) K (lv' := [(5, .int (nI j)), (4, .int (nI (n - 1))), (0, .ref (w.2.2 + 278)), (1, .int (nI b)), (2, .int (nI t)), (3, .int key)]) d_R_field_49 (by decide) rfl ?_
      refine x_aload_n (pc := 51) K 2 d_R_field_51 rfl ?_
      refine x_getr (pc := 52) K (n := 278) (n' := 292) (k := 13) (zlt shR) shR rfl hX.1.r292 rfl (by decide) (fun _ q => zmem (uw_R _ q)) (zmem lk_R_50) d_R_field_52 ?_
      refine x_iload (pc := 55) K 0 d_R_field_55 rfl ?_
      refine x_zald (pc := 57) K (n := 292) (j := j) rfl (by omega) (zlt sh292) sh292 rfl (by decide) d_R_field_57 ?_
      refine x_if_eq (pc := 58) K (tgt := 64) d_R_field_58 (by decide) (fun c58 => ?_) (fun c58 => ?_)
      · skip
        rw [if_neg (fun z => z c58)] at hf
        have hX1 : fOk o b (wI X 292 j 1) (n - 1) := fOk_mark (fOk_pop hX (by omega))
        have hum := unS_mark hj c58
        have hc3 := (hX.2.1 (12 * b + j) (by omega)).1
        have hP1 := (hX.2.2.1 j hj hjd).1
        refine x_aload_n (pc := 64) K 2 d_R_field_64 rfl ?_
        refine x_getr (pc := 65) K (n := 278) (n' := 292) (k := 13) (zlt shR) shR rfl hX.1.r292 rfl (by decide) (fun _ q => zmem (uw_R _ q)) (zmem lk_R_50) d_R_field_65 ?_
        refine x_iload (pc := 68) K 0 d_R_field_68 rfl ?_
        refine x_iconst (pc := 70) K (v := 1) d_R_field_70 (by decide) ?_
        refine x_zast (pc := 71) K (n := 292) (j := j) (x := 1) (Or.inr rfl) rfl (by omega) (zlt sh292) sh292 rfl (by decide) d_R_field_71 ?_
        refine x_bipush (pc := 72) K (v := nI 12) d_R_field_72 (by decide) ?_
        refine x_iload_n (pc := 74) K 3 d_R_field_74 rfl ?_
        refine x_imul (pc := 75) K d_R_field_75 ?_
        refine x_eqi (y := nI (12 * b)) (pk_mul _ _) ?_
        refine x_iload (pc := 76) K 0 d_R_field_76 rfl ?_
        refine x_iadd (pc := 78) K d_R_field_78 ?_
        refine x_eqi (y := nI ((12 * b) + j)) (nI_add _ _) ?_
        refine x_istore (pc := 79) K (lv' := [(6, .int (nI ((12 * b) + j))), (5, .int (nI j)), (4, .int (nI (n - 1))), (0, .ref (w.2.2 + 278)), (1, .int (nI b)), (2, .int (nI t)), (3, .int key)]) d_R_field_79 (by decide) rfl ?_
        refine x_aload_n (pc := 81) K 3 d_R_field_81 rfl ?_
        refine x_iload (pc := 82) K 0 d_R_field_82 rfl ?_
        refine x_iconst (pc := 84) K (v := 0) d_R_field_84 (by decide) ?_
        refine x_iload_n (pc := 85) K 6 d_R_field_85 rfl ?_
        refine x_callV (pc := 86) K (As := [.int (nI ((12 * b) + j)), .int 0, .int key]) (rest := []) (c_R_own l w (wI X 292 j 1) o hX.1 ((12 * b) + j) (by omega) (rCs_w (by decide) (by decide) hX.2.1 _ (by omega)) 0 key) (zcwV K.ts lk_R_72 im_R_own se_R_own ii_R co_R_own pd_R_own ⟨rfl, rfl⟩ ⟨by decide, by decide⟩) (zlt shR) shR rfl rfl rfl (Nat.le_of_ble_eq_true rfl) ⟨Nat.zero_le _, Nat.zero_le _⟩ d_R_field_86 ?_
        refine x_istore (pc := 89) K (lv' := [(7, .int (qOwn (wI X 292 j 1).1 ((12 * b) + j) 0 key)), (6, .int (nI ((12 * b) + j))), (5, .int (nI j)), (4, .int (nI (n - 1))), (0, .ref (w.2.2 + 278)), (1, .int (nI b)), (2, .int (nI t)), (3, .int key)]) d_R_field_89 (by decide) rfl ?_
        refine x_iload (pc := 91) K 0 d_R_field_91 rfl ?_
        refine x_if_lt (pc := 93) K (tgt := 99) d_R_field_93 (by decide) (fun c93 => ?_) (fun c93 => ?_)
        · skip
          rw [if_neg (fun z => z c93)] at hf
          refine x_aload_n (pc := 99) K 4 d_R_field_99 rfl ?_
          refine x_getr (pc := 100) K (n := 278) (n' := 280) (k := 1) (zlt shR) shR rfl hX.1.r280 rfl (by decide) (fun _ q => zmem (uw_R _ q)) (zmem lk_R_13) d_R_field_100 ?_
          refine x_iload (pc := 103) K 1 d_R_field_103 rfl ?_
          refine x_iald (pc := 105) K (n := 280) (j := (12 * b) + j) rfl (by omega) (zlt sh280) sh280 rfl (by decide) d_R_field_105 ?_
          refine x_if_ne (pc := 106) K (tgt := 142) d_R_field_106 (by decide) (fun c106 => ?_) (fun c106 => ?_)
          · skip
            have es : fsc (wI X 292 j 1) b (12 * b + j) (n - 1) = (wI X 292 j 1, n - 1) := if_neg (fun z => c106 z.1)
            rw [es] at hf
            refine x_aload_n (pc := 142) K 4 d_R_field_142 rfl ?_
            refine x_getr (pc := 143) K (n := 278) (n' := 283) (k := 4) (zlt shR) shR rfl hX.1.r283 rfl (by decide) (fun _ q => zmem (uw_R _ q)) (zmem lk_R_23) d_R_field_143 ?_
            refine x_iload (pc := 146) K 1 d_R_field_146 rfl ?_
            refine x_iald (pc := 148) K (n := 283) (j := (12 * b) + j) rfl (by omega) (zlt sh283) sh283 rfl (by decide) d_R_field_148 ?_
            refine x_eqi (y := nI (qF X.1 (12 * b + j))) (by rw [rdI_ne (Or.inl (by decide))]; exact hc3.1) ?_
            refine x_iconst (pc := 149) K (v := 1) d_R_field_149 (by decide) ?_
            refine x_isub (pc := 150) K d_R_field_150 ?_
            refine x_eqi (y := nI (qF X.1 (12 * b + j)) - 1) (rfl) ?_
            refine x_istore (pc := 151) K (lv' := [(8, .int (nI (qF X.1 (12 * b + j)) - 1)), (7, .int (qOwn (wI X 292 j 1).1 ((12 * b) + j) 0 key)), (6, .int (nI ((12 * b) + j))), (5, .int (nI j)), (4, .int (nI (n - 1))), (0, .ref (w.2.2 + 278)), (1, .int (nI b)), (2, .int (nI t)), (3, .int key)]) d_R_field_151 (by decide) rfl ?_
            refine x_lv [0, 1, 2, 3, 4, 5, 6, 7, 8] rfl ?_
            refine li_R_field l w M o b hb t ht key j hj _ (qF X.1 (12 * b + j)) hc3.2 _ _ V Z K (qF X.1 (12 * b + j)) (n - 1) (wI X 292 j 1) (Nat.le_refl _) (by omega) (by unfold qF; rw [rdI_ne (Or.inl (by decide))]) (by rw [rdI_ne (Or.inl (by omega))]; exact hjd) hX1 rfl (fun hY hN hU => ?_)
            have hU9 := hU
            exact ih _ _ (by have := hc3.2; omega) (by have := hc3.2; omega) hY hf
          · skip
            refine x_aload_n (pc := 109) K 4 d_R_field_109 rfl ?_
            refine x_iload_n (pc := 110) K 5 d_R_field_110 rfl ?_
            refine x_aload_n (pc := 111) K 4 d_R_field_111 rfl ?_
            refine x_getr (pc := 112) K (n := 278) (n' := 282) (k := 3) (zlt shR) shR rfl hX.1.r282 rfl (by decide) (fun _ q => zmem (uw_R _ q)) (zmem lk_R_20) d_R_field_112 ?_
            refine x_iload (pc := 115) K 1 d_R_field_115 rfl ?_
            refine x_iald (pc := 117) K (n := 282) (j := (12 * b) + j) rfl (by omega) (zlt sh282) sh282 rfl (by decide) d_R_field_117 ?_
            refine x_iconst (pc := 118) K (v := 0) d_R_field_118 (by decide) ?_
            refine x_callV (pc := 119) K (As := [.int (nI b), .int ((wI X 292 j 1).1 282 ((12 * b) + j)), .int 0]) (rest := []) (c_R_is l w (wI X 292 j 1) o hX.1 b (by omega) ((wI X 292 j 1).1 282 ((12 * b) + j)) 0 (by rw [rdI_ne (Or.inl (by decide))]; exact hP1.imp (fun z => by rw [z]; decide) (fun z => inL_le z (by omega)))) (zcwV K.ts lk_R_108 im_R_is se_R_is ii_R co_R_is pd_R_is ⟨rfl, rfl⟩ ⟨by decide, by decide⟩) (zlt shR) shR rfl rfl rfl (Nat.le_of_ble_eq_true rfl) ⟨Nat.zero_le _, Nat.zero_le _⟩ d_R_field_119 ?_
            refine x_ifeqB (pc := 122) K (tgt := 142) d_R_field_122 (by decide) (fun c122 => ?_) (fun c122 => ?_)
            · skip
              have es : fsc (wI X 292 j 1) b (12 * b + j) (n - 1) = (wI X 292 j 1, n - 1) := if_neg (fun z => c122 z.2)
              rw [es] at hf
              refine x_aload_n (pc := 142) K 4 d_R_field_142 rfl ?_
              refine x_getr (pc := 143) K (n := 278) (n' := 283) (k := 4) (zlt shR) shR rfl hX.1.r283 rfl (by decide) (fun _ q => zmem (uw_R _ q)) (zmem lk_R_23) d_R_field_143 ?_
              refine x_iload (pc := 146) K 1 d_R_field_146 rfl ?_
              refine x_iald (pc := 148) K (n := 283) (j := (12 * b) + j) rfl (by omega) (zlt sh283) sh283 rfl (by decide) d_R_field_148 ?_
              refine x_eqi (y := nI (qF X.1 (12 * b + j))) (by rw [rdI_ne (Or.inl (by decide))]; exact hc3.1) ?_
              refine x_iconst (pc := 149) K (v := 1) d_R_field_149 (by decide) ?_
              refine x_isub (pc := 150) K d_R_field_150 ?_
              refine x_eqi (y := nI (qF X.1 (12 * b + j)) - 1) (rfl) ?_
              refine x_istore (pc := 151) K (lv' := [(8, .int (nI (qF X.1 (12 * b + j)) - 1)), (7, .int (qOwn (wI X 292 j 1).1 ((12 * b) + j) 0 key)), (6, .int (nI ((12 * b) + j))), (5, .int (nI j)), (4, .int (nI (n - 1))), (0, .ref (w.2.2 + 278)), (1, .int (nI b)), (2, .int (nI t)), (3, .int key)]) d_R_field_151 (by decide) rfl ?_
              refine x_lv [0, 1, 2, 3, 4, 5, 6, 7, 8] rfl ?_
              refine li_R_field l w M o b hb t ht key j hj _ (qF X.1 (12 * b + j)) hc3.2 _ _ V Z K (qF X.1 (12 * b + j)) (n - 1) (wI X 292 j 1) (Nat.le_refl _) (by omega) (by unfold qF; rw [rdI_ne (Or.inl (by decide))]) (by rw [rdI_ne (Or.inl (by omega))]; exact hjd) hX1 rfl (fun hY hN hU => ?_)
              have hU9 := hU
              exact ih _ _ (by have := hc3.2; omega) (by have := hc3.2; omega) hY hf
            · skip
              have es : fsc (wI X 292 j 1) b (12 * b + j) (n - 1) = (wI (wI X 292 j 1) 293 (n - 1) ((wI X 292 j 1).1 282 (12 * b + j)), n - 1 + 1) := if_pos ⟨c106, c122⟩
              rw [es] at hf
              have hv9 : inL 12 ((wI X 292 j 1).1 282 (12 * b + j)) := by rw [rdI_ne (Or.inl (by decide))]; exact inL_le (hP1.resolve_left (fun z => by have y := c122.1; rw [rdI_ne (Or.inl (by decide)), z] at y; exact y (by decide))) (by omega)
              have hX2 := fOk_push hX1 hv9 c122.2.1
              refine x_aload_n (pc := 125) K 4 d_R_field_125 rfl ?_
              refine x_getr (pc := 126) K (n := 278) (n' := 293) (k := 14) (zlt shR) shR rfl hX.1.r293 rfl (by decide) (fun _ q => zmem (uw_R _ q)) (zmem lk_R_53) d_R_field_126 ?_
              refine x_iload (pc := 129) K 3 d_R_field_129 rfl ?_
              refine x_aload_n (pc := 131) K 4 d_R_field_131 rfl ?_
              refine x_getr (pc := 132) K (n := 278) (n' := 282) (k := 3) (zlt shR) shR rfl hX.1.r282 rfl (by decide) (fun _ q => zmem (uw_R _ q)) (zmem lk_R_20) d_R_field_132 ?_
              refine x_iload (pc := 135) K 1 d_R_field_135 rfl ?_
              refine x_iald (pc := 137) K (n := 282) (j := (12 * b) + j) rfl (by omega) (zlt sh282) sh282 rfl (by decide) d_R_field_137 ?_
              refine x_iast (pc := 138) K (n := 293) (j := n - 1) (x := (wI X 292 j 1).1 282 ((12 * b) + j)) rfl (by omega) (zlt sh293) sh293 rfl (by decide) d_R_field_138 ?_
              refine x_iinc (pc := 139) K (v := nI (n - 1 + 1)) (lv' := [(4, .int (nI (n - 1 + 1))), (7, .int (qOwn (wI X 292 j 1).1 ((12 * b) + j) 0 key)), (6, .int (nI ((12 * b) + j))), (5, .int (nI j)), (0, .ref (w.2.2 + 278)), (1, .int (nI b)), (2, .int (nI t)), (3, .int key)]) 3 d_R_field_139 rfl (nI_1 _) (by decide) rfl ?_
              refine x_aload_n (pc := 142) K 4 d_R_field_142 rfl ?_
              refine x_getr (pc := 143) K (n := 278) (n' := 283) (k := 4) (zlt shR) shR rfl hX.1.r283 rfl (by decide) (fun _ q => zmem (uw_R _ q)) (zmem lk_R_23) d_R_field_143 ?_
              refine x_iload (pc := 146) K 2 d_R_field_146 rfl ?_
              refine x_iald (pc := 148) K (n := 283) (j := (12 * b) + j) rfl (by omega) (zlt sh283) sh283 rfl (by decide) d_R_field_148 ?_
              refine x_eqi (y := nI (qF X.1 (12 * b + j))) (by rw [rdI_ne (Or.inl (by decide)), rdI_ne (Or.inl (by decide))]; exact hc3.1) ?_
              refine x_iconst (pc := 149) K (v := 1) d_R_field_149 (by decide) ?_
              refine x_isub (pc := 150) K d_R_field_150 ?_
              refine x_eqi (y := nI (qF X.1 (12 * b + j)) - 1) (rfl) ?_
              refine x_istore (pc := 151) K (lv' := [(8, .int (nI (qF X.1 (12 * b + j)) - 1)), (4, .int (nI (n - 1 + 1))), (7, .int (qOwn (wI X 292 j 1).1 ((12 * b) + j) 0 key)), (6, .int (nI ((12 * b) + j))), (5, .int (nI j)), (0, .ref (w.2.2 + 278)), (1, .int (nI b)), (2, .int (nI t)), (3, .int key)]) d_R_field_151 (by decide) rfl ?_
              refine x_lv [0, 2, 3, 4, 1, 5, 6, 7, 8] rfl ?_
              refine li_R_field l w M o b hb t ht key j hj _ (qF X.1 (12 * b + j)) hc3.2 _ _ V Z K (qF X.1 (12 * b + j)) (n - 1 + 1) (wI (wI X 292 j 1) 293 (n - 1) ((wI X 292 j 1).1 282 (12 * b + j))) (Nat.le_refl _) (by omega) (by unfold qF; rw [rdI_ne (Or.inl (by decide)), rdI_ne (Or.inl (by decide))]) (by rw [rdI_ne (Or.inl (by omega)), rdI_ne (Or.inl (by omega))]; exact hjd) hX2 rfl (fun hY hN hU => ?_)
              have hU9 := (hU.trans unS_line)
              exact ih _ _ (by have := hc3.2; omega) (by have := hc3.2; omega) hY hf
        · skip
          rw [if_pos c93] at hf
          have e1 : qOwn (wI X 292 j 1).1 (12 * b + j) 0 key = V := congrArg Prod.fst hf
          have e2 : wI X 292 j 1 = Z := congrArg Prod.snd hf
          refine x_iload (pc := 96) K 0 d_R_field_96 rfl ?_
          exact x_iret (pc := 98) K (by rw [← e1]) e2 d_R_field_98
      · skip
        rw [if_pos c58] at hf
        refine x_goto (pc := 61) K (tgt := 34) d_R_field_61 (by decide) ?_
        refine x_lv [1, 2, 3, 4, 5] rfl ?_
        exact ih (n - 1) X (by omega) (by omega) (fOk_pop hX (by omega)) hf
theorem fcl_2 : ∀ (k i : Nat) (M : fl_M), (fcl M i k).2 = M.2 := by
  intro k
  induction k with
  | zero => intro i M; rfl
  | succ k ih => intro i M; rw [fcl, ih]; rfl
theorem fcl_rd {a j : Nat} (h : a ≠ 292) : ∀ (k i : Nat) (M : fl_M), (fcl M i k).1 a j = M.1 a j := by
  intro k
  induction k with
  | zero => intro i M; rfl
  | succ k ih => intro i M; rw [fcl, ih, rdI_ne (Or.inl h)]
theorem fcl_ok {o b : Nat} : ∀ (k i : Nat) (M : fl_M), fOk o b M 0 → fOk o b (fcl M i k) 0 := by
  intro k
  induction k with
  | zero => intro i M h; exact h
  | succ k ih => intro i M h; rw [fcl]; exact ih _ _ (fOk_mark h)
abbrev qFld (M : fl_M) (b t : Nat) (key : Int32) : Int32 × fl_M := dfs b key 50 (wI (fcl M 0 12) 293 0 (nI t)) 1
set_option maxHeartbeats 4000000 in
set_option maxRecDepth 100000 in
theorem l0_R_field (l : Launch) (w : fl_W) (M : fl_M) (o : Nat) (b : Nat) (hb : b < 2) (t : Nat) (ht : t < 12) (key : Int32) (Y : fl_M) {p9 : Program} {e9 : Env} {s9 : State} {m9 : MethodId} {ag9 : Array Value} {bl9 : List Frame} {mt9 : Method} {c9 : Code} (K : XC p9 s9 m9 ag9 mt9 c9 b_R_field 9 (some .int) w_R_field "CompatibilityJudgeModel" w) : ∀ (k : Nat) (i : Nat) (X : fl_M), i ≤ 12 → 12 + 1 ≤ i + k → fOk o b X 0 → ¬ X.1 279 (12 * b + t) = 0 → fcl X i (12 - i) = Y → XW p9 l e9 (rm_R_field) s9 m9 ag9 bl9 mt9 c9 9 0 0 (MQ bl9 (CQ w zN (some (.int ((dfs b key 50 (wI Y 293 0 (nI t)) 1).1))) ((dfs b key 50 (wI Y 293 0 (nI t)) 1).2)) ag9 s9 0 0 (fun q : Nat => w.2.2 ≤ q)) w zN X 3 [(4, .int (nI i)), (0, .ref (w.2.2 + 278)), (1, .int (nI b)), (2, .int (nI t)), (3, .int key)] [] := by
  intro k
  induction k with
  | zero =>
    intro i X hi hk
    exact absurd hk (by omega)
  | succ k ih =>
    intro i X hi hk hX hd hf
    refine x_iload (pc := 3) K 0 d_R_field_3 rfl ?_
    refine x_bipush (pc := 5) K (v := nI 12) d_R_field_5 (by decide) ?_
    refine x_icmp_ge (pc := 7) K (tgt := 24) d_R_field_7 (by decide) (fun c7 => ?_) (fun c7 => ?_)
    · skip
      have hic : i = 12 := by have := (nI_leI (a := 12) (by omega) (by omega)).mp c7; omega
      rw [hic, Nat.sub_self] at hf
      refine x_iconst (pc := 24) K (v := nI 1) d_R_field_24 (by decide) ?_
      refine x_istore (pc := 25) K (lv' := [(4, .int (nI 1)), (0, .ref (w.2.2 + 278)), (1, .int (nI b)), (2, .int (nI t)), (3, .int key)]) d_R_field_25 (by decide) rfl ?_
      refine x_aload_n (pc := 27) K 1 d_R_field_27 rfl ?_
      refine x_getr (pc := 28) K (n := 278) (n' := 293) (k := 14) (zlt shR) shR rfl hX.1.r293 rfl (by decide) (fun _ q => zmem (uw_R _ q)) (zmem lk_R_53) d_R_field_28 ?_
      refine x_iconst (pc := 31) K (v := nI 0) d_R_field_31 (by decide) ?_
      refine x_iload_n (pc := 32) K 3 d_R_field_32 rfl ?_
      refine x_iast (pc := 33) K (n := 293) (j := 0) (x := nI t) (by decide) (by decide) (zlt sh293) sh293 rfl (by decide) d_R_field_33 ?_
      have hf : X = Y := hf
      subst hf
      refine x_lv [0, 1, 2, 3, 4] rfl ?_
      exact lp_R_field l w M o b hb t ht key _ _ K 50 1 _ (by have := unS_le (μ := (wI X 293 0 (nI t)).1); omega) (by have := unS_le (μ := (wI X 293 0 (nI t)).1); omega) (fOk_push hX (inL_nI (by omega) ht) (by rw [ix_nI (by omega)]; exact hd)) rfl
    · skip
      have hic : i < 12 := Nat.not_le.mp (fun q => c7 (nI_le (a := 12) q (by omega)))
      rw [show 12 - i = (12 - (i + 1)) + 1 by omega, fcl] at hf
      refine x_aload_n (pc := 10) K 1 d_R_field_10 rfl ?_
      refine x_getr (pc := 11) K (n := 278) (n' := 292) (k := 13) (zlt shR) shR rfl hX.1.r292 rfl (by decide) (fun _ q => zmem (uw_R _ q)) (zmem lk_R_50) d_R_field_11 ?_
      refine x_iload (pc := 14) K 0 d_R_field_14 rfl ?_
      refine x_iconst (pc := 16) K (v := nI 0) d_R_field_16 (by decide) ?_
      refine x_zast (pc := 17) K (n := 292) (j := i) (x := nI 0) (Or.inl rfl) rfl (by omega) (zlt sh292) sh292 rfl (by decide) d_R_field_17 ?_
      refine x_iinc (pc := 18) K (v := nI (i + 1)) (lv' := [(4, .int (nI (i + 1))), (0, .ref (w.2.2 + 278)), (1, .int (nI b)), (2, .int (nI t)), (3, .int key)]) 0 d_R_field_18 rfl (nI_1 _) (by decide) rfl ?_
      refine x_goto (pc := 21) K (tgt := 3) d_R_field_21 (by decide) ?_
      exact ih (i + 1) _ (by omega) (by omega) (fOk_mark hX) (by rw [rdI_ne (Or.inl (by omega))]; exact hd) hf
set_option maxHeartbeats 4000000 in
set_option maxRecDepth 100000 in
theorem c_R_field (l : Launch) (w : fl_W) (M : fl_M) (o : Nat) (hR : zRf o M.2) (b : Nat) (hb : b < 2) (t : Nat) (ht : t < 12) (hc : rCs M.1) (key : Int32) (hP : rP M.1 b) (hd : ¬ M.1 279 (12 * b + t) = 0) : CT l y_R_field w_R_field rm_R_field w zN [.ref (w.2.2 + 278), .int (nI b), .int (nI t), .int key] M (some (.int ((qFld M b t key).1))) ((qFld M b t key).2) := by
  refine CT.of (cc := b_R_field) (own := "CompatibilityJudgeModel") (by decide) rfl rfl (Nat.le_of_ble_eq_true rfl) ?_
  intro p9 e9 s9 m9 ag9 bl9 mt9 c9 K
  show XW p9 l e9 (rm_R_field) s9 m9 ag9 bl9 mt9 c9 9 0 0 (MQ bl9 (CQ w zN (some (.int ((qFld M b t key).1))) ((qFld M b t key).2)) ag9 s9 0 0 (fun q : Nat => w.2.2 ≤ q)) w zN M 0 [(0, .ref (w.2.2 + 278)), (1, .int (nI b)), (2, .int (nI t)), (3, .int key)] []
  refine x_iconst (pc := 0) K (v := nI 0) d_R_field_0 (by decide) ?_
  refine x_istore (pc := 1) K (lv' := [(4, .int (nI 0)), (0, .ref (w.2.2 + 278)), (1, .int (nI b)), (2, .int (nI t)), (3, .int key)]) d_R_field_1 (by decide) rfl ?_
  exact l0_R_field l w M o b hb t ht key _ K 13 0 M (by omega) (by omega) ⟨hR, hc, hP, fun i hi => absurd hi (by omega)⟩ hd rfl
def vFd (M : fl_M) (b t : Nat) (k key : Int32) : Int32 := if M.1 279 (12 * b + t) = 0 then -1 else if k = 0 then (qFld M b t key).1 else if k = 1 then qMth M.1 b t key else qOwn M.1 (12 * b + t) 2 key
def mFd (M : fl_M) (b t : Nat) (k key : Int32) : fl_M := if M.1 279 (12 * b + t) = 0 then M else if k = 0 then (qFld M b t key).2 else M
set_option maxHeartbeats 4000000 in
set_option maxRecDepth 100000 in
theorem c_R_find (l : Launch) (w : fl_W) (M : fl_M) (o : Nat) (hR : zRf o M.2) (b : Nat) (hb : b < 2) (t : Nat) (ht : t < 12) (hc : rCs M.1) (hP : rP M.1 b) (k key : Int32) : CT l y_R_find w_R_find rm_R_find w zN [.ref (w.2.2 + 278), .int (nI b), .int (nI t), .int k, .int key] M (some (.int (vFd M b t k key))) (mFd M b t k key) := by
  refine CT.of (cc := b_R_find) (own := "CompatibilityJudgeModel") (by decide) rfl rfl (Nat.le_of_ble_eq_true rfl) ?_
  intro p9 e9 s9 m9 ag9 bl9 mt9 c9 K
  show XW p9 l e9 (rm_R_find) s9 m9 ag9 bl9 mt9 c9 5 0 0 (MQ bl9 (CQ w zN (some (.int (vFd M b t k key))) (mFd M b t k key)) ag9 s9 0 0 (fun q : Nat => w.2.2 ≤ q)) w zN M 0 [(0, .ref (w.2.2 + 278)), (1, .int (nI b)), (2, .int (nI t)), (3, .int k), (4, .int key)] []
  refine x_aload_n (pc := 0) K 0 d_R_find_0 rfl ?_
  refine x_getr (pc := 1) K (n := 278) (n' := 279) (k := 0) (zlt shR) shR rfl hR.r279 rfl (by decide) (fun _ q => zmem (uw_R _ q)) (zmem lk_R_7) d_R_find_1 ?_
  refine x_bipush (pc := 4) K (v := nI 12) d_R_find_4 (by decide) ?_
  refine x_iload_n (pc := 6) K 1 d_R_find_6 rfl ?_
  refine x_imul (pc := 7) K d_R_find_7 ?_
  refine x_eqi (y := nI (12 * b)) (pk_mul _ _) ?_
  refine x_iload_n (pc := 8) K 2 d_R_find_8 rfl ?_
  refine x_iadd (pc := 9) K d_R_find_9 ?_
  refine x_eqi (y := nI ((12 * b) + t)) (nI_add _ _) ?_
  refine x_zald (pc := 10) K (n := 279) (j := (12 * b) + t) rfl (by omega) (zlt sh279) sh279 rfl (by decide) d_R_find_10 ?_
  refine x_if_ne (pc := 11) K (tgt := 16) d_R_find_11 (by decide) (fun c11 => ?_) (fun c11 => ?_)
  · skip
    refine x_iload_n (pc := 16) K 3 d_R_find_16 rfl ?_
    refine x_if_ne (pc := 17) K (tgt := 31) d_R_find_17 (by decide) (fun c17 => ?_) (fun c17 => ?_)
    · skip
      refine x_iload_n (pc := 31) K 3 d_R_find_31 rfl ?_
      refine x_iconst (pc := 32) K (v := 1) d_R_find_32 (by decide) ?_
      refine x_icmp_ne (pc := 33) K (tgt := 47) d_R_find_33 (by decide) (fun c33 => ?_) (fun c33 => ?_)
      · skip
        refine x_aload_n (pc := 47) K 0 d_R_find_47 rfl ?_
        refine x_bipush (pc := 48) K (v := nI 12) d_R_find_48 (by decide) ?_
        refine x_iload_n (pc := 50) K 1 d_R_find_50 rfl ?_
        refine x_imul (pc := 51) K d_R_find_51 ?_
        refine x_eqi (y := nI (12 * b)) (pk_mul _ _) ?_
        refine x_iload_n (pc := 52) K 2 d_R_find_52 rfl ?_
        refine x_iadd (pc := 53) K d_R_find_53 ?_
        refine x_eqi (y := nI ((12 * b) + t)) (nI_add _ _) ?_
        refine x_iconst (pc := 54) K (v := 2) d_R_find_54 (by decide) ?_
        refine x_iload (pc := 55) K 4 d_R_find_55 rfl ?_
        refine x_callV (pc := 57) K (As := [.int (nI ((12 * b) + t)), .int 2, .int key]) (rest := []) (c_R_own l w M o hR ((12 * b) + t) (by omega) (hc _ (by omega)) 2 key) (zcwV K.ts lk_R_72 im_R_own se_R_own ii_R co_R_own pd_R_own ⟨rfl, rfl⟩ ⟨by decide, by decide⟩) (zlt shR) shR rfl rfl rfl (Nat.le_of_ble_eq_true rfl) ⟨Nat.zero_le _, Nat.zero_le _⟩ d_R_find_57 ?_
        exact x_iret (pc := 60) K (by unfold vFd; rw [if_neg c11, if_neg c17, if_neg c33]) (by unfold mFd; rw [if_neg c11, if_neg c17]) d_R_find_60
      · skip
        refine x_aload_n (pc := 36) K 0 d_R_find_36 rfl ?_
        refine x_iload_n (pc := 37) K 1 d_R_find_37 rfl ?_
        refine x_iload_n (pc := 38) K 2 d_R_find_38 rfl ?_
        refine x_iload (pc := 39) K 4 d_R_find_39 rfl ?_
        refine x_callV (pc := 41) K (As := [.int (nI b), .int (nI t), .int key]) (rest := []) (c_R_method l w M o hR b hb t (by omega) hc key hP c11) (zcwV K.ts lk_R_117 im_R_method se_R_method ii_R co_R_method pd_R_method ⟨rfl, rfl⟩ ⟨by decide, by decide⟩) (zlt shR) shR rfl rfl rfl (Nat.le_of_ble_eq_true rfl) ⟨Nat.zero_le _, Nat.zero_le _⟩ d_R_find_41 ?_
        refine x_goto (pc := 44) K (tgt := 60) d_R_find_44 (by decide) ?_
        exact x_iret (pc := 60) K (by unfold vFd; rw [if_neg c11, if_neg c17, if_pos c33]) (by unfold mFd; rw [if_neg c11, if_neg c17]) d_R_find_60
    · skip
      refine x_aload_n (pc := 20) K 0 d_R_find_20 rfl ?_
      refine x_iload_n (pc := 21) K 1 d_R_find_21 rfl ?_
      refine x_iload_n (pc := 22) K 2 d_R_find_22 rfl ?_
      refine x_iload (pc := 23) K 4 d_R_find_23 rfl ?_
      refine x_callV (pc := 25) K (As := [.int (nI b), .int (nI t), .int key]) (rest := []) (c_R_field l w M o hR b hb t (by omega) hc key hP c11) (zcwV K.ts lk_R_114 im_R_field se_R_field ii_R co_R_field pd_R_field ⟨rfl, rfl⟩ ⟨by decide, by decide⟩) (zlt shR) shR rfl rfl rfl (Nat.le_of_ble_eq_true rfl) ⟨Nat.zero_le _, Nat.zero_le _⟩ d_R_find_25 ?_
      refine x_goto (pc := 28) K (tgt := 60) d_R_find_28 (by decide) ?_
      exact x_iret (pc := 60) K (by unfold vFd; rw [if_neg c11, if_pos c17]) (by unfold mFd; rw [if_neg c11, if_pos c17]) d_R_find_60
  · skip
    refine x_iconst (pc := 14) K (v := (-1)) d_R_find_14 (by decide) ?_
    exact x_iret (pc := 15) K (by unfold vFd; rw [if_pos c11]) (by unfold mFd; rw [if_pos c11]) d_R_find_15
def vLk (M : fl_M) (b t : Nat) (k key : Int32) : Int32 := if vFd M b t k key < 0 then 12 else vFd M b t k key / 8 - nI (12 * b)
set_option maxHeartbeats 4000000 in
set_option maxRecDepth 100000 in
theorem c_R_look (l : Launch) (w : fl_W) (M : fl_M) (o : Nat) (hR : zRf o M.2) (hc : rCs M.1) (hP : ∀ b, b < 2 → rP M.1 b) (b t k q : Int32) : CT l y_R_look w_R_look rm_R_look w zN [.ref (w.2.2 + 278), .int b, .int t, .int k, .int q] M (some (.int (if badT b t ∨ bdK k q then -1 else vLk M (ix b) (ix t) k q))) (if badT b t ∨ bdK k q then M else mFd M (ix b) (ix t) k q) := by
  refine CT.of (cc := b_R_look) (own := "CompatibilityJudgeModel") (by decide) rfl rfl (Nat.le_of_ble_eq_true rfl) ?_
  intro p9 e9 s9 m9 ag9 bl9 mt9 c9 K
  show XW p9 l e9 (rm_R_look) s9 m9 ag9 bl9 mt9 c9 6 0 0 (MQ bl9 (CQ w zN (some (.int (if badT b t ∨ bdK k q then -1 else vLk M (ix b) (ix t) k q))) (if badT b t ∨ bdK k q then M else mFd M (ix b) (ix t) k q)) ag9 s9 0 0 (fun q : Nat => w.2.2 ≤ q)) w zN M 0 [(0, .ref (w.2.2 + 278)), (1, .int b), (2, .int t), (3, .int k), (4, .int q)] []
  refine x_iload_n (pc := 0) K 1 d_R_look_0 rfl ?_
  refine x_iload_n (pc := 1) K 2 d_R_look_1 rfl ?_
  refine x_callS (pc := 2) K (As := [.int b, .int t]) (rest := []) (c_R_bad l w M b t) (zcwS K.ts lk_R_63 sm_R_bad ii_R co_R_bad pd_R_bad ⟨rfl, rfl⟩ ⟨by decide, by decide⟩) rfl rfl (Nat.le_of_ble_eq_true rfl) ⟨Nat.zero_le _, Nat.zero_le _⟩ d_R_look_2 ?_
  refine x_ifneB (pc := 5) K (tgt := 17) d_R_look_5 (by decide) (fun c5 => ?_) (fun c5 => ?_)
  · skip
    refine x_iconst (pc := 17) K (v := (-1)) d_R_look_17 (by decide) ?_
    have hno : badT b t ∨ bdK k q := Or.inl c5
    exact x_iret (pc := 18) K (by rw [if_pos hno]) (by rw [if_pos hno]) d_R_look_18
  · skip
    have hok9 := badT_iff.mp c5
    obtain ⟨hbx, htx⟩ := okT_ix hok9
    have hb2 := hbx.2
    have ht12 := htx.2
    refine x_iload_n (pc := 8) K 3 d_R_look_8 rfl ?_
    refine x_iload (pc := 9) K 4 d_R_look_9 rfl ?_
    refine x_callS (pc := 11) K (As := [.int k, .int q]) (rest := []) (c_R_badKey l w M k q) (zcwS K.ts lk_R_69 sm_R_badKey ii_R co_R_badKey pd_R_badKey ⟨rfl, rfl⟩ ⟨by decide, by decide⟩) rfl rfl (Nat.le_of_ble_eq_true rfl) ⟨Nat.zero_le _, Nat.zero_le _⟩ d_R_look_11 ?_
    refine x_ifeqB (pc := 14) K (tgt := 19) d_R_look_14 (by decide) (fun c14 => ?_) (fun c14 => ?_)
    · skip
      refine x_aload_n (pc := 19) K 0 d_R_look_19 rfl ?_
      refine x_iload_n (pc := 20) K 1 d_R_look_20 rfl ?_
      refine x_eqi (y := nI (ix b)) (hbx.1) ?_
      refine x_iload_n (pc := 21) K 2 d_R_look_21 rfl ?_
      refine x_eqi (y := nI (ix t)) (htx.1) ?_
      refine x_iload_n (pc := 22) K 3 d_R_look_22 rfl ?_
      refine x_iload (pc := 23) K 4 d_R_look_23 rfl ?_
      refine x_callV (pc := 25) K (As := [.int (nI (ix b)), .int (nI (ix t)), .int k, .int q]) (rest := []) (c_R_find l w M o hR (ix b) (by omega) (ix t) (by omega) hc (hP _ hb2) k q) (zcwV K.ts lk_R_120 im_R_find se_R_find ii_R co_R_find pd_R_find ⟨rfl, rfl⟩ ⟨by decide, by decide⟩) (zlt shR) shR rfl rfl rfl (Nat.le_of_ble_eq_true rfl) ⟨Nat.zero_le _, Nat.zero_le _⟩ d_R_look_25 ?_
      refine x_istore (pc := 28) K (lv' := [(5, .int (vFd M (ix b) (ix t) k q)), (0, .ref (w.2.2 + 278)), (1, .int b), (2, .int t), (3, .int k), (4, .int q)]) d_R_look_28 (by decide) rfl ?_
      refine x_iload (pc := 30) K 0 d_R_look_30 rfl ?_
      refine x_if_ge (pc := 32) K (tgt := 40) d_R_look_32 (by decide) (fun c32 => ?_) (fun c32 => ?_)
      · skip
        refine x_iload (pc := 40) K 0 d_R_look_40 rfl ?_
        refine x_bipush (pc := 42) K (v := 8) d_R_look_42 (by decide) ?_
        refine x_idiv (pc := 44) K d_R_look_44 (by decide) ?_
        refine x_bipush (pc := 45) K (v := nI 12) d_R_look_45 (by decide) ?_
        refine x_iload_n (pc := 47) K 2 d_R_look_47 rfl ?_
        refine x_eqi (y := nI (ix b)) (hbx.1) ?_
        refine x_imul (pc := 48) K d_R_look_48 ?_
        refine x_eqi (y := nI (12 * (ix b))) (pk_mul _ _) ?_
        refine x_isub (pc := 49) K d_R_look_49 ?_
        refine x_eqi (y := ((vFd M (ix b) (ix t) k q) / 8) - (nI (12 * (ix b)))) (rfl) ?_
        have hno : ¬ (badT b t ∨ bdK k q) := fun z => z.elim c5 c14
        exact x_iret (pc := 50) K (by rw [if_neg hno]; unfold vLk; rw [if_neg (Int32.not_lt.mpr c32)]) (by rw [if_neg hno]) d_R_look_50
      · skip
        refine x_bipush (pc := 35) K (v := 12) d_R_look_35 (by decide) ?_
        refine x_goto (pc := 37) K (tgt := 50) d_R_look_37 (by decide) ?_
        have hno : ¬ (badT b t ∨ bdK k q) := fun z => z.elim c5 c14
        exact x_iret (pc := 50) K (by rw [if_neg hno]; unfold vLk; rw [if_pos (Int32.not_le.mp c32)]) (by rw [if_neg hno]) d_R_look_50
    · skip
      refine x_iconst (pc := 17) K (v := (-1)) d_R_look_17 (by decide) ?_
      have hno : badT b t ∨ bdK k q := Or.inr c14
      exact x_iret (pc := 18) K (by rw [if_pos hno]) (by rw [if_pos hno]) d_R_look_18
