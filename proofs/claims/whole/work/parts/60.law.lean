/-! THE LAW: ITS SIXTEEN CASES -/
section LSC
variable {p : Program} {l : Launch} {e : Env} {R : Room} {s : State} {m : MethodId} {args : Array Value} {below : List Frame} {meth : Method} {c : Code} {nL cells slots : Nat} {Q : State → Prop} {cc : ByteArray} {ret : Option FieldType} {Ts : List Cond} {own : String} {w : fl_W} {N : Nat} {M : fl_M} {pc : Nat} {lv : List (Nat × Value)} {st : List Value}
theorem x_sld (K : XC p s m args meth c cc nL ret Ts own w) {b L j : Nat} {xs : Nat → Int32} (hX : va_X b L xs s s.heap) (hbl : b < s.heap.size) (hwb : ¬ w.2.2 ≤ b) {i : Int32} (hi : i = nI j) (hj : j < L) (hL : L < 2 ^ 31) (hd : decode cc pc = .ok (.iaload, 1)) (kk : XW p l e R s m args below meth c nL cells slots Q w N M (pc + 1) lv (.int (xs j) :: st)) : XW p l e R s m args below meth c nL cells slots Q w N M pc lv (.int i :: .ref b :: st) := by
  intro H locs ls hP hS hl
  subst hi
  refine va_sld K.x K.b hX hbl hwb hS (vp_in_nI hj hL) hd ?_
  rw [nI_clamp (Nat.lt_trans hj hL)]
  exact kk H locs ls hP hS hl
theorem x_slen (K : XC p s m args meth c cc nL ret Ts own w) {b L : Nat} {xs : Nat → Int32} (hX : va_X b L xs s s.heap) (hbl : b < s.heap.size) (hwb : ¬ w.2.2 ≤ b) (hd : decode cc pc = .ok (.arraylength, 1)) (kk : XW p l e R s m args below meth c nL cells slots Q w N M (pc + 1) lv (.int (nI L) :: st)) : XW p l e R s m args below meth c nL cells slots Q w N M pc lv (.ref b :: st) := fun H locs ls hP hS hl => va_slen K.x K.b hX hbl hwb hS hd (kk H locs ls hP hS hl)
end LSC
set_option maxHeartbeats 4000000 in
set_option maxRecDepth 100000 in
theorem law_0 {p : Program} {l : Launch} {e : Env} {s : State} {m : MethodId} {below : List Frame} {meth : Method} {c : Code} {Q : State → Prop} {w : fl_W} {b L : Nat} {xs : Nat → Int32} (K : XC p s m #[Value.ref b] meth c code 4 ret (Cond.initialized "CompatibilityJudgeLaw" :: zG) "CompatibilityJudgeLaw" w) (hX : va_X b L xs s s.heap) (hbl : b < s.heap.size) (hwb : ¬ w.2.2 ≤ b) (hL31 : L < 2 ^ 31) {i o : Nat} {M : fl_M} (hi : i + 6 ≤ L) (hI : INV o M) (next : ∀ (o9 : Nat) (B9 : fl_M), INV o9 B9 → XW p l e room_1 s m #[Value.ref b] below meth c 4 295 4897 Q w zN B9 684 [(3, .int (nI i)), (2, .ref (w.2.2 + 278)), (1, .ref (w.2.2 + 0)), (0, .ref b)] []) : XW p l e room_1 s m #[Value.ref b] below meth c 4 295 4897 Q w zN M 112 [(3, .int (nI i)), (2, .ref (w.2.2 + 278)), (1, .ref (w.2.2 + 0)), (0, .ref b)] [] := by
  obtain ⟨A, hA⟩ : ∃ A : fl_M, A = (if yTy M o (xs (i + 1)) (xs (i + 2)) (xs (i + 3)) (xs (i + 4)) (xs (i + 5)) then xTy M o (xs (i + 1)) (xs (i + 2)) (xs (i + 3)) (xs (i + 4)) (xs (i + 5)) else M) := ⟨_, rfl⟩
  obtain ⟨B, hB⟩ : ∃ B : fl_M, B = (if yRT A.1 (xs (i + 1)) (xs (i + 2)) (xs (i + 3)) (xs (i + 4)) (xs (i + 5)) then xRT A (xs (i + 1)) (xs (i + 2)) (xs (i + 3)) (xs (i + 4)) (xs (i + 5)) else A) := ⟨_, rfl⟩
  obtain ⟨⟨q1, q2, q3⟩, q4⟩ := op_type hI hA hB
  have c1 := c_J_type l w M o hI.1.1 (fun x hx => (hI.1.2.1 x hx).1) (xs (i + 1)) (xs (i + 2)) (xs (i + 3)) (xs (i + 4)) (xs (i + 5))
  have c2 := c_R_type l w A o q1.1 (xs (i + 1)) (xs (i + 2)) (xs (i + 3)) (xs (i + 4)) (xs (i + 5))
  rw [← hA] at c1
  rw [← hB] at c2
  refine x_aload_n (pc := 112) K 2 d_L_law_112 rfl ?_
  refine x_aload_n (pc := 113) K 3 d_L_law_113 rfl ?_
  refine x_iload_n (pc := 114) K 0 d_L_law_114 rfl ?_
  refine x_iconst (pc := 115) K (v := nI 1) d_L_law_115 (by decide) ?_
  refine x_iadd (pc := 116) K d_L_law_116 ?_
  refine x_sld (pc := 117) K hX hbl hwb (j := i + 1) (nI_add _ _) (by omega) hL31 d_L_law_117 ?_
  refine x_aload_n (pc := 118) K 3 d_L_law_118 rfl ?_
  refine x_iload_n (pc := 119) K 0 d_L_law_119 rfl ?_
  refine x_iconst (pc := 120) K (v := nI 2) d_L_law_120 (by decide) ?_
  refine x_iadd (pc := 121) K d_L_law_121 ?_
  refine x_sld (pc := 122) K hX hbl hwb (j := i + 2) (nI_add _ _) (by omega) hL31 d_L_law_122 ?_
  refine x_aload_n (pc := 123) K 3 d_L_law_123 rfl ?_
  refine x_iload_n (pc := 124) K 0 d_L_law_124 rfl ?_
  refine x_iconst (pc := 125) K (v := nI 3) d_L_law_125 (by decide) ?_
  refine x_iadd (pc := 126) K d_L_law_126 ?_
  refine x_sld (pc := 127) K hX hbl hwb (j := i + 3) (nI_add _ _) (by omega) hL31 d_L_law_127 ?_
  refine x_aload_n (pc := 128) K 3 d_L_law_128 rfl ?_
  refine x_iload_n (pc := 129) K 0 d_L_law_129 rfl ?_
  refine x_iconst (pc := 130) K (v := nI 4) d_L_law_130 (by decide) ?_
  refine x_iadd (pc := 131) K d_L_law_131 ?_
  refine x_sld (pc := 132) K hX hbl hwb (j := i + 4) (nI_add _ _) (by omega) hL31 d_L_law_132 ?_
  refine x_aload_n (pc := 133) K 3 d_L_law_133 rfl ?_
  refine x_iload_n (pc := 134) K 0 d_L_law_134 rfl ?_
  refine x_iconst (pc := 135) K (v := nI 5) d_L_law_135 (by decide) ?_
  refine x_iadd (pc := 136) K d_L_law_136 ?_
  refine x_sld (pc := 137) K hX hbl hwb (j := i + 5) (nI_add _ _) (by omega) hL31 d_L_law_137 ?_
  refine x_callV (pc := 138) K (As := [.int (xs (i + 1)), .int (xs (i + 2)), .int (xs (i + 3)), .int (xs (i + 4)), .int (xs (i + 5))]) (rest := []) c1 (zcwV K.ts lk_L_13 im_J_type se_J_type ii_J co_J_type pd_J_type ⟨rfl, rfl⟩ ⟨by decide, by decide⟩) (zlt shJ) shJ rfl rfl rfl (Nat.le_of_ble_eq_true rfl) ⟨by decide, by decide⟩ d_L_law_138 ?_
  refine x_aload_n (pc := 141) K 1 d_L_law_141 rfl ?_
  refine x_aload_n (pc := 142) K 3 d_L_law_142 rfl ?_
  refine x_iload_n (pc := 143) K 0 d_L_law_143 rfl ?_
  refine x_iconst (pc := 144) K (v := nI 1) d_L_law_144 (by decide) ?_
  refine x_iadd (pc := 145) K d_L_law_145 ?_
  refine x_sld (pc := 146) K hX hbl hwb (j := i + 1) (nI_add _ _) (by omega) hL31 d_L_law_146 ?_
  refine x_aload_n (pc := 147) K 3 d_L_law_147 rfl ?_
  refine x_iload_n (pc := 148) K 0 d_L_law_148 rfl ?_
  refine x_iconst (pc := 149) K (v := nI 2) d_L_law_149 (by decide) ?_
  refine x_iadd (pc := 150) K d_L_law_150 ?_
  refine x_sld (pc := 151) K hX hbl hwb (j := i + 2) (nI_add _ _) (by omega) hL31 d_L_law_151 ?_
  refine x_aload_n (pc := 152) K 3 d_L_law_152 rfl ?_
  refine x_iload_n (pc := 153) K 0 d_L_law_153 rfl ?_
  refine x_iconst (pc := 154) K (v := nI 3) d_L_law_154 (by decide) ?_
  refine x_iadd (pc := 155) K d_L_law_155 ?_
  refine x_sld (pc := 156) K hX hbl hwb (j := i + 3) (nI_add _ _) (by omega) hL31 d_L_law_156 ?_
  refine x_aload_n (pc := 157) K 3 d_L_law_157 rfl ?_
  refine x_iload_n (pc := 158) K 0 d_L_law_158 rfl ?_
  refine x_iconst (pc := 159) K (v := nI 4) d_L_law_159 (by decide) ?_
  refine x_iadd (pc := 160) K d_L_law_160 ?_
  refine x_sld (pc := 161) K hX hbl hwb (j := i + 4) (nI_add _ _) (by omega) hL31 d_L_law_161 ?_
  refine x_aload_n (pc := 162) K 3 d_L_law_162 rfl ?_
  refine x_iload_n (pc := 163) K 0 d_L_law_163 rfl ?_
  refine x_iconst (pc := 164) K (v := nI 5) d_L_law_164 (by decide) ?_
  refine x_iadd (pc := 165) K d_L_law_165 ?_
  refine x_sld (pc := 166) K hX hbl hwb (j := i + 5) (nI_add _ _) (by omega) hL31 d_L_law_166 ?_
  refine x_callV (pc := 167) K (As := [.int (xs (i + 1)), .int (xs (i + 2)), .int (xs (i + 3)), .int (xs (i + 4)), .int (xs (i + 5))]) (rest := [_]) c2 (zcwV K.ts lk_L_17 im_R_type se_R_type ii_R co_R_type pd_R_type ⟨rfl, rfl⟩ ⟨by decide, by decide⟩) (zlt shR) shR rfl rfl rfl (Nat.le_of_ble_eq_true rfl) ⟨by decide, by decide⟩ d_L_law_167 ?_
  exact x_icmp_eq (pc := 170) K (tgt := 684) d_L_law_170 (by decide) (fun _ => next o B q3) (fun z => absurd q4 z)
set_option maxHeartbeats 4000000 in
set_option maxRecDepth 100000 in
theorem law_1 {p : Program} {l : Launch} {e : Env} {s : State} {m : MethodId} {below : List Frame} {meth : Method} {c : Code} {Q : State → Prop} {w : fl_W} {b L : Nat} {xs : Nat → Int32} (K : XC p s m #[Value.ref b] meth c code 4 ret (Cond.initialized "CompatibilityJudgeLaw" :: zG) "CompatibilityJudgeLaw" w) (hX : va_X b L xs s s.heap) (hbl : b < s.heap.size) (hwb : ¬ w.2.2 ≤ b) (hL31 : L < 2 ^ 31) {i o : Nat} {M : fl_M} (hi : i + 6 ≤ L) (hI : INV o M) (next : ∀ (o9 : Nat) (B9 : fl_M), INV o9 B9 → XW p l e room_1 s m #[Value.ref b] below meth c 4 295 4897 Q w zN B9 684 [(3, .int (nI i)), (2, .ref (w.2.2 + 278)), (1, .ref (w.2.2 + 0)), (0, .ref b)] []) : XW p l e room_1 s m #[Value.ref b] below meth c 4 295 4897 Q w zN M 175 [(3, .int (nI i)), (2, .ref (w.2.2 + 278)), (1, .ref (w.2.2 + 0)), (0, .ref b)] [] := by
  obtain ⟨A, hA⟩ : ∃ A : fl_M, A = (if yIm M o (xs (i + 1)) (xs (i + 2)) (xs (i + 3)) then xIm M o (xs (i + 1)) (xs (i + 2)) (xs (i + 3)) else M) := ⟨_, rfl⟩
  obtain ⟨B, hB⟩ : ∃ B : fl_M, B = (if yRI A.1 (xs (i + 1)) (xs (i + 2)) (xs (i + 3)) then xRI A (xs (i + 1)) (xs (i + 2)) (xs (i + 3)) else A) := ⟨_, rfl⟩
  obtain ⟨⟨q1, q2, q3⟩, q4⟩ := op_implement hI hA hB
  have c1 := c_J_implement l w M o hI.1.1 (fun x hx => (hI.1.2.1 x hx).1) (xs (i + 1)) (xs (i + 2)) (xs (i + 3))
  have c2 := c_R_implement l w A o q1.1 q2.rCs (xs (i + 1)) (xs (i + 2)) (xs (i + 3))
  rw [← hA] at c1
  rw [← hB] at c2
  refine x_aload_n (pc := 175) K 2 d_L_law_175 rfl ?_
  refine x_aload_n (pc := 176) K 3 d_L_law_176 rfl ?_
  refine x_iload_n (pc := 177) K 0 d_L_law_177 rfl ?_
  refine x_iconst (pc := 178) K (v := nI 1) d_L_law_178 (by decide) ?_
  refine x_iadd (pc := 179) K d_L_law_179 ?_
  refine x_sld (pc := 180) K hX hbl hwb (j := i + 1) (nI_add _ _) (by omega) hL31 d_L_law_180 ?_
  refine x_aload_n (pc := 181) K 3 d_L_law_181 rfl ?_
  refine x_iload_n (pc := 182) K 0 d_L_law_182 rfl ?_
  refine x_iconst (pc := 183) K (v := nI 2) d_L_law_183 (by decide) ?_
  refine x_iadd (pc := 184) K d_L_law_184 ?_
  refine x_sld (pc := 185) K hX hbl hwb (j := i + 2) (nI_add _ _) (by omega) hL31 d_L_law_185 ?_
  refine x_aload_n (pc := 186) K 3 d_L_law_186 rfl ?_
  refine x_iload_n (pc := 187) K 0 d_L_law_187 rfl ?_
  refine x_iconst (pc := 188) K (v := nI 3) d_L_law_188 (by decide) ?_
  refine x_iadd (pc := 189) K d_L_law_189 ?_
  refine x_sld (pc := 190) K hX hbl hwb (j := i + 3) (nI_add _ _) (by omega) hL31 d_L_law_190 ?_
  refine x_callV (pc := 191) K (As := [.int (xs (i + 1)), .int (xs (i + 2)), .int (xs (i + 3))]) (rest := []) c1 (zcwV K.ts lk_L_18 im_J_implement se_J_implement ii_J co_J_implement pd_J_implement ⟨rfl, rfl⟩ ⟨by decide, by decide⟩) (zlt shJ) shJ rfl rfl rfl (Nat.le_of_ble_eq_true rfl) ⟨by decide, by decide⟩ d_L_law_191 ?_
  refine x_aload_n (pc := 194) K 1 d_L_law_194 rfl ?_
  refine x_aload_n (pc := 195) K 3 d_L_law_195 rfl ?_
  refine x_iload_n (pc := 196) K 0 d_L_law_196 rfl ?_
  refine x_iconst (pc := 197) K (v := nI 1) d_L_law_197 (by decide) ?_
  refine x_iadd (pc := 198) K d_L_law_198 ?_
  refine x_sld (pc := 199) K hX hbl hwb (j := i + 1) (nI_add _ _) (by omega) hL31 d_L_law_199 ?_
  refine x_aload_n (pc := 200) K 3 d_L_law_200 rfl ?_
  refine x_iload_n (pc := 201) K 0 d_L_law_201 rfl ?_
  refine x_iconst (pc := 202) K (v := nI 2) d_L_law_202 (by decide) ?_
  refine x_iadd (pc := 203) K d_L_law_203 ?_
  refine x_sld (pc := 204) K hX hbl hwb (j := i + 2) (nI_add _ _) (by omega) hL31 d_L_law_204 ?_
  refine x_aload_n (pc := 205) K 3 d_L_law_205 rfl ?_
  refine x_iload_n (pc := 206) K 0 d_L_law_206 rfl ?_
  refine x_iconst (pc := 207) K (v := nI 3) d_L_law_207 (by decide) ?_
  refine x_iadd (pc := 208) K d_L_law_208 ?_
  refine x_sld (pc := 209) K hX hbl hwb (j := i + 3) (nI_add _ _) (by omega) hL31 d_L_law_209 ?_
  refine x_callV (pc := 210) K (As := [.int (xs (i + 1)), .int (xs (i + 2)), .int (xs (i + 3))]) (rest := [_]) c2 (zcwV K.ts lk_L_22 im_R_implement se_R_implement ii_R co_R_implement pd_R_implement ⟨rfl, rfl⟩ ⟨by decide, by decide⟩) (zlt shR) shR rfl rfl rfl (Nat.le_of_ble_eq_true rfl) ⟨by decide, by decide⟩ d_L_law_210 ?_
  exact x_icmp_eq (pc := 213) K (tgt := 684) d_L_law_213 (by decide) (fun _ => next o B q3) (fun z => absurd q4 z)
set_option maxHeartbeats 4000000 in
set_option maxRecDepth 100000 in
theorem law_2 {p : Program} {l : Launch} {e : Env} {s : State} {m : MethodId} {below : List Frame} {meth : Method} {c : Code} {Q : State → Prop} {w : fl_W} {b L : Nat} {xs : Nat → Int32} (K : XC p s m #[Value.ref b] meth c code 4 ret (Cond.initialized "CompatibilityJudgeLaw" :: zG) "CompatibilityJudgeLaw" w) (hX : va_X b L xs s s.heap) (hbl : b < s.heap.size) (hwb : ¬ w.2.2 ≤ b) (hL31 : L < 2 ^ 31) {i o : Nat} {M : fl_M} (hi : i + 6 ≤ L) (hI : INV o M) (next : ∀ (o9 : Nat) (B9 : fl_M), INV o9 B9 → XW p l e room_1 s m #[Value.ref b] below meth c 4 295 4897 Q w zN B9 684 [(3, .int (nI i)), (2, .ref (w.2.2 + 278)), (1, .ref (w.2.2 + 0)), (0, .ref b)] []) : XW p l e room_1 s m #[Value.ref b] below meth c 4 295 4897 Q w zN M 218 [(3, .int (nI i)), (2, .ref (w.2.2 + 278)), (1, .ref (w.2.2 + 0)), (0, .ref b)] [] := by
  obtain ⟨A, hA⟩ : ∃ A : fl_M, A = (if yMb M o (xs (i + 1)) (xs (i + 2)) (xs (i + 3)) (xs (i + 4)) (xs (i + 5)) then xMb M o (xs (i + 1)) (xs (i + 2)) (xs (i + 3)) (xs (i + 4)) (xs (i + 5)) else M) := ⟨_, rfl⟩
  obtain ⟨B, hB⟩ : ∃ B : fl_M, B = (if yRM A.1 (xs (i + 1)) (xs (i + 2)) (xs (i + 3)) (xs (i + 4)) (xs (i + 5)) then xRM A (xs (i + 1)) (xs (i + 2)) (xs (i + 3)) (xs (i + 4)) (xs (i + 5)) else A) := ⟨_, rfl⟩
  obtain ⟨⟨q1, q2, q3⟩, q4⟩ := op_member hI hA hB
  have c1 := c_J_member l w M o hI.1.1 (fun x hx => (hI.1.2.1 x hx).1) (xs (i + 1)) (xs (i + 2)) (xs (i + 3)) (xs (i + 4)) (xs (i + 5))
  have c2 := c_R_member l w A o q1.1 q2.rCs (xs (i + 1)) (xs (i + 2)) (xs (i + 3)) (xs (i + 4)) (xs (i + 5))
  rw [← hA] at c1
  rw [← hB] at c2
  refine x_aload_n (pc := 218) K 2 d_L_law_218 rfl ?_
  refine x_aload_n (pc := 219) K 3 d_L_law_219 rfl ?_
  refine x_iload_n (pc := 220) K 0 d_L_law_220 rfl ?_
  refine x_iconst (pc := 221) K (v := nI 1) d_L_law_221 (by decide) ?_
  refine x_iadd (pc := 222) K d_L_law_222 ?_
  refine x_sld (pc := 223) K hX hbl hwb (j := i + 1) (nI_add _ _) (by omega) hL31 d_L_law_223 ?_
  refine x_aload_n (pc := 224) K 3 d_L_law_224 rfl ?_
  refine x_iload_n (pc := 225) K 0 d_L_law_225 rfl ?_
  refine x_iconst (pc := 226) K (v := nI 2) d_L_law_226 (by decide) ?_
  refine x_iadd (pc := 227) K d_L_law_227 ?_
  refine x_sld (pc := 228) K hX hbl hwb (j := i + 2) (nI_add _ _) (by omega) hL31 d_L_law_228 ?_
  refine x_aload_n (pc := 229) K 3 d_L_law_229 rfl ?_
  refine x_iload_n (pc := 230) K 0 d_L_law_230 rfl ?_
  refine x_iconst (pc := 231) K (v := nI 3) d_L_law_231 (by decide) ?_
  refine x_iadd (pc := 232) K d_L_law_232 ?_
  refine x_sld (pc := 233) K hX hbl hwb (j := i + 3) (nI_add _ _) (by omega) hL31 d_L_law_233 ?_
  refine x_aload_n (pc := 234) K 3 d_L_law_234 rfl ?_
  refine x_iload_n (pc := 235) K 0 d_L_law_235 rfl ?_
  refine x_iconst (pc := 236) K (v := nI 4) d_L_law_236 (by decide) ?_
  refine x_iadd (pc := 237) K d_L_law_237 ?_
  refine x_sld (pc := 238) K hX hbl hwb (j := i + 4) (nI_add _ _) (by omega) hL31 d_L_law_238 ?_
  refine x_aload_n (pc := 239) K 3 d_L_law_239 rfl ?_
  refine x_iload_n (pc := 240) K 0 d_L_law_240 rfl ?_
  refine x_iconst (pc := 241) K (v := nI 5) d_L_law_241 (by decide) ?_
  refine x_iadd (pc := 242) K d_L_law_242 ?_
  refine x_sld (pc := 243) K hX hbl hwb (j := i + 5) (nI_add _ _) (by omega) hL31 d_L_law_243 ?_
  refine x_callV (pc := 244) K (As := [.int (xs (i + 1)), .int (xs (i + 2)), .int (xs (i + 3)), .int (xs (i + 4)), .int (xs (i + 5))]) (rest := []) c1 (zcwV K.ts lk_L_23 im_J_member se_J_member ii_J co_J_member pd_J_member ⟨rfl, rfl⟩ ⟨by decide, by decide⟩) (zlt shJ) shJ rfl rfl rfl (Nat.le_of_ble_eq_true rfl) ⟨by decide, by decide⟩ d_L_law_244 ?_
  refine x_aload_n (pc := 247) K 1 d_L_law_247 rfl ?_
  refine x_aload_n (pc := 248) K 3 d_L_law_248 rfl ?_
  refine x_iload_n (pc := 249) K 0 d_L_law_249 rfl ?_
  refine x_iconst (pc := 250) K (v := nI 1) d_L_law_250 (by decide) ?_
  refine x_iadd (pc := 251) K d_L_law_251 ?_
  refine x_sld (pc := 252) K hX hbl hwb (j := i + 1) (nI_add _ _) (by omega) hL31 d_L_law_252 ?_
  refine x_aload_n (pc := 253) K 3 d_L_law_253 rfl ?_
  refine x_iload_n (pc := 254) K 0 d_L_law_254 rfl ?_
  refine x_iconst (pc := 255) K (v := nI 2) d_L_law_255 (by decide) ?_
  refine x_iadd (pc := 256) K d_L_law_256 ?_
  refine x_sld (pc := 257) K hX hbl hwb (j := i + 2) (nI_add _ _) (by omega) hL31 d_L_law_257 ?_
  refine x_aload_n (pc := 258) K 3 d_L_law_258 rfl ?_
  refine x_iload_n (pc := 259) K 0 d_L_law_259 rfl ?_
  refine x_iconst (pc := 260) K (v := nI 3) d_L_law_260 (by decide) ?_
  refine x_iadd (pc := 261) K d_L_law_261 ?_
  refine x_sld (pc := 262) K hX hbl hwb (j := i + 3) (nI_add _ _) (by omega) hL31 d_L_law_262 ?_
  refine x_aload_n (pc := 263) K 3 d_L_law_263 rfl ?_
  refine x_iload_n (pc := 264) K 0 d_L_law_264 rfl ?_
  refine x_iconst (pc := 265) K (v := nI 4) d_L_law_265 (by decide) ?_
  refine x_iadd (pc := 266) K d_L_law_266 ?_
  refine x_sld (pc := 267) K hX hbl hwb (j := i + 4) (nI_add _ _) (by omega) hL31 d_L_law_267 ?_
  refine x_aload_n (pc := 268) K 3 d_L_law_268 rfl ?_
  refine x_iload_n (pc := 269) K 0 d_L_law_269 rfl ?_
  refine x_iconst (pc := 270) K (v := nI 5) d_L_law_270 (by decide) ?_
  refine x_iadd (pc := 271) K d_L_law_271 ?_
  refine x_sld (pc := 272) K hX hbl hwb (j := i + 5) (nI_add _ _) (by omega) hL31 d_L_law_272 ?_
  refine x_callV (pc := 273) K (As := [.int (xs (i + 1)), .int (xs (i + 2)), .int (xs (i + 3)), .int (xs (i + 4)), .int (xs (i + 5))]) (rest := [_]) c2 (zcwV K.ts lk_L_26 im_R_member se_R_member ii_R co_R_member pd_R_member ⟨rfl, rfl⟩ ⟨by decide, by decide⟩) (zlt shR) shR rfl rfl rfl (Nat.le_of_ble_eq_true rfl) ⟨by decide, by decide⟩ d_L_law_273 ?_
  exact x_icmp_eq (pc := 276) K (tgt := 684) d_L_law_276 (by decide) (fun _ => next o B q3) (fun z => absurd q4 z)
set_option maxHeartbeats 4000000 in
set_option maxRecDepth 100000 in
theorem law_3 {p : Program} {l : Launch} {e : Env} {s : State} {m : MethodId} {below : List Frame} {meth : Method} {c : Code} {Q : State → Prop} {w : fl_W} {b L : Nat} {xs : Nat → Int32} (K : XC p s m #[Value.ref b] meth c code 4 ret (Cond.initialized "CompatibilityJudgeLaw" :: zG) "CompatibilityJudgeLaw" w) (hX : va_X b L xs s s.heap) (hbl : b < s.heap.size) (hwb : ¬ w.2.2 ≤ b) (hL31 : L < 2 ^ 31) {i o : Nat} {M : fl_M} (hi : i + 6 ≤ L) (hI : INV o M) (next : ∀ (o9 : Nat) (B9 : fl_M), INV o9 B9 → XW p l e room_1 s m #[Value.ref b] below meth c 4 295 4897 Q w zN B9 684 [(3, .int (nI i)), (2, .ref (w.2.2 + 278)), (1, .ref (w.2.2 + 0)), (0, .ref b)] []) : XW p l e room_1 s m #[Value.ref b] below meth c 4 295 4897 Q w zN M 281 [(3, .int (nI i)), (2, .ref (w.2.2 + 278)), (1, .ref (w.2.2 + 0)), (0, .ref b)] [] := by
  obtain ⟨A, hA⟩ : ∃ A : fl_M, A = (if yCo M o (xs (i + 1)) (xs (i + 2)) (xs (i + 3)) then xCo M o (xs (i + 1)) (xs (i + 2)) (xs (i + 3)) (xs (i + 4)) else M) := ⟨_, rfl⟩
  obtain ⟨B, hB⟩ : ∃ B : fl_M, B = (if yRC A.1 (xs (i + 1)) (xs (i + 2)) (xs (i + 3)) then xRC A (xs (i + 1)) (xs (i + 2)) (xs (i + 3)) (xs (i + 4)) else A) := ⟨_, rfl⟩
  obtain ⟨⟨q1, q2, q3⟩, q4⟩ := op_constant hI hA hB
  have c1 := c_J_constant l w M o hI.1.1 (fun x hx => (hI.1.2.1 x hx).1) (xs (i + 1)) (xs (i + 2)) (xs (i + 3)) (xs (i + 4))
  have c2 := c_R_constant l w A o q1.1 q2.rCs (xs (i + 1)) (xs (i + 2)) (xs (i + 3)) (xs (i + 4))
  rw [← hA] at c1
  rw [← hB] at c2
  refine x_aload_n (pc := 281) K 2 d_L_law_281 rfl ?_
  refine x_aload_n (pc := 282) K 3 d_L_law_282 rfl ?_
  refine x_iload_n (pc := 283) K 0 d_L_law_283 rfl ?_
  refine x_iconst (pc := 284) K (v := nI 1) d_L_law_284 (by decide) ?_
  refine x_iadd (pc := 285) K d_L_law_285 ?_
  refine x_sld (pc := 286) K hX hbl hwb (j := i + 1) (nI_add _ _) (by omega) hL31 d_L_law_286 ?_
  refine x_aload_n (pc := 287) K 3 d_L_law_287 rfl ?_
  refine x_iload_n (pc := 288) K 0 d_L_law_288 rfl ?_
  refine x_iconst (pc := 289) K (v := nI 2) d_L_law_289 (by decide) ?_
  refine x_iadd (pc := 290) K d_L_law_290 ?_
  refine x_sld (pc := 291) K hX hbl hwb (j := i + 2) (nI_add _ _) (by omega) hL31 d_L_law_291 ?_
  refine x_aload_n (pc := 292) K 3 d_L_law_292 rfl ?_
  refine x_iload_n (pc := 293) K 0 d_L_law_293 rfl ?_
  refine x_iconst (pc := 294) K (v := nI 3) d_L_law_294 (by decide) ?_
  refine x_iadd (pc := 295) K d_L_law_295 ?_
  refine x_sld (pc := 296) K hX hbl hwb (j := i + 3) (nI_add _ _) (by omega) hL31 d_L_law_296 ?_
  refine x_aload_n (pc := 297) K 3 d_L_law_297 rfl ?_
  refine x_iload_n (pc := 298) K 0 d_L_law_298 rfl ?_
  refine x_iconst (pc := 299) K (v := nI 4) d_L_law_299 (by decide) ?_
  refine x_iadd (pc := 300) K d_L_law_300 ?_
  refine x_sld (pc := 301) K hX hbl hwb (j := i + 4) (nI_add _ _) (by omega) hL31 d_L_law_301 ?_
  refine x_callV (pc := 302) K (As := [.int (xs (i + 1)), .int (xs (i + 2)), .int (xs (i + 3)), .int (xs (i + 4))]) (rest := []) c1 (zcwV K.ts lk_L_27 im_J_constant se_J_constant ii_J co_J_constant pd_J_constant ⟨rfl, rfl⟩ ⟨by decide, by decide⟩) (zlt shJ) shJ rfl rfl rfl (Nat.le_of_ble_eq_true rfl) ⟨by decide, by decide⟩ d_L_law_302 ?_
  refine x_aload_n (pc := 305) K 1 d_L_law_305 rfl ?_
  refine x_aload_n (pc := 306) K 3 d_L_law_306 rfl ?_
  refine x_iload_n (pc := 307) K 0 d_L_law_307 rfl ?_
  refine x_iconst (pc := 308) K (v := nI 1) d_L_law_308 (by decide) ?_
  refine x_iadd (pc := 309) K d_L_law_309 ?_
  refine x_sld (pc := 310) K hX hbl hwb (j := i + 1) (nI_add _ _) (by omega) hL31 d_L_law_310 ?_
  refine x_aload_n (pc := 311) K 3 d_L_law_311 rfl ?_
  refine x_iload_n (pc := 312) K 0 d_L_law_312 rfl ?_
  refine x_iconst (pc := 313) K (v := nI 2) d_L_law_313 (by decide) ?_
  refine x_iadd (pc := 314) K d_L_law_314 ?_
  refine x_sld (pc := 315) K hX hbl hwb (j := i + 2) (nI_add _ _) (by omega) hL31 d_L_law_315 ?_
  refine x_aload_n (pc := 316) K 3 d_L_law_316 rfl ?_
  refine x_iload_n (pc := 317) K 0 d_L_law_317 rfl ?_
  refine x_iconst (pc := 318) K (v := nI 3) d_L_law_318 (by decide) ?_
  refine x_iadd (pc := 319) K d_L_law_319 ?_
  refine x_sld (pc := 320) K hX hbl hwb (j := i + 3) (nI_add _ _) (by omega) hL31 d_L_law_320 ?_
  refine x_aload_n (pc := 321) K 3 d_L_law_321 rfl ?_
  refine x_iload_n (pc := 322) K 0 d_L_law_322 rfl ?_
  refine x_iconst (pc := 323) K (v := nI 4) d_L_law_323 (by decide) ?_
  refine x_iadd (pc := 324) K d_L_law_324 ?_
  refine x_sld (pc := 325) K hX hbl hwb (j := i + 4) (nI_add _ _) (by omega) hL31 d_L_law_325 ?_
  refine x_callV (pc := 326) K (As := [.int (xs (i + 1)), .int (xs (i + 2)), .int (xs (i + 3)), .int (xs (i + 4))]) (rest := [_]) c2 (zcwV K.ts lk_L_31 im_R_constant se_R_constant ii_R co_R_constant pd_R_constant ⟨rfl, rfl⟩ ⟨by decide, by decide⟩) (zlt shR) shR rfl rfl rfl (Nat.le_of_ble_eq_true rfl) ⟨by decide, by decide⟩ d_L_law_326 ?_
  exact x_icmp_eq (pc := 329) K (tgt := 684) d_L_law_329 (by decide) (fun _ => next o B q3) (fun z => absurd q4 z)
set_option maxHeartbeats 4000000 in
set_option maxRecDepth 100000 in
theorem law_4 {p : Program} {l : Launch} {e : Env} {s : State} {m : MethodId} {below : List Frame} {meth : Method} {c : Code} {Q : State → Prop} {w : fl_W} {b L : Nat} {xs : Nat → Int32} (K : XC p s m #[Value.ref b] meth c code 4 ret (Cond.initialized "CompatibilityJudgeLaw" :: zG) "CompatibilityJudgeLaw" w) (hX : va_X b L xs s s.heap) (hbl : b < s.heap.size) (hwb : ¬ w.2.2 ≤ b) (hL31 : L < 2 ^ 31) {i o : Nat} {M : fl_M} (hi : i + 6 ≤ L) (hI : INV o M) (next : ∀ (o9 : Nat) (B9 : fl_M), INV o9 B9 → XW p l e room_1 s m #[Value.ref b] below meth c 4 295 4897 Q w zN B9 684 [(3, .int (nI i)), (2, .ref (w.2.2 + 278)), (1, .ref (w.2.2 + 0)), (0, .ref b)] []) : XW p l e room_1 s m #[Value.ref b] below meth c 4 295 4897 Q w zN M 334 [(3, .int (nI i)), (2, .ref (w.2.2 + 278)), (1, .ref (w.2.2 + 0)), (0, .ref b)] [] := by
  obtain ⟨A, hA⟩ : ∃ A : fl_M, A = (if yRm M o (xs (i + 1)) (xs (i + 2)) then xRm M o (xs (i + 1)) (xs (i + 2)) else M) := ⟨_, rfl⟩
  obtain ⟨B, hB⟩ : ∃ B : fl_M, B = (if yRR A.1 (xs (i + 1)) (xs (i + 2)) then xRR A (xs (i + 1)) (xs (i + 2)) else A) := ⟨_, rfl⟩
  obtain ⟨⟨q1, q2, q3⟩, q4⟩ := op_remove hI hA hB
  have c1 := c_J_remove l w M o hI.1.1 (fun x hx => (hI.1.2.1 x hx).1) (xs (i + 1)) (xs (i + 2))
  have c2 := c_R_remove l w A o q1.1 (xs (i + 1)) (xs (i + 2))
  rw [← hA] at c1
  rw [← hB] at c2
  refine x_aload_n (pc := 334) K 2 d_L_law_334 rfl ?_
  refine x_aload_n (pc := 335) K 3 d_L_law_335 rfl ?_
  refine x_iload_n (pc := 336) K 0 d_L_law_336 rfl ?_
  refine x_iconst (pc := 337) K (v := nI 1) d_L_law_337 (by decide) ?_
  refine x_iadd (pc := 338) K d_L_law_338 ?_
  refine x_sld (pc := 339) K hX hbl hwb (j := i + 1) (nI_add _ _) (by omega) hL31 d_L_law_339 ?_
  refine x_aload_n (pc := 340) K 3 d_L_law_340 rfl ?_
  refine x_iload_n (pc := 341) K 0 d_L_law_341 rfl ?_
  refine x_iconst (pc := 342) K (v := nI 2) d_L_law_342 (by decide) ?_
  refine x_iadd (pc := 343) K d_L_law_343 ?_
  refine x_sld (pc := 344) K hX hbl hwb (j := i + 2) (nI_add _ _) (by omega) hL31 d_L_law_344 ?_
  refine x_callV (pc := 345) K (As := [.int (xs (i + 1)), .int (xs (i + 2))]) (rest := []) c1 (zcwV K.ts lk_L_32 im_J_remove se_J_remove ii_J co_J_remove pd_J_remove ⟨rfl, rfl⟩ ⟨by decide, by decide⟩) (zlt shJ) shJ rfl rfl rfl (Nat.le_of_ble_eq_true rfl) ⟨by decide, by decide⟩ d_L_law_345 ?_
  refine x_aload_n (pc := 348) K 1 d_L_law_348 rfl ?_
  refine x_aload_n (pc := 349) K 3 d_L_law_349 rfl ?_
  refine x_iload_n (pc := 350) K 0 d_L_law_350 rfl ?_
  refine x_iconst (pc := 351) K (v := nI 1) d_L_law_351 (by decide) ?_
  refine x_iadd (pc := 352) K d_L_law_352 ?_
  refine x_sld (pc := 353) K hX hbl hwb (j := i + 1) (nI_add _ _) (by omega) hL31 d_L_law_353 ?_
  refine x_aload_n (pc := 354) K 3 d_L_law_354 rfl ?_
  refine x_iload_n (pc := 355) K 0 d_L_law_355 rfl ?_
  refine x_iconst (pc := 356) K (v := nI 2) d_L_law_356 (by decide) ?_
  refine x_iadd (pc := 357) K d_L_law_357 ?_
  refine x_sld (pc := 358) K hX hbl hwb (j := i + 2) (nI_add _ _) (by omega) hL31 d_L_law_358 ?_
  refine x_callV (pc := 359) K (As := [.int (xs (i + 1)), .int (xs (i + 2))]) (rest := [_]) c2 (zcwV K.ts lk_L_36 im_R_remove se_R_remove ii_R co_R_remove pd_R_remove ⟨rfl, rfl⟩ ⟨by decide, by decide⟩) (zlt shR) shR rfl rfl rfl (Nat.le_of_ble_eq_true rfl) ⟨by decide, by decide⟩ d_L_law_359 ?_
  exact x_icmp_eq (pc := 362) K (tgt := 684) d_L_law_362 (by decide) (fun _ => next o B q3) (fun z => absurd q4 z)
set_option maxHeartbeats 4000000 in
set_option maxRecDepth 100000 in
theorem law_5 {p : Program} {l : Launch} {e : Env} {s : State} {m : MethodId} {below : List Frame} {meth : Method} {c : Code} {Q : State → Prop} {w : fl_W} {b L : Nat} {xs : Nat → Int32} (K : XC p s m #[Value.ref b] meth c code 4 ret (Cond.initialized "CompatibilityJudgeLaw" :: zG) "CompatibilityJudgeLaw" w) (hX : va_X b L xs s s.heap) (hbl : b < s.heap.size) (hwb : ¬ w.2.2 ≤ b) (hL31 : L < 2 ^ 31) {i o : Nat} {M : fl_M} (hi : i + 6 ≤ L) (hI : INV o M) (next : ∀ (o9 : Nat) (B9 : fl_M), INV o9 B9 → XW p l e room_1 s m #[Value.ref b] below meth c 4 295 4897 Q w zN B9 684 [(3, .int (nI i)), (2, .ref (w.2.2 + 278)), (1, .ref (w.2.2 + 0)), (0, .ref b)] []) : XW p l e room_1 s m #[Value.ref b] below meth c 4 295 4897 Q w zN M 367 [(3, .int (nI i)), (2, .ref (w.2.2 + 278)), (1, .ref (w.2.2 + 0)), (0, .ref b)] [] := by
  obtain ⟨A, hA⟩ : ∃ A : fl_M, A = (if okP M.1 o (xs (i + 1)) (xs (i + 2)) (xs (i + 3)) then xDr M o (xs (i + 1)) (xs (i + 2)) (xs (i + 3)) else M) := ⟨_, rfl⟩
  obtain ⟨B, hB⟩ : ∃ B : fl_M, B = (if ¬ vCl A.1 (xs (i + 1)) (xs (i + 2)) (xs (i + 3)) < 0 then xRD A (xs (i + 1)) (xs (i + 2)) (xs (i + 3)) else A) := ⟨_, rfl⟩
  obtain ⟨⟨q1, q2, q3⟩, q4⟩ := op_drop hI hA hB
  have c1 := c_J_drop l w M o hI.1.1 (fun x hx => (hI.1.2.1 x hx).1) hI.1.2.2.1 (xs (i + 1)) (xs (i + 2)) (xs (i + 3))
  have c2 := c_R_drop l w A o q1.1 q2.rCs q2.zFx (xs (i + 1)) (xs (i + 2)) (xs (i + 3))
  rw [← hA] at c1
  rw [← hB] at c2
  refine x_aload_n (pc := 367) K 2 d_L_law_367 rfl ?_
  refine x_aload_n (pc := 368) K 3 d_L_law_368 rfl ?_
  refine x_iload_n (pc := 369) K 0 d_L_law_369 rfl ?_
  refine x_iconst (pc := 370) K (v := nI 1) d_L_law_370 (by decide) ?_
  refine x_iadd (pc := 371) K d_L_law_371 ?_
  refine x_sld (pc := 372) K hX hbl hwb (j := i + 1) (nI_add _ _) (by omega) hL31 d_L_law_372 ?_
  refine x_aload_n (pc := 373) K 3 d_L_law_373 rfl ?_
  refine x_iload_n (pc := 374) K 0 d_L_law_374 rfl ?_
  refine x_iconst (pc := 375) K (v := nI 2) d_L_law_375 (by decide) ?_
  refine x_iadd (pc := 376) K d_L_law_376 ?_
  refine x_sld (pc := 377) K hX hbl hwb (j := i + 2) (nI_add _ _) (by omega) hL31 d_L_law_377 ?_
  refine x_aload_n (pc := 378) K 3 d_L_law_378 rfl ?_
  refine x_iload_n (pc := 379) K 0 d_L_law_379 rfl ?_
  refine x_iconst (pc := 380) K (v := nI 3) d_L_law_380 (by decide) ?_
  refine x_iadd (pc := 381) K d_L_law_381 ?_
  refine x_sld (pc := 382) K hX hbl hwb (j := i + 3) (nI_add _ _) (by omega) hL31 d_L_law_382 ?_
  refine x_callV (pc := 383) K (As := [.int (xs (i + 1)), .int (xs (i + 2)), .int (xs (i + 3))]) (rest := []) c1 (zcwV K.ts lk_L_37 im_J_drop se_J_drop ii_J co_J_drop pd_J_drop ⟨rfl, rfl⟩ ⟨by decide, by decide⟩) (zlt shJ) shJ rfl rfl rfl (Nat.le_of_ble_eq_true rfl) ⟨by decide, by decide⟩ d_L_law_383 ?_
  refine x_aload_n (pc := 386) K 1 d_L_law_386 rfl ?_
  refine x_aload_n (pc := 387) K 3 d_L_law_387 rfl ?_
  refine x_iload_n (pc := 388) K 0 d_L_law_388 rfl ?_
  refine x_iconst (pc := 389) K (v := nI 1) d_L_law_389 (by decide) ?_
  refine x_iadd (pc := 390) K d_L_law_390 ?_
  refine x_sld (pc := 391) K hX hbl hwb (j := i + 1) (nI_add _ _) (by omega) hL31 d_L_law_391 ?_
  refine x_aload_n (pc := 392) K 3 d_L_law_392 rfl ?_
  refine x_iload_n (pc := 393) K 0 d_L_law_393 rfl ?_
  refine x_iconst (pc := 394) K (v := nI 2) d_L_law_394 (by decide) ?_
  refine x_iadd (pc := 395) K d_L_law_395 ?_
  refine x_sld (pc := 396) K hX hbl hwb (j := i + 2) (nI_add _ _) (by omega) hL31 d_L_law_396 ?_
  refine x_aload_n (pc := 397) K 3 d_L_law_397 rfl ?_
  refine x_iload_n (pc := 398) K 0 d_L_law_398 rfl ?_
  refine x_iconst (pc := 399) K (v := nI 3) d_L_law_399 (by decide) ?_
  refine x_iadd (pc := 400) K d_L_law_400 ?_
  refine x_sld (pc := 401) K hX hbl hwb (j := i + 3) (nI_add _ _) (by omega) hL31 d_L_law_401 ?_
  refine x_callV (pc := 402) K (As := [.int (xs (i + 1)), .int (xs (i + 2)), .int (xs (i + 3))]) (rest := [_]) c2 (zcwV K.ts lk_L_40 im_R_drop se_R_drop ii_R co_R_drop pd_R_drop ⟨rfl, rfl⟩ ⟨by decide, by decide⟩) (zlt shR) shR rfl rfl rfl (Nat.le_of_ble_eq_true rfl) ⟨by decide, by decide⟩ d_L_law_402 ?_
  exact x_icmp_eq (pc := 405) K (tgt := 684) d_L_law_405 (by decide) (fun _ => next o B q3) (fun z => absurd q4 z)
set_option maxHeartbeats 4000000 in
set_option maxRecDepth 100000 in
theorem law_6 {p : Program} {l : Launch} {e : Env} {s : State} {m : MethodId} {below : List Frame} {meth : Method} {c : Code} {Q : State → Prop} {w : fl_W} {b L : Nat} {xs : Nat → Int32} (K : XC p s m #[Value.ref b] meth c code 4 ret (Cond.initialized "CompatibilityJudgeLaw" :: zG) "CompatibilityJudgeLaw" w) (hX : va_X b L xs s s.heap) (hbl : b < s.heap.size) (hwb : ¬ w.2.2 ≤ b) (hL31 : L < 2 ^ 31) {i o : Nat} {M : fl_M} (hi : i + 6 ≤ L) (hI : INV o M) (next : ∀ (o9 : Nat) (B9 : fl_M), INV o9 B9 → XW p l e room_1 s m #[Value.ref b] below meth c 4 295 4897 Q w zN B9 684 [(3, .int (nI i)), (2, .ref (w.2.2 + 278)), (1, .ref (w.2.2 + 0)), (0, .ref b)] []) : XW p l e room_1 s m #[Value.ref b] below meth c 4 295 4897 Q w zN M 410 [(3, .int (nI i)), (2, .ref (w.2.2 + 278)), (1, .ref (w.2.2 + 0)), (0, .ref b)] [] := by
  obtain ⟨A, hA⟩ : ∃ A : fl_M, A = (xCp M o) := ⟨_, rfl⟩
  obtain ⟨B, hB⟩ : ∃ B : fl_M, B = (cpl A 0 12) := ⟨_, rfl⟩
  obtain ⟨⟨q1, q2, q3⟩, q4⟩ := op_copy hI hA hB
  have c1 := c_J_copy l w M o hI.1.1 (fun x hx => (hI.1.2.1 x hx).1) hI.1.2.2.1
  have c2 := c_R_copy l w A o q1.1 q2.zDf q2.zFx
  rw [← hA] at c1
  rw [← hB] at c2
  refine x_aload_n (pc := 410) K 2 d_L_law_410 rfl ?_
  refine x_callV (pc := 411) K (As := []) (rest := []) c1 (zcwV K.ts lk_L_41 im_J_copy se_J_copy ii_J co_J_copy pd_J_copy ⟨rfl, rfl⟩ ⟨by decide, by decide⟩) (zlt shJ) shJ rfl rfl rfl (Nat.le_of_ble_eq_true rfl) ⟨by decide, by decide⟩ d_L_law_411 ?_
  refine x_aload_n (pc := 414) K 1 d_L_law_414 rfl ?_
  refine x_callV (pc := 415) K (As := []) (rest := [_]) c2 (zcwV K.ts lk_L_45 im_R_copy se_R_copy ii_R co_R_copy pd_R_copy ⟨rfl, rfl⟩ ⟨by decide, by decide⟩) (zlt shR) shR rfl rfl rfl (Nat.le_of_ble_eq_true rfl) ⟨by decide, by decide⟩ d_L_law_415 ?_
  exact x_icmp_eq (pc := 418) K (tgt := 684) d_L_law_418 (by decide) (fun _ => next o B q3) (fun z => absurd q4 z)
set_option maxHeartbeats 4000000 in
set_option maxRecDepth 100000 in
theorem law_7 {p : Program} {l : Launch} {e : Env} {s : State} {m : MethodId} {below : List Frame} {meth : Method} {c : Code} {Q : State → Prop} {w : fl_W} {b L : Nat} {xs : Nat → Int32} (K : XC p s m #[Value.ref b] meth c code 4 ret (Cond.initialized "CompatibilityJudgeLaw" :: zG) "CompatibilityJudgeLaw" w) (hX : va_X b L xs s s.heap) (hbl : b < s.heap.size) (hwb : ¬ w.2.2 ≤ b) (hL31 : L < 2 ^ 31) {i o : Nat} {M : fl_M} (hi : i + 6 ≤ L) (hI : INV o M) (next : ∀ (o9 : Nat) (B9 : fl_M), INV o9 B9 → XW p l e room_1 s m #[Value.ref b] below meth c 4 295 4897 Q w zN B9 684 [(3, .int (nI i)), (2, .ref (w.2.2 + 278)), (1, .ref (w.2.2 + 0)), (0, .ref b)] []) : XW p l e room_1 s m #[Value.ref b] below meth c 4 295 4897 Q w zN M 423 [(3, .int (nI i)), (2, .ref (w.2.2 + 278)), (1, .ref (w.2.2 + 0)), (0, .ref b)] [] := by
  obtain ⟨A, hA⟩ : ∃ A : fl_M, A = (xSw M o) := ⟨_, rfl⟩
  obtain ⟨B, hB⟩ : ∃ B : fl_M, B = (xSW A) := ⟨_, rfl⟩
  obtain ⟨q1, q2, q3⟩ := op_swap hI hA hB
  have c1 := c_J_swap l w M o hI.1.1
  have c2 := c_R_swap l w A (139 - o) q1.1 q2.zDf q2.zFx
  rw [← hA] at c1
  rw [← hB] at c2
  refine x_aload_n (pc := 423) K 2 d_L_law_423 rfl ?_
  refine x_callVv (pc := 424) K (As := []) (rest := []) c1 (zcwV K.ts lk_L_46 im_J_swap se_J_swap ii_J co_J_swap pd_J_swap ⟨rfl, rfl⟩ ⟨by decide, by decide⟩) (zlt shJ) shJ rfl rfl rfl (Nat.le_of_ble_eq_true rfl) ⟨by decide, by decide⟩ d_L_law_424 ?_
  refine x_aload_n (pc := 427) K 1 d_L_law_427 rfl ?_
  refine x_callVv (pc := 428) K (As := []) (rest := []) c2 (zcwV K.ts lk_L_49 im_R_swap se_R_swap ii_R co_R_swap pd_R_swap ⟨rfl, rfl⟩ ⟨by decide, by decide⟩) (zlt shR) shR rfl rfl rfl (Nat.le_of_ble_eq_true rfl) ⟨by decide, by decide⟩ d_L_law_428 ?_
  exact x_goto (pc := 431) K (tgt := 684) d_L_law_431 (by decide) (next (139 - o) B q3)
set_option maxHeartbeats 4000000 in
set_option maxRecDepth 100000 in
theorem law_8 {p : Program} {l : Launch} {e : Env} {s : State} {m : MethodId} {below : List Frame} {meth : Method} {c : Code} {Q : State → Prop} {w : fl_W} {b L : Nat} {xs : Nat → Int32} (K : XC p s m #[Value.ref b] meth c code 4 ret (Cond.initialized "CompatibilityJudgeLaw" :: zG) "CompatibilityJudgeLaw" w) (hX : va_X b L xs s s.heap) (hbl : b < s.heap.size) (hwb : ¬ w.2.2 ≤ b) (hL31 : L < 2 ^ 31) {i o : Nat} {M : fl_M} (hi : i + 6 ≤ L) (hI : INV o M) (next : ∀ (o9 : Nat) (B9 : fl_M), INV o9 B9 → XW p l e room_1 s m #[Value.ref b] below meth c 4 295 4897 Q w zN B9 684 [(3, .int (nI i)), (2, .ref (w.2.2 + 278)), (1, .ref (w.2.2 + 0)), (0, .ref b)] []) : XW p l e room_1 s m #[Value.ref b] below meth c 4 295 4897 Q w zN M 434 [(3, .int (nI i)), (2, .ref (w.2.2 + 278)), (1, .ref (w.2.2 + 0)), (0, .ref b)] [] := by
  by_cases hz : xs (i + 3) = 0
  · have hz9 : isZ 0 := Or.inl rfl
    obtain ⟨A, hA⟩ : ∃ A : fl_M, A = (if ySu M (xs (i + 1)) (xs (i + 2)) 0 then xSu M (xs (i + 1)) (xs (i + 2)) else M) := ⟨_, rfl⟩
    obtain ⟨B, hB⟩ : ∃ B : fl_M, B = (if bdS (xs (i + 1)) (xs (i + 2)) then A else xRS A (xs (i + 1)) (xs (i + 2)) 0) := ⟨_, rfl⟩
    obtain ⟨⟨q1, q2, q3⟩, q4⟩ := op_suppress hI hz9 hA hB
    have c1 := c_J_suppress l w M o hI.1.1 (xs (i + 1)) (xs (i + 2)) 0
    have c2 := c_R_suppress l w A o q1.1 (xs (i + 1)) (xs (i + 2)) 0 hz9
    rw [← hA] at c1
    rw [← hB] at c2
    refine x_aload_n (pc := 434) K 2 d_L_law_434 rfl ?_
    refine x_aload_n (pc := 435) K 3 d_L_law_435 rfl ?_
    refine x_iload_n (pc := 436) K 0 d_L_law_436 rfl ?_
    refine x_iconst (pc := 437) K (v := nI 1) d_L_law_437 (by decide) ?_
    refine x_iadd (pc := 438) K d_L_law_438 ?_
    refine x_sld (pc := 439) K hX hbl hwb (j := i + 1) (nI_add _ _) (by omega) hL31 d_L_law_439 ?_
    refine x_aload_n (pc := 440) K 3 d_L_law_440 rfl ?_
    refine x_iload_n (pc := 441) K 0 d_L_law_441 rfl ?_
    refine x_iconst (pc := 442) K (v := nI 2) d_L_law_442 (by decide) ?_
    refine x_iadd (pc := 443) K d_L_law_443 ?_
    refine x_sld (pc := 444) K hX hbl hwb (j := i + 2) (nI_add _ _) (by omega) hL31 d_L_law_444 ?_
    refine x_aload_n (pc := 445) K 3 d_L_law_445 rfl ?_
    refine x_iload_n (pc := 446) K 0 d_L_law_446 rfl ?_
    refine x_iconst (pc := 447) K (v := nI 3) d_L_law_447 (by decide) ?_
    refine x_iadd (pc := 448) K d_L_law_448 ?_
    refine x_sld (pc := 449) K hX hbl hwb (j := i + 3) (nI_add _ _) (by omega) hL31 d_L_law_449 ?_
    refine x_if_eq (pc := 450) K (tgt := 457) d_L_law_450 (by decide) (fun _ => ?_) (fun z => absurd hz z)
    refine x_iconst (pc := 457) K (v := 0) d_L_law_457 (by decide) ?_
    refine x_callV (pc := 458) K (As := [.int (xs (i + 1)), .int (xs (i + 2)), .int 0]) (rest := []) c1 (zcwV K.ts lk_L_50 im_J_suppress se_J_suppress ii_J co_J_suppress pd_J_suppress ⟨rfl, rfl⟩ ⟨by decide, by decide⟩) (zlt shJ) shJ rfl rfl rfl (Nat.le_of_ble_eq_true rfl) ⟨by decide, by decide⟩ d_L_law_458 ?_
    refine x_aload_n (pc := 461) K 1 d_L_law_461 rfl ?_
    refine x_aload_n (pc := 462) K 3 d_L_law_462 rfl ?_
    refine x_iload_n (pc := 463) K 0 d_L_law_463 rfl ?_
    refine x_iconst (pc := 464) K (v := nI 1) d_L_law_464 (by decide) ?_
    refine x_iadd (pc := 465) K d_L_law_465 ?_
    refine x_sld (pc := 466) K hX hbl hwb (j := i + 1) (nI_add _ _) (by omega) hL31 d_L_law_466 ?_
    refine x_aload_n (pc := 467) K 3 d_L_law_467 rfl ?_
    refine x_iload_n (pc := 468) K 0 d_L_law_468 rfl ?_
    refine x_iconst (pc := 469) K (v := nI 2) d_L_law_469 (by decide) ?_
    refine x_iadd (pc := 470) K d_L_law_470 ?_
    refine x_sld (pc := 471) K hX hbl hwb (j := i + 2) (nI_add _ _) (by omega) hL31 d_L_law_471 ?_
    refine x_aload_n (pc := 472) K 3 d_L_law_472 rfl ?_
    refine x_iload_n (pc := 473) K 0 d_L_law_473 rfl ?_
    refine x_iconst (pc := 474) K (v := nI 3) d_L_law_474 (by decide) ?_
    refine x_iadd (pc := 475) K d_L_law_475 ?_
    refine x_sld (pc := 476) K hX hbl hwb (j := i + 3) (nI_add _ _) (by omega) hL31 d_L_law_476 ?_
    refine x_if_eq (pc := 477) K (tgt := 484) d_L_law_477 (by decide) (fun _ => ?_) (fun z => absurd hz z)
    refine x_iconst (pc := 484) K (v := 0) d_L_law_484 (by decide) ?_
    refine x_callV (pc := 485) K (As := [.int (xs (i + 1)), .int (xs (i + 2)), .int 0]) (rest := [_]) c2 (zcwV K.ts lk_L_54 im_R_suppress se_R_suppress ii_R co_R_suppress pd_R_suppress ⟨rfl, rfl⟩ ⟨by decide, by decide⟩) (zlt shR) shR rfl rfl rfl (Nat.le_of_ble_eq_true rfl) ⟨by decide, by decide⟩ d_L_law_485 ?_
    exact x_icmp_eq (pc := 488) K (tgt := 684) d_L_law_488 (by decide) (fun _ => next o B q3) (fun z => absurd q4 z)
  · have hz9 : isZ 1 := Or.inr rfl
    obtain ⟨A, hA⟩ : ∃ A : fl_M, A = (if ySu M (xs (i + 1)) (xs (i + 2)) 1 then xSu M (xs (i + 1)) (xs (i + 2)) else M) := ⟨_, rfl⟩
    obtain ⟨B, hB⟩ : ∃ B : fl_M, B = (if bdS (xs (i + 1)) (xs (i + 2)) then A else xRS A (xs (i + 1)) (xs (i + 2)) 1) := ⟨_, rfl⟩
    obtain ⟨⟨q1, q2, q3⟩, q4⟩ := op_suppress hI hz9 hA hB
    have c1 := c_J_suppress l w M o hI.1.1 (xs (i + 1)) (xs (i + 2)) 1
    have c2 := c_R_suppress l w A o q1.1 (xs (i + 1)) (xs (i + 2)) 1 hz9
    rw [← hA] at c1
    rw [← hB] at c2
    refine x_aload_n (pc := 434) K 2 d_L_law_434 rfl ?_
    refine x_aload_n (pc := 435) K 3 d_L_law_435 rfl ?_
    refine x_iload_n (pc := 436) K 0 d_L_law_436 rfl ?_
    refine x_iconst (pc := 437) K (v := nI 1) d_L_law_437 (by decide) ?_
    refine x_iadd (pc := 438) K d_L_law_438 ?_
    refine x_sld (pc := 439) K hX hbl hwb (j := i + 1) (nI_add _ _) (by omega) hL31 d_L_law_439 ?_
    refine x_aload_n (pc := 440) K 3 d_L_law_440 rfl ?_
    refine x_iload_n (pc := 441) K 0 d_L_law_441 rfl ?_
    refine x_iconst (pc := 442) K (v := nI 2) d_L_law_442 (by decide) ?_
    refine x_iadd (pc := 443) K d_L_law_443 ?_
    refine x_sld (pc := 444) K hX hbl hwb (j := i + 2) (nI_add _ _) (by omega) hL31 d_L_law_444 ?_
    refine x_aload_n (pc := 445) K 3 d_L_law_445 rfl ?_
    refine x_iload_n (pc := 446) K 0 d_L_law_446 rfl ?_
    refine x_iconst (pc := 447) K (v := nI 3) d_L_law_447 (by decide) ?_
    refine x_iadd (pc := 448) K d_L_law_448 ?_
    refine x_sld (pc := 449) K hX hbl hwb (j := i + 3) (nI_add _ _) (by omega) hL31 d_L_law_449 ?_
    refine x_if_eq (pc := 450) K (tgt := 457) d_L_law_450 (by decide) (fun z => absurd z hz) (fun _ => ?_)
    refine x_iconst (pc := 453) K (v := 1) d_L_law_453 (by decide) ?_
    refine x_goto (pc := 454) K (tgt := 458) d_L_law_454 (by decide) ?_
    refine x_callV (pc := 458) K (As := [.int (xs (i + 1)), .int (xs (i + 2)), .int 1]) (rest := []) c1 (zcwV K.ts lk_L_50 im_J_suppress se_J_suppress ii_J co_J_suppress pd_J_suppress ⟨rfl, rfl⟩ ⟨by decide, by decide⟩) (zlt shJ) shJ rfl rfl rfl (Nat.le_of_ble_eq_true rfl) ⟨by decide, by decide⟩ d_L_law_458 ?_
    refine x_aload_n (pc := 461) K 1 d_L_law_461 rfl ?_
    refine x_aload_n (pc := 462) K 3 d_L_law_462 rfl ?_
    refine x_iload_n (pc := 463) K 0 d_L_law_463 rfl ?_
    refine x_iconst (pc := 464) K (v := nI 1) d_L_law_464 (by decide) ?_
    refine x_iadd (pc := 465) K d_L_law_465 ?_
    refine x_sld (pc := 466) K hX hbl hwb (j := i + 1) (nI_add _ _) (by omega) hL31 d_L_law_466 ?_
    refine x_aload_n (pc := 467) K 3 d_L_law_467 rfl ?_
    refine x_iload_n (pc := 468) K 0 d_L_law_468 rfl ?_
    refine x_iconst (pc := 469) K (v := nI 2) d_L_law_469 (by decide) ?_
    refine x_iadd (pc := 470) K d_L_law_470 ?_
    refine x_sld (pc := 471) K hX hbl hwb (j := i + 2) (nI_add _ _) (by omega) hL31 d_L_law_471 ?_
    refine x_aload_n (pc := 472) K 3 d_L_law_472 rfl ?_
    refine x_iload_n (pc := 473) K 0 d_L_law_473 rfl ?_
    refine x_iconst (pc := 474) K (v := nI 3) d_L_law_474 (by decide) ?_
    refine x_iadd (pc := 475) K d_L_law_475 ?_
    refine x_sld (pc := 476) K hX hbl hwb (j := i + 3) (nI_add _ _) (by omega) hL31 d_L_law_476 ?_
    refine x_if_eq (pc := 477) K (tgt := 484) d_L_law_477 (by decide) (fun z => absurd z hz) (fun _ => ?_)
    refine x_iconst (pc := 480) K (v := 1) d_L_law_480 (by decide) ?_
    refine x_goto (pc := 481) K (tgt := 485) d_L_law_481 (by decide) ?_
    refine x_callV (pc := 485) K (As := [.int (xs (i + 1)), .int (xs (i + 2)), .int 1]) (rest := [_]) c2 (zcwV K.ts lk_L_54 im_R_suppress se_R_suppress ii_R co_R_suppress pd_R_suppress ⟨rfl, rfl⟩ ⟨by decide, by decide⟩) (zlt shR) shR rfl rfl rfl (Nat.le_of_ble_eq_true rfl) ⟨by decide, by decide⟩ d_L_law_485 ?_
    exact x_icmp_eq (pc := 488) K (tgt := 684) d_L_law_488 (by decide) (fun _ => next o B q3) (fun z => absurd q4 z)
set_option maxHeartbeats 4000000 in
set_option maxRecDepth 100000 in
theorem law_9 {p : Program} {l : Launch} {e : Env} {s : State} {m : MethodId} {below : List Frame} {meth : Method} {c : Code} {Q : State → Prop} {w : fl_W} {b L : Nat} {xs : Nat → Int32} (K : XC p s m #[Value.ref b] meth c code 4 ret (Cond.initialized "CompatibilityJudgeLaw" :: zG) "CompatibilityJudgeLaw" w) (hX : va_X b L xs s s.heap) (hbl : b < s.heap.size) (hwb : ¬ w.2.2 ≤ b) (hL31 : L < 2 ^ 31) {i o : Nat} {M : fl_M} (hi : i + 6 ≤ L) (hI : INV o M) (next : ∀ (o9 : Nat) (B9 : fl_M), INV o9 B9 → XW p l e room_1 s m #[Value.ref b] below meth c 4 295 4897 Q w zN B9 684 [(3, .int (nI i)), (2, .ref (w.2.2 + 278)), (1, .ref (w.2.2 + 0)), (0, .ref b)] []) : XW p l e room_1 s m #[Value.ref b] below meth c 4 295 4897 Q w zN M 493 [(3, .int (nI i)), (2, .ref (w.2.2 + 278)), (1, .ref (w.2.2 + 0)), (0, .ref b)] [] := by
  have q4 := op_supertypes (b := (xs (i + 1))) (t := (xs (i + 2))) hI
  have c1 := c_J_supertypes l w M o hI.1.1 (xs (i + 1)) (xs (i + 2))
  have c2 := c_R_supertypes l w M o hI.1.1 hI.2.2.1.rCs (xs (i + 1)) (xs (i + 2))
  refine x_aload_n (pc := 493) K 2 d_L_law_493 rfl ?_
  refine x_aload_n (pc := 494) K 3 d_L_law_494 rfl ?_
  refine x_iload_n (pc := 495) K 0 d_L_law_495 rfl ?_
  refine x_iconst (pc := 496) K (v := nI 1) d_L_law_496 (by decide) ?_
  refine x_iadd (pc := 497) K d_L_law_497 ?_
  refine x_sld (pc := 498) K hX hbl hwb (j := i + 1) (nI_add _ _) (by omega) hL31 d_L_law_498 ?_
  refine x_aload_n (pc := 499) K 3 d_L_law_499 rfl ?_
  refine x_iload_n (pc := 500) K 0 d_L_law_500 rfl ?_
  refine x_iconst (pc := 501) K (v := nI 2) d_L_law_501 (by decide) ?_
  refine x_iadd (pc := 502) K d_L_law_502 ?_
  refine x_sld (pc := 503) K hX hbl hwb (j := i + 2) (nI_add _ _) (by omega) hL31 d_L_law_503 ?_
  refine x_callV (pc := 504) K (As := [.int (xs (i + 1)), .int (xs (i + 2))]) (rest := []) c1 (zcwV K.ts lk_L_55 im_J_supertypes se_J_supertypes ii_J co_J_supertypes pd_J_supertypes ⟨rfl, rfl⟩ ⟨by decide, by decide⟩) (zlt shJ) shJ rfl rfl rfl (Nat.le_of_ble_eq_true rfl) ⟨by decide, by decide⟩ d_L_law_504 ?_
  refine x_aload_n (pc := 507) K 1 d_L_law_507 rfl ?_
  refine x_aload_n (pc := 508) K 3 d_L_law_508 rfl ?_
  refine x_iload_n (pc := 509) K 0 d_L_law_509 rfl ?_
  refine x_iconst (pc := 510) K (v := nI 1) d_L_law_510 (by decide) ?_
  refine x_iadd (pc := 511) K d_L_law_511 ?_
  refine x_sld (pc := 512) K hX hbl hwb (j := i + 1) (nI_add _ _) (by omega) hL31 d_L_law_512 ?_
  refine x_aload_n (pc := 513) K 3 d_L_law_513 rfl ?_
  refine x_iload_n (pc := 514) K 0 d_L_law_514 rfl ?_
  refine x_iconst (pc := 515) K (v := nI 2) d_L_law_515 (by decide) ?_
  refine x_iadd (pc := 516) K d_L_law_516 ?_
  refine x_sld (pc := 517) K hX hbl hwb (j := i + 2) (nI_add _ _) (by omega) hL31 d_L_law_517 ?_
  refine x_callV (pc := 518) K (As := [.int (xs (i + 1)), .int (xs (i + 2))]) (rest := [_]) c2 (zcwV K.ts lk_L_58 im_R_supertypes se_R_supertypes ii_R co_R_supertypes pd_R_supertypes ⟨rfl, rfl⟩ ⟨by decide, by decide⟩) (zlt shR) shR rfl rfl rfl (Nat.le_of_ble_eq_true rfl) ⟨by decide, by decide⟩ d_L_law_518 ?_
  exact x_icmp_eq (pc := 521) K (tgt := 684) d_L_law_521 (by decide) (fun _ => next o M hI) (fun z => absurd q4 z)
set_option maxHeartbeats 4000000 in
set_option maxRecDepth 100000 in
theorem law_10 {p : Program} {l : Launch} {e : Env} {s : State} {m : MethodId} {below : List Frame} {meth : Method} {c : Code} {Q : State → Prop} {w : fl_W} {b L : Nat} {xs : Nat → Int32} (K : XC p s m #[Value.ref b] meth c code 4 ret (Cond.initialized "CompatibilityJudgeLaw" :: zG) "CompatibilityJudgeLaw" w) (hX : va_X b L xs s s.heap) (hbl : b < s.heap.size) (hwb : ¬ w.2.2 ≤ b) (hL31 : L < 2 ^ 31) {i o : Nat} {M : fl_M} (hi : i + 6 ≤ L) (hI : INV o M) (next : ∀ (o9 : Nat) (B9 : fl_M), INV o9 B9 → XW p l e room_1 s m #[Value.ref b] below meth c 4 295 4897 Q w zN B9 684 [(3, .int (nI i)), (2, .ref (w.2.2 + 278)), (1, .ref (w.2.2 + 0)), (0, .ref b)] []) : XW p l e room_1 s m #[Value.ref b] below meth c 4 295 4897 Q w zN M 526 [(3, .int (nI i)), (2, .ref (w.2.2 + 278)), (1, .ref (w.2.2 + 0)), (0, .ref b)] [] := by
  obtain ⟨A, hA⟩ : ∃ A : fl_M, A = (if (okT (xs (i + 1)) (xs (i + 2)) ∧ okK (xs (i + 3)) (xs (i + 4))) then whM M (zb o (ix (xs (i + 1)))) (ix (xs (i + 2))) (xs (i + 3)) (xs (i + 4)) else M) := ⟨_, rfl⟩
  obtain ⟨B, hB⟩ : ∃ B : fl_M, B = (if badT (xs (i + 1)) (xs (i + 2)) ∨ bdK (xs (i + 3)) (xs (i + 4)) then A else mFd A (ix (xs (i + 1))) (ix (xs (i + 2))) (xs (i + 3)) (xs (i + 4))) := ⟨_, rfl⟩
  obtain ⟨⟨q1, q2, q3⟩, q4⟩ := op_look hI hA hB
  have c1 := c_J_look l w M o hI.1.1 (fun x hx => (hI.1.2.1 x hx).1) (xs (i + 1)) (xs (i + 2)) (xs (i + 3)) (xs (i + 4))
  have c2 := c_R_look l w A o q1.1 q2.rCs (fun b hb => q2.rP hb) (xs (i + 1)) (xs (i + 2)) (xs (i + 3)) (xs (i + 4))
  rw [← hA] at c1
  rw [← hB] at c2
  refine x_aload_n (pc := 526) K 2 d_L_law_526 rfl ?_
  refine x_aload_n (pc := 527) K 3 d_L_law_527 rfl ?_
  refine x_iload_n (pc := 528) K 0 d_L_law_528 rfl ?_
  refine x_iconst (pc := 529) K (v := nI 1) d_L_law_529 (by decide) ?_
  refine x_iadd (pc := 530) K d_L_law_530 ?_
  refine x_sld (pc := 531) K hX hbl hwb (j := i + 1) (nI_add _ _) (by omega) hL31 d_L_law_531 ?_
  refine x_aload_n (pc := 532) K 3 d_L_law_532 rfl ?_
  refine x_iload_n (pc := 533) K 0 d_L_law_533 rfl ?_
  refine x_iconst (pc := 534) K (v := nI 2) d_L_law_534 (by decide) ?_
  refine x_iadd (pc := 535) K d_L_law_535 ?_
  refine x_sld (pc := 536) K hX hbl hwb (j := i + 2) (nI_add _ _) (by omega) hL31 d_L_law_536 ?_
  refine x_aload_n (pc := 537) K 3 d_L_law_537 rfl ?_
  refine x_iload_n (pc := 538) K 0 d_L_law_538 rfl ?_
  refine x_iconst (pc := 539) K (v := nI 3) d_L_law_539 (by decide) ?_
  refine x_iadd (pc := 540) K d_L_law_540 ?_
  refine x_sld (pc := 541) K hX hbl hwb (j := i + 3) (nI_add _ _) (by omega) hL31 d_L_law_541 ?_
  refine x_aload_n (pc := 542) K 3 d_L_law_542 rfl ?_
  refine x_iload_n (pc := 543) K 0 d_L_law_543 rfl ?_
  refine x_iconst (pc := 544) K (v := nI 4) d_L_law_544 (by decide) ?_
  refine x_iadd (pc := 545) K d_L_law_545 ?_
  refine x_sld (pc := 546) K hX hbl hwb (j := i + 4) (nI_add _ _) (by omega) hL31 d_L_law_546 ?_
  refine x_callV (pc := 547) K (As := [.int (xs (i + 1)), .int (xs (i + 2)), .int (xs (i + 3)), .int (xs (i + 4))]) (rest := []) c1 (zcwV K.ts lk_L_59 im_J_look se_J_look ii_J co_J_look pd_J_look ⟨rfl, rfl⟩ ⟨by decide, by decide⟩) (zlt shJ) shJ rfl rfl rfl (Nat.le_of_ble_eq_true rfl) ⟨by decide, by decide⟩ d_L_law_547 ?_
  refine x_aload_n (pc := 550) K 1 d_L_law_550 rfl ?_
  refine x_aload_n (pc := 551) K 3 d_L_law_551 rfl ?_
  refine x_iload_n (pc := 552) K 0 d_L_law_552 rfl ?_
  refine x_iconst (pc := 553) K (v := nI 1) d_L_law_553 (by decide) ?_
  refine x_iadd (pc := 554) K d_L_law_554 ?_
  refine x_sld (pc := 555) K hX hbl hwb (j := i + 1) (nI_add _ _) (by omega) hL31 d_L_law_555 ?_
  refine x_aload_n (pc := 556) K 3 d_L_law_556 rfl ?_
  refine x_iload_n (pc := 557) K 0 d_L_law_557 rfl ?_
  refine x_iconst (pc := 558) K (v := nI 2) d_L_law_558 (by decide) ?_
  refine x_iadd (pc := 559) K d_L_law_559 ?_
  refine x_sld (pc := 560) K hX hbl hwb (j := i + 2) (nI_add _ _) (by omega) hL31 d_L_law_560 ?_
  refine x_aload_n (pc := 561) K 3 d_L_law_561 rfl ?_
  refine x_iload_n (pc := 562) K 0 d_L_law_562 rfl ?_
  refine x_iconst (pc := 563) K (v := nI 3) d_L_law_563 (by decide) ?_
  refine x_iadd (pc := 564) K d_L_law_564 ?_
  refine x_sld (pc := 565) K hX hbl hwb (j := i + 3) (nI_add _ _) (by omega) hL31 d_L_law_565 ?_
  refine x_aload_n (pc := 566) K 3 d_L_law_566 rfl ?_
  refine x_iload_n (pc := 567) K 0 d_L_law_567 rfl ?_
  refine x_iconst (pc := 568) K (v := nI 4) d_L_law_568 (by decide) ?_
  refine x_iadd (pc := 569) K d_L_law_569 ?_
  refine x_sld (pc := 570) K hX hbl hwb (j := i + 4) (nI_add _ _) (by omega) hL31 d_L_law_570 ?_
  refine x_callV (pc := 571) K (As := [.int (xs (i + 1)), .int (xs (i + 2)), .int (xs (i + 3)), .int (xs (i + 4))]) (rest := [_]) c2 (zcwV K.ts lk_L_62 im_R_look se_R_look ii_R co_R_look pd_R_look ⟨rfl, rfl⟩ ⟨by decide, by decide⟩) (zlt shR) shR rfl rfl rfl (Nat.le_of_ble_eq_true rfl) ⟨by decide, by decide⟩ d_L_law_571 ?_
  exact x_icmp_eq (pc := 574) K (tgt := 684) d_L_law_574 (by decide) (fun _ => next o B q3) (fun z => absurd q4 z)
set_option maxHeartbeats 4000000 in
set_option maxRecDepth 100000 in
theorem law_11 {p : Program} {l : Launch} {e : Env} {s : State} {m : MethodId} {below : List Frame} {meth : Method} {c : Code} {Q : State → Prop} {w : fl_W} {b L : Nat} {xs : Nat → Int32} (K : XC p s m #[Value.ref b] meth c code 4 ret (Cond.initialized "CompatibilityJudgeLaw" :: zG) "CompatibilityJudgeLaw" w) (hX : va_X b L xs s s.heap) (hbl : b < s.heap.size) (hwb : ¬ w.2.2 ≤ b) (hL31 : L < 2 ^ 31) {i o : Nat} {M : fl_M} (hi : i + 6 ≤ L) (hI : INV o M) (next : ∀ (o9 : Nat) (B9 : fl_M), INV o9 B9 → XW p l e room_1 s m #[Value.ref b] below meth c 4 295 4897 Q w zN B9 684 [(3, .int (nI i)), (2, .ref (w.2.2 + 278)), (1, .ref (w.2.2 + 0)), (0, .ref b)] []) : XW p l e room_1 s m #[Value.ref b] below meth c 4 295 4897 Q w zN M 579 [(3, .int (nI i)), (2, .ref (w.2.2 + 278)), (1, .ref (w.2.2 + 0)), (0, .ref b)] [] := by
  obtain ⟨A, hA⟩ : ∃ A : fl_M, A = (but M (zb o 0) (zb o 1)) := ⟨_, rfl⟩
  obtain ⟨B, hB⟩ : ∃ B : fl_M, B = (xAl A (-1)) := ⟨_, rfl⟩
  obtain ⟨⟨q1, q2, q3⟩, q4⟩ := op_findings hI hA hB
  have c1 := c_J_findings l w M o ⟨hI.1.1, fun x hx => (hI.1.2.1 x hx).1, hI.1.2.2.2.1, hI.1.2.2.2.2⟩
  have c2 := c_R_findings l w A o ⟨q1.1, q2.rCs, fun b hb => q2.rP hb⟩
  rw [← hA] at c1
  rw [← hB] at c2
  refine x_aload_n (pc := 579) K 2 d_L_law_579 rfl ?_
  refine x_callV (pc := 580) K (As := []) (rest := []) c1 (zcwV K.ts lk_L_63 im_J_findings se_J_findings ii_J co_J_findings pd_J_findings ⟨rfl, rfl⟩ ⟨by decide, by decide⟩) (zlt shJ) shJ rfl rfl rfl (Nat.le_of_ble_eq_true rfl) ⟨by decide, by decide⟩ d_L_law_580 ?_
  refine x_aload_n (pc := 583) K 1 d_L_law_583 rfl ?_
  refine x_callV (pc := 584) K (As := []) (rest := [_]) c2 (zcwV K.ts lk_L_66 im_R_findings se_R_findings ii_R co_R_findings pd_R_findings ⟨rfl, rfl⟩ ⟨by decide, by decide⟩) (zlt shR) shR rfl rfl rfl (Nat.le_of_ble_eq_true rfl) ⟨by decide, by decide⟩ d_L_law_584 ?_
  exact x_icmp_eq (pc := 587) K (tgt := 684) d_L_law_587 (by decide) (fun _ => next o B q3) (fun z => absurd q4 z)
set_option maxHeartbeats 4000000 in
set_option maxRecDepth 100000 in
theorem law_12 {p : Program} {l : Launch} {e : Env} {s : State} {m : MethodId} {below : List Frame} {meth : Method} {c : Code} {Q : State → Prop} {w : fl_W} {b L : Nat} {xs : Nat → Int32} (K : XC p s m #[Value.ref b] meth c code 4 ret (Cond.initialized "CompatibilityJudgeLaw" :: zG) "CompatibilityJudgeLaw" w) (hX : va_X b L xs s s.heap) (hbl : b < s.heap.size) (hwb : ¬ w.2.2 ≤ b) (hL31 : L < 2 ^ 31) {i o : Nat} {M : fl_M} (hi : i + 6 ≤ L) (hI : INV o M) (next : ∀ (o9 : Nat) (B9 : fl_M), INV o9 B9 → XW p l e room_1 s m #[Value.ref b] below meth c 4 295 4897 Q w zN B9 684 [(3, .int (nI i)), (2, .ref (w.2.2 + 278)), (1, .ref (w.2.2 + 0)), (0, .ref b)] []) : XW p l e room_1 s m #[Value.ref b] below meth c 4 295 4897 Q w zN M 592 [(3, .int (nI i)), (2, .ref (w.2.2 + 278)), (1, .ref (w.2.2 + 0)), (0, .ref b)] [] := by
  obtain ⟨A, hA⟩ : ∃ A : fl_M, A = (but M (zb o 0) (zb o 1)) := ⟨_, rfl⟩
  obtain ⟨B, hB⟩ : ∃ B : fl_M, B = (xAl A (xs (i + 1))) := ⟨_, rfl⟩
  obtain ⟨⟨q1, q2, q3⟩, q4⟩ := op_finding (x := (xs (i + 2))) hI hA hB
  have c1 := c_J_finding l w M o ⟨hI.1.1, fun x hx => (hI.1.2.1 x hx).1, hI.1.2.2.2.1, hI.1.2.2.2.2⟩ (xs (i + 1)) (xs (i + 2))
  have c2 := c_R_finding l w A o ⟨q1.1, q2.rCs, fun b hb => q2.rP hb⟩ (xs (i + 1)) (xs (i + 2)) (find_in hI hA)
  rw [← hA] at c1
  rw [← hB] at c2
  refine x_aload_n (pc := 592) K 2 d_L_law_592 rfl ?_
  refine x_aload_n (pc := 593) K 3 d_L_law_593 rfl ?_
  refine x_iload_n (pc := 594) K 0 d_L_law_594 rfl ?_
  refine x_iconst (pc := 595) K (v := nI 1) d_L_law_595 (by decide) ?_
  refine x_iadd (pc := 596) K d_L_law_596 ?_
  refine x_sld (pc := 597) K hX hbl hwb (j := i + 1) (nI_add _ _) (by omega) hL31 d_L_law_597 ?_
  refine x_aload_n (pc := 598) K 3 d_L_law_598 rfl ?_
  refine x_iload_n (pc := 599) K 0 d_L_law_599 rfl ?_
  refine x_iconst (pc := 600) K (v := nI 2) d_L_law_600 (by decide) ?_
  refine x_iadd (pc := 601) K d_L_law_601 ?_
  refine x_sld (pc := 602) K hX hbl hwb (j := i + 2) (nI_add _ _) (by omega) hL31 d_L_law_602 ?_
  refine x_callV (pc := 603) K (As := [.int (xs (i + 1)), .int (xs (i + 2))]) (rest := []) c1 (zcwV K.ts lk_L_67 im_J_finding se_J_finding ii_J co_J_finding pd_J_finding ⟨rfl, rfl⟩ ⟨by decide, by decide⟩) (zlt shJ) shJ rfl rfl rfl (Nat.le_of_ble_eq_true rfl) ⟨by decide, by decide⟩ d_L_law_603 ?_
  refine x_aload_n (pc := 606) K 1 d_L_law_606 rfl ?_
  refine x_aload_n (pc := 607) K 3 d_L_law_607 rfl ?_
  refine x_iload_n (pc := 608) K 0 d_L_law_608 rfl ?_
  refine x_iconst (pc := 609) K (v := nI 1) d_L_law_609 (by decide) ?_
  refine x_iadd (pc := 610) K d_L_law_610 ?_
  refine x_sld (pc := 611) K hX hbl hwb (j := i + 1) (nI_add _ _) (by omega) hL31 d_L_law_611 ?_
  refine x_aload_n (pc := 612) K 3 d_L_law_612 rfl ?_
  refine x_iload_n (pc := 613) K 0 d_L_law_613 rfl ?_
  refine x_iconst (pc := 614) K (v := nI 2) d_L_law_614 (by decide) ?_
  refine x_iadd (pc := 615) K d_L_law_615 ?_
  refine x_sld (pc := 616) K hX hbl hwb (j := i + 2) (nI_add _ _) (by omega) hL31 d_L_law_616 ?_
  refine x_callV (pc := 617) K (As := [.int (xs (i + 1)), .int (xs (i + 2))]) (rest := [_]) c2 (zcwV K.ts lk_L_70 im_R_finding se_R_finding ii_R co_R_finding pd_R_finding ⟨rfl, rfl⟩ ⟨by decide, by decide⟩) (zlt shR) shR rfl rfl rfl (Nat.le_of_ble_eq_true rfl) ⟨by decide, by decide⟩ d_L_law_617 ?_
  exact x_icmp_eq (pc := 620) K (tgt := 684) d_L_law_620 (by decide) (fun _ => next o B q3) (fun z => absurd q4 z)
set_option maxHeartbeats 4000000 in
set_option maxRecDepth 100000 in
theorem law_13 {p : Program} {l : Launch} {e : Env} {s : State} {m : MethodId} {below : List Frame} {meth : Method} {c : Code} {Q : State → Prop} {w : fl_W} {b L : Nat} {xs : Nat → Int32} (K : XC p s m #[Value.ref b] meth c code 4 ret (Cond.initialized "CompatibilityJudgeLaw" :: zG) "CompatibilityJudgeLaw" w) (hX : va_X b L xs s s.heap) (hbl : b < s.heap.size) (hwb : ¬ w.2.2 ≤ b) (hL31 : L < 2 ^ 31) {i o : Nat} {M : fl_M} (hi : i + 6 ≤ L) (hI : INV o M) (next : ∀ (o9 : Nat) (B9 : fl_M), INV o9 B9 → XW p l e room_1 s m #[Value.ref b] below meth c 4 295 4897 Q w zN B9 684 [(3, .int (nI i)), (2, .ref (w.2.2 + 278)), (1, .ref (w.2.2 + 0)), (0, .ref b)] []) : XW p l e room_1 s m #[Value.ref b] below meth c 4 295 4897 Q w zN M 625 [(3, .int (nI i)), (2, .ref (w.2.2 + 278)), (1, .ref (w.2.2 + 0)), (0, .ref b)] [] := by
  obtain ⟨A, hA⟩ : ∃ A : fl_M, A = (but M (zb o 0) (zb o 1)) := ⟨_, rfl⟩
  obtain ⟨B, hB⟩ : ∃ B : fl_M, B = (xAl A (-1)) := ⟨_, rfl⟩
  obtain ⟨⟨q1, q2, q3⟩, q4⟩ := op_verdict hI hA hB
  have c1 := c_J_verdict l w M o ⟨hI.1.1, fun x hx => (hI.1.2.1 x hx).1, hI.1.2.2.2.1, hI.1.2.2.2.2⟩
  have c2 := c_R_verdict l w A o ⟨q1.1, q2.rCs, fun b hb => q2.rP hb⟩
  rw [← hA] at c1
  rw [← hB] at c2
  refine x_aload_n (pc := 625) K 2 d_L_law_625 rfl ?_
  refine x_callV (pc := 626) K (As := []) (rest := []) c1 (zcwV K.ts lk_L_71 im_J_verdict se_J_verdict ii_J co_J_verdict pd_J_verdict ⟨rfl, rfl⟩ ⟨by decide, by decide⟩) (zlt shJ) shJ rfl rfl rfl (Nat.le_of_ble_eq_true rfl) ⟨by decide, by decide⟩ d_L_law_626 ?_
  refine x_aload_n (pc := 629) K 1 d_L_law_629 rfl ?_
  refine x_callV (pc := 630) K (As := []) (rest := [_]) c2 (zcwV K.ts lk_L_74 im_R_verdict se_R_verdict ii_R co_R_verdict pd_R_verdict ⟨rfl, rfl⟩ ⟨by decide, by decide⟩) (zlt shR) shR rfl rfl rfl (Nat.le_of_ble_eq_true rfl) ⟨by decide, by decide⟩ d_L_law_630 ?_
  exact x_icmp_eq (pc := 633) K (tgt := 684) d_L_law_633 (by decide) (fun _ => next o B q3) (fun z => absurd q4 z)
set_option maxHeartbeats 4000000 in
set_option maxRecDepth 100000 in
theorem law_14 {p : Program} {l : Launch} {e : Env} {s : State} {m : MethodId} {below : List Frame} {meth : Method} {c : Code} {Q : State → Prop} {w : fl_W} {b L : Nat} {xs : Nat → Int32} (K : XC p s m #[Value.ref b] meth c code 4 ret (Cond.initialized "CompatibilityJudgeLaw" :: zG) "CompatibilityJudgeLaw" w) (hX : va_X b L xs s s.heap) (hbl : b < s.heap.size) (hwb : ¬ w.2.2 ≤ b) (hL31 : L < 2 ^ 31) {i o : Nat} {M : fl_M} (hi : i + 6 ≤ L) (hI : INV o M) (next : ∀ (o9 : Nat) (B9 : fl_M), INV o9 B9 → XW p l e room_1 s m #[Value.ref b] below meth c 4 295 4897 Q w zN B9 684 [(3, .int (nI i)), (2, .ref (w.2.2 + 278)), (1, .ref (w.2.2 + 0)), (0, .ref b)] []) : XW p l e room_1 s m #[Value.ref b] below meth c 4 295 4897 Q w zN M 638 [(3, .int (nI i)), (2, .ref (w.2.2 + 278)), (1, .ref (w.2.2 + 0)), (0, .ref b)] [] := by
  obtain ⟨A, hA⟩ : ∃ A : fl_M, A = (if ¬ (xs (i + 1)) < 0 ∧ ¬ (14 : Int32) ≤ (xs (i + 1)) then but M (zb o 0) (zb o 1) else M) := ⟨_, rfl⟩
  obtain ⟨B, hB⟩ : ∃ B : fl_M, B = (if (xs (i + 1)) < 0 ∨ (13 : Int32) < (xs (i + 1)) then A else xAl A (-1)) := ⟨_, rfl⟩
  obtain ⟨⟨q1, q2, q3⟩, q4⟩ := op_byRule hI hA hB
  have c1 := c_J_byRule l w M o ⟨hI.1.1, fun x hx => (hI.1.2.1 x hx).1, hI.1.2.2.2.1, hI.1.2.2.2.2⟩ (xs (i + 1))
  have c2 := c_R_byRule l w A o ⟨q1.1, q2.rCs, fun b hb => q2.rP hb⟩ (xs (i + 1))
  rw [← hA] at c1
  rw [← hB] at c2
  refine x_aload_n (pc := 638) K 2 d_L_law_638 rfl ?_
  refine x_aload_n (pc := 639) K 3 d_L_law_639 rfl ?_
  refine x_iload_n (pc := 640) K 0 d_L_law_640 rfl ?_
  refine x_iconst (pc := 641) K (v := nI 1) d_L_law_641 (by decide) ?_
  refine x_iadd (pc := 642) K d_L_law_642 ?_
  refine x_sld (pc := 643) K hX hbl hwb (j := i + 1) (nI_add _ _) (by omega) hL31 d_L_law_643 ?_
  refine x_callV (pc := 644) K (As := [.int (xs (i + 1))]) (rest := []) c1 (zcwV K.ts lk_L_75 im_J_byRule se_J_byRule ii_J co_J_byRule pd_J_byRule ⟨rfl, rfl⟩ ⟨by decide, by decide⟩) (zlt shJ) shJ rfl rfl rfl (Nat.le_of_ble_eq_true rfl) ⟨by decide, by decide⟩ d_L_law_644 ?_
  refine x_aload_n (pc := 647) K 1 d_L_law_647 rfl ?_
  refine x_aload_n (pc := 648) K 3 d_L_law_648 rfl ?_
  refine x_iload_n (pc := 649) K 0 d_L_law_649 rfl ?_
  refine x_iconst (pc := 650) K (v := nI 1) d_L_law_650 (by decide) ?_
  refine x_iadd (pc := 651) K d_L_law_651 ?_
  refine x_sld (pc := 652) K hX hbl hwb (j := i + 1) (nI_add _ _) (by omega) hL31 d_L_law_652 ?_
  refine x_callV (pc := 653) K (As := [.int (xs (i + 1))]) (rest := [_]) c2 (zcwV K.ts lk_L_79 im_R_byRule se_R_byRule ii_R co_R_byRule pd_R_byRule ⟨rfl, rfl⟩ ⟨by decide, by decide⟩) (zlt shR) shR rfl rfl rfl (Nat.le_of_ble_eq_true rfl) ⟨by decide, by decide⟩ d_L_law_653 ?_
  exact x_icmp_eq (pc := 656) K (tgt := 684) d_L_law_656 (by decide) (fun _ => next o B q3) (fun z => absurd q4 z)
set_option maxHeartbeats 4000000 in
set_option maxRecDepth 100000 in
theorem law_15 {p : Program} {l : Launch} {e : Env} {s : State} {m : MethodId} {below : List Frame} {meth : Method} {c : Code} {Q : State → Prop} {w : fl_W} {b L : Nat} {xs : Nat → Int32} (K : XC p s m #[Value.ref b] meth c code 4 ret (Cond.initialized "CompatibilityJudgeLaw" :: zG) "CompatibilityJudgeLaw" w) (hX : va_X b L xs s s.heap) (hbl : b < s.heap.size) (hwb : ¬ w.2.2 ≤ b) (hL31 : L < 2 ^ 31) {i o : Nat} {M : fl_M} (hi : i + 6 ≤ L) (hI : INV o M) (next : ∀ (o9 : Nat) (B9 : fl_M), INV o9 B9 → XW p l e room_1 s m #[Value.ref b] below meth c 4 295 4897 Q w zN B9 684 [(3, .int (nI i)), (2, .ref (w.2.2 + 278)), (1, .ref (w.2.2 + 0)), (0, .ref b)] []) : XW p l e room_1 s m #[Value.ref b] below meth c 4 295 4897 Q w zN M 661 [(3, .int (nI i)), (2, .ref (w.2.2 + 278)), (1, .ref (w.2.2 + 0)), (0, .ref b)] [] := by
  have q4 := op_count (x := (xs (i + 1))) hI
  have c1 := c_J_count l w M o hI.1.1 (xs (i + 1))
  have c2 := c_R_count l w M o hI.1.1 (xs (i + 1))
  refine x_aload_n (pc := 661) K 2 d_L_law_661 rfl ?_
  refine x_aload_n (pc := 662) K 3 d_L_law_662 rfl ?_
  refine x_iload_n (pc := 663) K 0 d_L_law_663 rfl ?_
  refine x_iconst (pc := 664) K (v := nI 1) d_L_law_664 (by decide) ?_
  refine x_iadd (pc := 665) K d_L_law_665 ?_
  refine x_sld (pc := 666) K hX hbl hwb (j := i + 1) (nI_add _ _) (by omega) hL31 d_L_law_666 ?_
  refine x_callV (pc := 667) K (As := [.int (xs (i + 1))]) (rest := []) c1 (zcwV K.ts lk_L_80 im_J_count se_J_count ii_J co_J_count pd_J_count ⟨rfl, rfl⟩ ⟨by decide, by decide⟩) (zlt shJ) shJ rfl rfl rfl (Nat.le_of_ble_eq_true rfl) ⟨by decide, by decide⟩ d_L_law_667 ?_
  refine x_aload_n (pc := 670) K 1 d_L_law_670 rfl ?_
  refine x_aload_n (pc := 671) K 3 d_L_law_671 rfl ?_
  refine x_iload_n (pc := 672) K 0 d_L_law_672 rfl ?_
  refine x_iconst (pc := 673) K (v := nI 1) d_L_law_673 (by decide) ?_
  refine x_iadd (pc := 674) K d_L_law_674 ?_
  refine x_sld (pc := 675) K hX hbl hwb (j := i + 1) (nI_add _ _) (by omega) hL31 d_L_law_675 ?_
  refine x_callV (pc := 676) K (As := [.int (xs (i + 1))]) (rest := [_]) c2 (zcwV K.ts lk_L_83 im_R_count se_R_count ii_R co_R_count pd_R_count ⟨rfl, rfl⟩ ⟨by decide, by decide⟩) (zlt shR) shR rfl rfl rfl (Nat.le_of_ble_eq_true rfl) ⟨by decide, by decide⟩ d_L_law_676 ?_
  exact x_icmp_eq (pc := 679) K (tgt := 684) d_L_law_679 (by decide) (fun _ => next o M hI) (fun z => absurd q4 z)
