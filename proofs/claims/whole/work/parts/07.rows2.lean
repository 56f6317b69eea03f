section XR2
variable {p : Program} {l : Launch} {e : Env} {R : Room} {s : State} {m : MethodId} {args : Array Value} {below : List Frame} {meth : Method} {c : Code} {nL cells slots : Nat} {Q : State → Prop} {cc : ByteArray} {ret : Option FieldType} {Ts : List Cond} {own : String} {w : fl_W} {N : Nat} {M M' : fl_M} {pc : Nat} {lv lv' : List (Nat × Value)} {st : List Value}
theorem rdI_ne {M : fl_M} {n k a b : Nat} {v : Int32} (h : a ≠ n ∨ b ≠ k) : (wI M n k v).1 a b = M.1 a b := if_neg (fun q => h.elim (fun z => z q.1) (fun z => z q.2))
theorem rdI_eq {M : fl_M} {n k : Nat} {v : Int32} : (wI M n k v).1 n k = v := fl_u_self
/-- a whole row of ints anew -/
def wA (M : fl_M) (n : Nat) (f : Nat → Int32) : fl_M := (fun a b => if a = n then f b else M.1 a b, M.2)
theorem rdA_ne {M : fl_M} {n a b : Nat} {f : Nat → Int32} (h : a ≠ n) : (wA M n f).1 a b = M.1 a b := if_neg h
theorem rdA_eq {M : fl_M} {n b : Nat} {f : Nat → Int32} : (wA M n f).1 n b = f b := if_pos rfl
theorem x_copyi (K : XC p s m args meth c cc nL ret Ts own w) {n0 n1 t len index : Nat} {q0 q1 q2 : Int32} (e0 : q0 = 0) (e1 : q1 = 0) (e2 : q2 = nI len) (hlk : Cond.methodLink own index arraycopyName ∈ Ts) (hnat : Cond.native arraycopyName ∈ Ts) (hst : Cond.static arraycopyName ∈ Ts) (hini : Cond.initialized "java/lang/System" ∈ Ts) (hn0 : n0 < N) (hsh0 : zSh n0 = .inr (t, len, false)) (hn1 : n1 < N) (hsh1 : zSh n1 = .inr (t, len, false)) (ht : (zTy w)[t]? = some (w.2.1 t, .int)) (hlen : len < 2 ^ 31) (hfr : 1 ≤ R.frames) (hlo : (st.map fun v => v.category).sum + (nativeFrameWords "java/lang/System" "arraycopy" 5 + 11) ≤ R.locals) (hd : decode cc pc = .ok (.invokestatic index, 3)) (kk : XW p l e R s m args below meth c nL cells slots Q w N (wA M n1 (va_cpy (M.1 n0) (M.1 n1) 0 0 len)) (pc + 3) lv (st)) : XW p l e R s m args below meth c nL cells slots Q w N M (pc) lv (.int q2 :: .int q1 :: .ref (w.2.2 + n1) :: .int q0 :: .ref (w.2.2 + n0) :: st) := by
  intro H locs ls hP hS hl
  subst e0; subst e1; subst e2
  have he0 := fl_ws_get (sh := zSh) (w := w) (M := M) hn0
  have hE0 : fl_c w (zSh n0) (M.1 n0) (M.2 n0) = .inl (w.2.1 t, len, .inl (M.1 n0)) := by rw [hsh0]; rfl
  rw [hE0] at he0
  have he1 := fl_ws_get (sh := zSh) (w := w) (M := M) hn1
  have hE1 : fl_c w (zSh n1) (M.1 n1) (M.2 n1) = .inl (w.2.1 t, len, .inl (M.1 n1)) := by rw [hsh1]; rfl
  rw [hE1] at he1
  have z0 : (0 : Int32).toNatClampNeg = 0 := by decide
  have zl : (nI len).toNatClampNeg = len := nI_clamp hlen
  have hset : (fl_ws zSh w N M).set n1 (w.2.2 + n1, .inl (w.2.1 t, len, .inl (va_cpy (M.1 n0) (M.1 n1) 0 0 len))) = fl_ws zSh w N (wA M n1 (va_cpy (M.1 n0) (M.1 n1) 0 0 len)) := by
    refine fl_ws_set (fun a ha => ⟨by funext b; exact rdA_ne ha, rfl⟩) ?_
    rw [hsh1]
    show Sum.inl (_, _, Sum.inl _) = Sum.inl (_, _, Sum.inl _)
    have e9 : va_cpy (M.1 n0) (M.1 n1) 0 0 len = (wA M n1 (va_cpy (M.1 n0) (M.1 n1) 0 0 len)).1 n1 := by funext b; exact rdA_eq.symm
    rw [← e9]
  refine va_copyi (ty := .int) K.x K.b (by rw [K.ml]; exact hl.1.symm) K.o (K.ts _ hlk) (K.ts _ hnat) (K.ts _ hst) (K.ts _ hini) K.K hP fl_ws_D hS n0 n1 t t he0 he1 ht ht rfl (by decide) (by decide) (nI_pos hlen) (by rw [z0, zl]; omega) (by rw [z0, zl]; omega) (fun i _ => rfl) hfr hlo hd (fun H1 locs1 hP1 _ hS1 => ?_)
  rw [z0, zl, hset] at hP1
  exact kk H1 locs1 ls hP1 hS1 hl
/-- Math.max -/
theorem x_max (K : XC p s m args meth c cc nL ret Ts own w) {x y : Int32} {index : Nat} (hlk : Cond.methodLink own index Lib.Math.max.name ∈ Ts) (hst : Cond.static Lib.Math.max.name ∈ Ts) (hini : Cond.initialized "java/lang/Math" ∈ Ts) (hco : Cond.code Lib.Math.max.name Lib.Math.max.code 2 (some .int) ∈ Ts) (hfr : 1 ≤ R.frames) (hlo : (st.map fun v => v.category).sum + 13 ≤ R.locals) (hcs : cells ≤ R.cells ∧ slots ≤ R.slots) (hd : decode cc pc = .ok (.invokestatic index, 3)) (kk : XW p l e R s m args below meth c nL cells slots Q w N M (pc + 3) lv (.int (if x < y then y else x) :: st)) : XW p l e R s m args below meth c nL cells slots Q w N M (pc) lv (.int y :: .int x :: st) := fun H locs ls hP hS hl =>
  va_mmax K.x K.b (by rw [K.ml]; exact hl.1.symm) K.o (K.ts _ hlk) (K.ts _ hst) (K.ts _ hini) (K.ts _ hco) hfr hlo hcs.1 hcs.2 hd (kk H locs ls hP hS hl)
end XR2
