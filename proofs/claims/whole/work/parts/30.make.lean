/-! ROWS THAT MAKE CELLS: the next name is N; the heap's size is known exactly by the count of new cells -/
section XMK
variable {p : Program} {l : Launch} {e : Env} {R : Room} {s : State} {m : MethodId} {args : Array Value} {below : List Frame} {meth : Method} {c : Code} {nL cells slots : Nat} {Q : State → Prop} {cc : ByteArray} {ret : Option FieldType} {Ts : List Cond} {own : String} {w : fl_W} {N : Nat} {M M' : fl_M} {pc : Nat} {lv lv' : List (Nat × Value)} {st : List Value}
theorem W.sz {H : Heap} {locs : List Loc} {g : JFrame} (k : H.size ≤ s.heap.size + cells → W p l e R s m args below meth c H locs cells slots Q g) : W p l e R s m args below meth c H locs cells slots Q g := fun T hT X => k (by have h := X.same.2.2.1; rw [← hT]; exact h) T hT X
theorem fl_sz {H : Heap} {locs : List Loc} (hP : va_P w.1 zCl (fl_ws zSh w N M) H) (hS : va_S (fun q : Nat => w.2.2 ≤ q) s.heap H locs) (hlo : 0 < N ∨ w.2.2 ≤ s.heap.size) : w.2.2 + N ≤ H.size := by
  rcases Nat.eq_zero_or_pos N with q | q
  · have := hS.1
    rcases hlo with z | z <;> omega
  · have h := (hP (N - 1) _ (fl_ws_get (by omega))).lt
    dsimp only at h
    omega
theorem fl_ws_succ : fl_ws zSh w (N + 1) M = fl_ws zSh w N M ++ [(w.2.2 + N, fl_c w (zSh N) (M.1 N) (M.2 N))] := by
  simp [fl_ws, List.range_succ]
theorem x_new (K : XC p s m args meth c cc nL ret Ts own w) {ci index Nf : Nat} {bs : List Bool} {C : String} {T : u_T} (ty : Nat → FieldType) (hty : ∀ k, k < Nf → parseFieldDescriptor (T k).2.2.1 = some (ty k)) (hs : s.heap.size + cells = w.2.2 + N) (hlo : 0 < N ∨ w.2.2 ≤ s.heap.size) (hsh : zSh N = .inl (ci, bs)) (h1 : M.1 N = fun _ => 0) (h2 : M.2 N = fun _ => none) (hc : zCl[ci]? = some (C, T, Nf)) (hin : ∀ t ∈ u_ws C T Nf, t ∈ Ts) (hcl : Cond.classLink own index C ∈ Ts) (hinst : Cond.instantiable C Nf ∈ Ts) (hini : Cond.initialized C ∈ Ts) (hfs : ∀ j, j < Nf → defaultValue (ty j) = vp_V (fl_fs w.2.2 (fun _ => 0) (fun _ => none) 0 bs) j) (hcells : cells + 1 ≤ R.cells) (hslots : slots + Nf ≤ R.slots) (hd : decode cc pc = .ok (.new index, 3)) (kk : XW p l e R s m args below meth c nL (cells + 1) (slots + Nf) Q w (N + 1) M (pc + 3) lv (.ref (w.2.2 + N) :: st)) : XW p l e R s m args below meth c nL cells slots Q w N M (pc) lv (st) := by
  intro H locs ls hP hS hl
  refine W.sz (fun hle => ?_)
  have hlw := fl_sz hP hS hlo
  have hsz : H.size = w.2.2 + N := by omega
  have hKn := K.K.1 ci _ hc
  refine W.newcK K.x K.b K.o (K.ts _ hcl) (K.ts _ hinst) (K.ts _ hini) rfl hd hcells hslots hKn.2.1 hsz fun H1 kC hkC e1 z1 o1 => ?_
  refine kk H1 locs ls ?_ ⟨Nat.le_trans hS.1 (by omega), fun q q1 q2 => (o1 q (by have := hS.1; omega)).trans (hS.2.1 q q1 q2), hS.2.2⟩ hl
  rw [fl_ws_succ]
  refine va_P.app (hP.kept (fun k x hx => o1 x.1 (by have := (hP k x hx).lt; omega))) (fun k x hx => ?_)
  have hz : k < 1 := (List.getElem?_eq_some_iff.mp hx).1
  rw [show k = 0 by omega] at hx
  cases hx
  rw [hsh, h1, h2]
  exact ⟨_, hc, (u_born ty K.ts hin hKn hkC e1 hty).to hfs⟩
theorem x_newi (K : XC p s m args meth c cc nL ret Ts own w) {t n9 : Nat} {atype : ArrayType} {ty : FieldType} (hs : s.heap.size + cells = w.2.2 + N) (hlo : 0 < N ∨ w.2.2 ≤ s.heap.size) (hsh : zSh N = .inr (t, n9, false)) (h1 : M.1 N = fun _ => 0) (hta : newarray.typeOf atype = ty) (hdef : defaultValue ty = .int 0) (ht : (zTy w)[t]? = some (w.2.1 t, ty)) (hRA : ∀ U cA, va_RA U cA ty → U.vm.findClass ("[" ++ ty.toString) = some cA) (harr : Cond.arrayClass ty ∈ Ts) {n : Int32} (hn : n = nI n9) (hn31 : n9 < 2 ^ 31) (hbytes : n9 * componentBytes ty ≤ 536870912) (hcells : cells + 1 ≤ R.cells) (hslots : slots + n9 ≤ R.slots) (hd : decode cc pc = .ok (.newarray atype, 2)) (kk : XW p l e R s m args below meth c nL (cells + 1) (slots + n9) Q w (N + 1) M (pc + 2) lv (.ref (w.2.2 + N) :: st)) : XW p l e R s m args below meth c nL cells slots Q w N M (pc) lv (.int n :: st) := by
  intro H locs ls hP hS hl
  subst hn; subst hta
  refine W.sz (fun hle => ?_)
  have hlw := fl_sz hP hS hlo
  have hsz : H.size = w.2.2 + N := by omega
  refine va_newaK K.x K.b (K.ts _ harr) rfl hd rfl (nI_pos hn31) (nI_clamp hn31) hbytes hcells hslots hsz fun H1 cA e1 z1 o1 hAr hNm => ?_
  have hcA : cA = w.2.1 t := Option.some.inj (hNm.symm.trans (hRA _ _ (K.K.2 t _ ht).2))
  subst hcA
  refine kk H1 locs ls ?_ ⟨Nat.le_trans hS.1 (by omega), fun q q1 q2 => (o1 q (by have := hS.1; omega)).trans (hS.2.1 q q1 q2), hS.2.2⟩ hl
  rw [fl_ws_succ]
  refine va_P.app (hP.kept (fun k x hx => o1 x.1 (by have := (hP k x hx).lt; omega))) (fun k x hx => ?_)
  have hz : k < 1 := (List.getElem?_eq_some_iff.mp hx).1
  rw [show k = 0 by omega] at hx
  cases hx
  rw [hsh, h1]
  show H1[w.2.2 + N]? = some (vp_cell _ _)
  rw [vp_cell_i, e1, hdef]
theorem x_anew (K : XC p s m args meth c cc nL ret Ts own w) {t n9 index : Nat} {C : String} (hs : s.heap.size + cells = w.2.2 + N) (hlo : 0 < N ∨ w.2.2 ≤ s.heap.size) (hsh : zSh N = .inr (t, n9, true)) (h2 : M.2 N = fun _ => none) (ht : (zTy w)[t]? = some (w.2.1 t, .object C)) (hcl : Cond.classLink own index C ∈ Ts) (hover : va_AO C s) {n : Int32} (hn : n = nI n9) (hn31 : n9 < 2 ^ 31) (hbytes : n9 * 4 ≤ 536870912) (hcells : cells + 1 ≤ R.cells) (hslots : slots + n9 ≤ R.slots) (hd : decode cc pc = .ok (.anewarray index, 3)) (kk : XW p l e R s m args below meth c nL (cells + 1) (slots + n9) Q w (N + 1) M (pc + 3) lv (.ref (w.2.2 + N) :: st)) : XW p l e R s m args below meth c nL cells slots Q w N M (pc) lv (.int n :: st) := by
  intro H locs ls hP hS hl
  subst hn
  refine W.sz (fun hle => ?_)
  have hlw := fl_sz hP hS hlo
  have hsz : H.size = w.2.2 + N := by omega
  have hcl9 := nI_clamp hn31
  refine W.anew K.x K.b K.o (K.ts _ hcl) (va_AO.use hover) rfl hd rfl (nI_pos hn31) (by rw [hcl9]; exact hbytes) hcells (by rw [hcl9]; exact hslots) fun cA kA comp f1 f2 f3 f4 => ?_
  obtain ⟨kA', comp', g1, g2, g3, g4⟩ := (K.K.2 t _ ht).2
  have hcA : cA = w.2.1 t := Option.some.inj (f1.symm.trans g4)
  subst hcA
  rw [hcl9, hsz]
  generalize hH1 : H.push ({ cls := w.2.1 t, slots := Array.replicate n9 .null, vm := .none } : Cell) = H1
  have z1 : H1.size = H.size + 1 := by rw [← hH1, Array.size_push]
  have e1 : H1[H.size]? = some (arrV (w.2.1 t) n9 (fun _ => .null)) := by rw [← hH1, Array.getElem?_push_size, ← arrV_new]
  have o1 : ∀ q : Nat, q < H.size → H1[q]? = H[q]? := fun q hq => by rw [← hH1, Array.getElem?_push, if_neg (Nat.ne_of_lt hq)]
  refine kk H1 locs ls ?_ ⟨Nat.le_trans hS.1 (by omega), fun q q1 q2 => (o1 q (by have := hS.1; omega)).trans (hS.2.1 q q1 q2), hS.2.2⟩ hl
  rw [fl_ws_succ]
  refine va_P.app (hP.kept (fun k x hx => o1 x.1 ((hP k x hx).lt))) (fun k x hx => ?_)
  have hz : k < 1 := (List.getElem?_eq_some_iff.mp hx).1
  rw [show k = 0 by omega] at hx
  cases hx
  rw [hsh, h2]
  show H1[w.2.2 + N]? = some (vp_cell _ _)
  rw [vp_cell_q, ← hsz, e1]
  rfl
theorem x_putF (K : XC p s m args meth c cc nL ret Ts own w) {n n' ci k index Nf : Nat} {bs : List Bool} {C : String} {T : u_T} (ty0 : Nat → FieldType) (hty : ∀ k, k < Nf → parseFieldDescriptor (T k).2.2.1 = some (ty0 k)) (hnm : ∀ a, a < Nf → ∀ b, b < Nf → a ≠ b → (T a).2.1 ≠ (T b).2.1) (hn : n < N) (hsh : zSh n = .inl (ci, bs)) (hk : bs[k]? = some true) (hc : zCl[ci]? = some (C, T, Nf)) (hkN : k < Nf) (hin : ∀ t ∈ u_ws C T Nf, t ∈ Ts) (hlk : Cond.fieldLink own index (T k).1 (T k).2.1 (T k).2.2.1 ∈ Ts) (hfin : (T k).2.2.2 = true) (hin2 : meth.name = "<init>") (hdecl : (T k).1 = own) (hnr : narrow (ty0 k) (.ref (w.2.2 + n')) = .ref (w.2.2 + n')) (hft : fits (ty0 k) (.ref (w.2.2 + n')) = true) (hd : decode cc pc = .ok (.putfield index, 3)) (kk : XW p l e R s m args below meth c nL cells slots Q w N (wR M n k (some n')) (pc + 3) lv (st)) : XW p l e R s m args below meth c nL cells slots Q w N M (pc) lv (.ref (w.2.2 + n') :: .ref (w.2.2 + n) :: st) := by
  intro H locs ls hP hS hl
  have he := fl_ws_get (sh := zSh) (w := w) (M := M) hn
  have hE : fl_c w (zSh n) (M.1 n) (M.2 n) = .inr (ci, fl_fs w.2.2 (M.1 n) (M.2 n) 0 bs) := by rw [hsh]; rfl
  rw [hE] at he
  have hset : (fl_ws zSh w N M).set n (w.2.2 + n, .inr (ci, (fl_fs w.2.2 (M.1 n) (M.2 n) 0 bs).set k (.ref (w.2.2 + n')))) = fl_ws zSh w N (wR M n k (some n')) := by
    refine fl_ws_set (fun a ha => ⟨rfl, fl_u_row ha⟩) ?_
    rw [hsh]
    show Sum.inr (ci, _) = Sum.inr (ci, _)
    rw [fl_fs_set (fi := M.1 n) (fr := M.2 n) (fi' := (wR M n k (some n')).1 n) (fr' := (wR M n k (some n')).2 n) (fun i hi => ⟨rfl, fl_u_col hi⟩) (fun x9 h9 => by rw [hk] at h9; cases h9; show va_rf (((wR M n k (some n')).2 n k).map _) = _; rw [show (wR M n k (some n')).2 n k = some n' from fl_u_self]; rfl)]
  refine va_putF (v := .ref (w.2.2 + n')) (ty := ty0 k) K.x K.b K.ts hin ty0 hty hnm K.o K.K hP fl_ws_D hS n he hc k hkN (K.ts _ hlk) (fun _ h9 => h9) hfin hin2 hdecl (hty k hkN) hnr hft (by rw [fl_fs_len]; exact (List.getElem?_eq_some_iff.mp hk).1) hd (fun H1 locs1 hP1 _ hS1 => ?_)
  rw [hset] at hP1
  exact kk H1 locs1 ls hP1 hS1 hl
theorem x_objInit (K : XC p s m args meth c cc nL ret Ts own w) {n index : Nat} (hlk : Cond.methodLink own index objectInit ∈ Ts) (hins : Cond.instanceMethod objectInit ∈ Ts) (hco : Cond.code objectInit ⟨#[0xb1]⟩ 1 none ∈ Ts) (hfr : 1 ≤ R.frames) (hlo : (st.map fun v => v.category).sum + 12 ≤ R.locals) (hd : decode cc pc = .ok (.invokespecial index, 3)) (kk : XW p l e R s m args below meth c nL cells slots Q w N M (pc + 3) lv (st)) : XW p l e R s m args below meth c nL cells slots Q w N M (pc) lv (.ref n :: st) := fun H locs ls hP hS hl =>
  W.objInit K.x K.b K.o (K.ts _ hlk) (K.ts _ hins) (K.ts _ hco) rfl (by rw [K.ml]; exact hl.1) rfl hd hfr (by show 2 * 0 + _ + 12 ≤ _; omega) (kk H locs ls hP hS hl)
/-- A CONSTRUCTOR'S CONTRACT: k cells of ms slots come, from the name N on -/
def CN (l : Launch) (y : MethodName) (ws : List Cond) (rm : Room) (w : fl_W) (N k ms : Nat) (av : List Value) (M M' : fl_M) : Prop :=
  Met l y ws rm (va_Pc av (fun U => U.heap.size = w.2.2 + N ∧ CB w N M U)) (CQ w (N + k) none M') k ms (fun q : Nat => w.2.2 ≤ q)
theorem CN.of {y : MethodName} {ws ws' : List Cond} {rm : Room} {k ms : Nat} {av : List Value} {maxL : Nat} (hy : plainName y.cls = true) (hyn : y.name = "<init>") (hw : ws = Cond.code y cc maxL none :: ws') (hown : y.cls = own) (hav : (lg_sl av).length ≤ maxL)
    (body : ∀ (p : Program) (e : Env) (s : State) (m : MethodId) (args : Array Value) (below : List Frame) (meth : Method) (c : Code), XC p s m args meth c cc maxL none ws own w → s.heap.size = w.2.2 + N → meth.name = "<init>" → XW p l e rm s m args below meth c maxL 0 0 (MQ below (CQ w (N + k) none M') args s k ms (fun q : Nat => w.2.2 ≤ q)) w N M 0 (lv_args 0 av) []) : CN l y ws rm w N k ms av M M' := by
  refine Met.ofW (cc := cc) (maxL := maxL) (ret := none) hy hw ?_
  intro p e s m args below meth c s₁ B hml hv
  obtain ⟨rfl, hsz, hP, hK, hZ⟩ := hv
  have hl := lv_entry av (n := maxL) hav
  rw [lg_entry_eq]
  exact body p e s m _ below meth c ⟨B.exec, B.bytes, hml, by rw [← hown]; exact findClass_of_methodNamed B.named, atoms_spec (ws := ws) B.pre, hK, B.notSynchronized, B.returns, hZ⟩ hsz ((name_of_methodNamed B.named B.method).1.trans hyn) s.heap [] _ hP va_S.rf hl
theorem x_callI (K : XC p s m args meth c cc nL ret Ts own w) {y : MethodName} {bytes : ByteArray} {maxL index n0 k ms : Nat} {ws : List Cond} {rm : Room} (hM : CN l y ws rm w N k ms [.ref (w.2.2 + n0)] M M') (cw : CallB R s args own index y bytes maxL none ws rm k ms 0 ∧ y.name = "<init>" ∧ (Cond.instanceMethod y).before args s = true) (hs : s.heap.size + cells = w.2.2 + N) (hN : 0 < N) (hW : (st.map fun v => v.category).sum ≤ 8) (hf : cells + k ≤ R.cells ∧ slots + ms ≤ R.slots) (hd : decode cc pc = .ok (.invokespecial index, 3)) (kk : XW p l e R s m args below meth c nL (cells + k) (slots + ms) Q w (N + k) M' (pc + 3) lv (st)) : XW p l e R s m args below meth c nL cells slots Q w N M (pc) lv (.ref (w.2.2 + n0) :: st) := by
  intro H locs ls hP hS hl
  refine W.sz (fun hle => ?_)
  have hlw := fl_sz hP hS (Or.inl hN)
  have hsz : H.size = w.2.2 + N := by omega
  have hr := va_runI (As := []) (b := w.2.2 + n0) (rest := st) (g := F0 m pc ls (.ref (w.2.2 + n0) :: st)) (H := H) (locs := locs) (cells := cells) (slots := slots) (below := below) (meth := meth) (e := e) ⟨K.x, K.b, K.ml, K.o, K.ts⟩ hM cw ⟨fun a U g mk q => ⟨q.1, q.2.1, (cq_blind (av := [.ref (w.2.2 + n0)]) a U g mk ⟨q.1, q.2.2⟩).2⟩, fun U hU hW9 => ⟨rfl, by rw [hU]; exact hsz, (cq_pre (av := [.ref (w.2.2 + n0)]) K hP hS U hU hW9).2⟩⟩ rfl rfl hl.1 rfl (lv_room hW) hd hf
  intro T hT X
  obtain ⟨v, st₀, t, T', L, h0, X', hL, e1, e2, ⟨hv, hP1, hz, hk⟩, st9⟩ := hr T hT X
  cases hv
  have hS1 : va_S (fun q : Nat => w.2.2 ≤ q) s.heap t.heap (locs ++ L) := ⟨Nat.le_trans hS.1 (by rw [← h0]; exact hz), fun q q1 q2 => (hk q (by rw [h0]; exact Nat.lt_of_lt_of_le q1 hS.1) q2).trans (by rw [h0]; exact hS.2.1 q q1 q2), t_lL hS.2.2 hL⟩
  obtain ⟨t2, a1, b1⟩ := kk t.heap (locs ++ L) ls hP1 hS1 hl T' e1 X'
  exact ⟨t2, st9 t2 a1, b1⟩
theorem x_callIN (K : XC p s m args meth c cc nL ret Ts own w) {y : MethodName} {bytes : ByteArray} {maxL index n0 k ms : Nat} {ws : List Cond} {rm : Room} {host : String} (hM : CN l y ws rm w N k ms [.ref (w.2.2 + n0)] M M') (cw : va_CN R s args own index y host bytes maxL none ws rm k ms 0 ∧ y.name = "<init>" ∧ (Cond.instanceMethod y).before args s = true) (hs : s.heap.size + cells = w.2.2 + N) (hN : 0 < N) (hW : (st.map fun v => v.category).sum ≤ 8) (hf : cells + k ≤ R.cells ∧ slots + ms ≤ R.slots) (hd : decode cc pc = .ok (.invokespecial index, 3)) (kk : XW p l e R s m args below meth c nL (cells + k) (slots + ms) Q w (N + k) M' (pc + 3) lv (st)) : XW p l e R s m args below meth c nL cells slots Q w N M (pc) lv (.ref (w.2.2 + n0) :: st) := by
  intro H locs ls hP hS hl
  refine W.sz (fun hle => ?_)
  have hlw := fl_sz hP hS (Or.inl hN)
  have hsz : H.size = w.2.2 + N := by omega
  have hr := va_runIN (As := []) (b := w.2.2 + n0) (rest := st) (g := F0 m pc ls (.ref (w.2.2 + n0) :: st)) (H := H) (locs := locs) (cells := cells) (slots := slots) (below := below) (meth := meth) (e := e) ⟨K.x, K.b, K.ml, K.o, K.ts⟩ hM cw ⟨fun a U g mk q => ⟨q.1, q.2.1, (cq_blind (av := [.ref (w.2.2 + n0)]) a U g mk ⟨q.1, q.2.2⟩).2⟩, fun U hU hW9 => ⟨rfl, by rw [hU]; exact hsz, (cq_pre (av := [.ref (w.2.2 + n0)]) K hP hS U hU hW9).2⟩⟩ rfl rfl hl.1 rfl (lv_room hW) hd hf
  intro T hT X
  obtain ⟨v, st₀, t, T', L, h0, X', hL, e1, e2, ⟨hv, hP1, hz, hk⟩, st9⟩ := hr T hT X
  cases hv
  have hS1 : va_S (fun q : Nat => w.2.2 ≤ q) s.heap t.heap (locs ++ L) := ⟨Nat.le_trans hS.1 (by rw [← h0]; exact hz), fun q q1 q2 => (hk q (by rw [h0]; exact Nat.lt_of_lt_of_le q1 hS.1) q2).trans (by rw [h0]; exact hS.2.1 q q1 q2), t_lL hS.2.2 hL⟩
  obtain ⟨t2, a1, b1⟩ := kk t.heap (locs ++ L) ls hP1 hS1 hl T' e1 X'
  exact ⟨t2, st9 t2 a1, b1⟩
end XMK
