/-! JUDGING, SIDE BY SIDE -/
theorem ne12 {a : Nat} (h : a < 272) (h1 : a ≠ 136) (h2 : a ≠ 271) : zSh a ≠ zaI 12 := by
  have h9 : ∀ n, n < 272 → n ≠ 136 → n ≠ 271 → shE (zSh n) (zaI 12) = false := by decide +kernel
  intro q
  have := h9 a h h1 h2
  rw [shE_t q] at this
  cases this
theorem b4t : ∀ i, i < 32 → bt 4 i = decide (i = 2) := by decide +kernel
theorem b4 {y : Int32} : y &&& 4 = 0 ↔ bt y 2 = false := by
  constructor
  · intro h
    have this : bt (y &&& 4) 2 = bt 0 2 := by rw [h]
    rwa [b_and, b_0, show bt 4 2 = true by decide +kernel, Bool.and_true] at this
  · intro h
    refine b_ext (fun i hi => ?_)
    rw [b_and, b_0, b4t i hi]
    by_cases q : i = 2
    · rw [q, h, Bool.false_and]
    · rw [decide_eq_false q, Bool.and_false]
theorem xor4 {f g : Int32} : (¬ bI (¬ f &&& 4 = 0) = bI (¬ g &&& 4 = 0)) ↔ ¬ (f ^^^ g) &&& 4 = 0 := by
  have hf := b4 (y := f)
  have hg := b4 (y := g)
  have hx := b4 (y := f ^^^ g)
  rw [b_xor] at hx
  rcases ef : bt f 2 with _ | _ <;> rcases eg : bt g 2 with _ | _ <;> rw [ef, eg] at hx
  · have e1 : bI (¬ f &&& 4 = 0) = 0 := bI_f (fun z => z (hf.mpr ef))
    have e2 : bI (¬ g &&& 4 = 0) = 0 := bI_f (fun z => z (hg.mpr eg))
    rw [e1, e2]
    exact ⟨fun z => absurd rfl z, fun z => absurd (hx.mpr rfl) z⟩
  · have e1 : bI (¬ f &&& 4 = 0) = 0 := bI_f (fun z => z (hf.mpr ef))
    have e2 : bI (¬ g &&& 4 = 0) = 1 := bI_t (fun z => by rw [hg.mp z] at eg; cases eg)
    rw [e1, e2]
    exact ⟨fun _ z => absurd (hx.mp z) (by decide), fun _ => by decide⟩
  · have e1 : bI (¬ f &&& 4 = 0) = 1 := bI_t (fun z => by rw [hf.mp z] at ef; cases ef)
    have e2 : bI (¬ g &&& 4 = 0) = 0 := bI_f (fun z => z (hg.mpr eg))
    rw [e1, e2]
    exact ⟨fun _ z => absurd (hx.mp z) (by decide), fun _ => by decide⟩
  · have e1 : bI (¬ f &&& 4 = 0) = 1 := bI_t (fun z => by rw [hf.mp z] at ef; cases ef)
    have e2 : bI (¬ g &&& 4 = 0) = 1 := bI_t (fun z => by rw [hg.mp z] at eg; cases eg)
    rw [e1, e2]
    exact ⟨fun z => absurd rfl z, fun z => absurd (hx.mpr rfl) z⟩
section BRK
variable {ν : Nat → Nat → Int32} {X : fl_M} {b x c t i n : Nat} {d : Int32}
/-- an old member breaks a rule, on both sides -/
theorem brP_iff {r : Nat} (h5 : 5 ≤ r) (h11 : r ≤ 11) (hm : mE X.1 ν (n + 3 + i) c) (hp : PR X.1 ν b x (X.2 276 i) d) (e : ν 281 t = X.1 n 2) : brP X r n i ↔ qBr ν r t c d := by
  unfold brP
  rcases hp with ⟨hF, hd⟩ | ⟨q, hF, hd, mq, _, _, _⟩
  · rw [hF]
    show r = 5 ↔ qBr ν r t c d
    unfold qBr
    by_cases h : r = 5
    · rw [if_pos h]
      exact ⟨fun _ => hd, fun _ => h⟩
    · rw [if_neg h]
      exact ⟨fun q => absurd q h, fun q => absurd hd q.1⟩
  · rw [hF]
    show brO X.1 r n (n + 3 + i) q ↔ qBr ν r t c d
    obtain ⟨a0, a1, a2, a3, a4⟩ := hm
    obtain ⟨q0, q1, q2, q3, q4⟩ := mq
    rcases (show r = 5 ∨ r = 6 ∨ r = 7 ∨ r = 8 ∨ r = 9 ∨ r = 10 ∨ r = 11 by omega) with rfl | rfl | rfl | rfl | rfl | rfl | rfl
    · show False ↔ d < 0
      exact ⟨False.elim, fun z => hd z⟩
    · show ((X.1 q 2 &&& 3) < (X.1 (n + 3 + i) 2 &&& 3)) ↔ ¬ d < 0 ∧ (ν 288 (ix d) &&& 3) < (ν 288 c &&& 3)
      rw [a2, q2]
      exact ⟨fun z => ⟨hd, z⟩, fun z => z.2⟩
    · show (¬ bI (¬ X.1 (n + 3 + i) 2 &&& 4 = 0) = bI (¬ X.1 q 2 &&& 4 = 0)) ↔ ¬ d < 0 ∧ ¬ (ν 288 c ^^^ ν 288 (ix d)) &&& 4 = 0
      rw [a2, q2]
      exact ⟨fun z => ⟨hd, xor4.mp z⟩, fun z => xor4.mpr z.2⟩
    · show (X.1 (n + 3 + i) 0 = 0 ∧ (¬ ¬ X.1 (n + 3 + i) 2 &&& 8 = 0) ∧ ¬ X.1 q 2 &&& 8 = 0) ↔ ¬ d < 0 ∧ ν 286 c = 0 ∧ (¬ ¬ ν 288 c &&& 8 = 0) ∧ ¬ ν 288 (ix d) &&& 8 = 0
      rw [a0, a2, q2]
      exact ⟨fun z => ⟨hd, z⟩, fun z => z.2⟩
    · show (¬ X.1 (n + 3 + i) 3 = 0 ∧ ¬ (¬ X.1 (n + 3 + i) 3 = 0 ∧ ¬ X.1 q 3 = 0 ∧ X.1 (n + 3 + i) 4 = X.1 q 4)) ↔ ¬ d < 0 ∧ ¬ ν 289 c = 0 ∧ (ν 289 (ix d) = 0 ∨ ¬ ν 290 (ix d) = ν 290 c)
      rw [a3, q3]
      constructor
      · rintro ⟨z1, z2⟩
        refine ⟨hd, z1, ?_⟩
        by_cases z3 : X.1 q 3 = 0
        · exact Or.inl z3
        · refine Or.inr ?_
          rw [q4 z3, a4 z1]
          exact fun z4 => z2 ⟨z1, z3, z4.symm⟩
      · rintro ⟨_, z1, z2⟩
        refine ⟨z1, ?_⟩
        rintro ⟨_, z3, z4⟩
        rcases z2 with z5 | z5
        · exact z3 z5
        · rw [q4 z3, a4 z1] at z5
          exact z5 z4.symm
    · show (X.1 (n + 3 + i) 0 = 1 ∧ (¬ ¬ X.1 (n + 3 + i) 2 &&& 16 = 0) ∧ ¬ X.1 q 2 &&& 16 = 0) ↔ ¬ d < 0 ∧ ν 286 c = 1 ∧ (¬ ¬ ν 288 c &&& 16 = 0) ∧ ¬ ν 288 (ix d) &&& 16 = 0
      rw [a0, a2, q2]
      exact ⟨fun z => ⟨hd, z⟩, fun z => z.2⟩
    · show (X.1 (n + 3 + i) 0 = 1 ∧ (¬ ¬ X.1 (n + 3 + i) 2 &&& 12 = 0) ∧ (¬ ¬ X.1 n 2 &&& 4 = 0) ∧ ¬ X.1 q 2 &&& 8 = 0) ↔ ¬ d < 0 ∧ ν 286 c = 1 ∧ (¬ ¬ ν 288 c &&& 12 = 0) ∧ (¬ ¬ ν 281 t &&& 4 = 0) ∧ ¬ ν 288 (ix d) &&& 8 = 0
      rw [a0, a2, q2, e]
      exact ⟨fun z => ⟨hd, z⟩, fun z => z.2⟩
/-- a new member breaks a rule, on both sides -/
theorem bnP_iff {r : Nat} (hr : r = 12 ∨ r = 13) (hm : mE X.1 ν (n + 3 + i) c) (hl : mL X.1 (n + 3 + i)) (hp : PR X.1 ν b x (X.2 276 i) d) : bnP X r n i ↔ qAd ν r c d := by
  obtain ⟨a0, a1, a2, a3, a4⟩ := hm
  unfold bnP
  rcases hp with ⟨hF, hd⟩ | ⟨q, hF, hd, mq, _, _, _⟩
  · rw [hF]
    show brZ X.1 (nI r) (n + 3 + i) ↔ qAd ν r c d
    rcases hr with rfl | rfl
    · show (nI 12 = 13 ∧ X.1 (n + 3 + i) 0 = 1 ∧ ¬ X.1 (n + 3 + i) 2 &&& 16 = 0) ↔ (ν 286 c < 2 ∧ ¬ d < 0 ∧ (¬ (ν 288 (ix d) &&& 3) < 2) ∧ ((ν 288 c &&& 3) < (ν 288 (ix d) &&& 3) ∨ ¬ (ν 288 c ^^^ ν 288 (ix d)) &&& 4 = 0))
      exact ⟨fun z => absurd z.1 (by decide), fun z => absurd hd z.2.1⟩
    · show (nI 13 = 13 ∧ X.1 (n + 3 + i) 0 = 1 ∧ ¬ X.1 (n + 3 + i) 2 &&& 16 = 0) ↔ ((¬ ν 288 c &&& 16 = 0) ∧ d < 0)
      rw [a2]
      exact ⟨fun z => ⟨z.2.2, hd⟩, fun z => ⟨rfl, (hl.2.1.1 z.1).1, z.1⟩⟩
  · obtain ⟨q0, q1, q2, q3, q4⟩ := mq
    rw [hF]
    show brN X.1 (nI r) (n + 3 + i) q ↔ qAd ν r c d
    rcases hr with rfl | rfl
    · show (¬ nI 12 = 13 ∧ ¬ X.1 (n + 3 + i) 0 = 2 ∧ (¬ (X.1 q 2 &&& 3) < 2) ∧ ((X.1 (n + 3 + i) 2 &&& 3) < (X.1 q 2 &&& 3) ∨ ¬ bI (¬ X.1 (n + 3 + i) 2 &&& 4 = 0) = bI (¬ X.1 q 2 &&& 4 = 0))) ↔ (ν 286 c < 2 ∧ ¬ d < 0 ∧ (¬ (ν 288 (ix d) &&& 3) < 2) ∧ ((ν 288 c &&& 3) < (ν 288 (ix d) &&& 3) ∨ ¬ (ν 288 c ^^^ ν 288 (ix d)) &&& 4 = 0))
      rw [a0, a2, q2, xor4]
      have hk : ¬ X.1 (n + 3 + i) 0 = 2 ↔ X.1 (n + 3 + i) 0 < 2 := by
        rcases hl.1 with z | z | z <;> rw [z] <;> decide
      rw [hk]
      exact ⟨fun z => ⟨z.2.1, hd, z.2.2⟩, fun z => ⟨by decide, z.1, z.2.2⟩⟩
    · show (¬ nI 13 = 13 ∧ ¬ X.1 (n + 3 + i) 0 = 2 ∧ (¬ (X.1 q 2 &&& 3) < 2) ∧ ((X.1 (n + 3 + i) 2 &&& 3) < (X.1 q 2 &&& 3) ∨ ¬ bI (¬ X.1 (n + 3 + i) 2 &&& 4 = 0) = bI (¬ X.1 q 2 &&& 4 = 0))) ↔ ((¬ ν 288 c &&& 16 = 0) ∧ d < 0)
      exact ⟨fun z => absurd rfl z.1, fun z => absurd z.2 hd⟩
end BRK
theorem qBr_cg {ν ν' : Nat → Nat → Int32} {r t a : Nat} {n : Int32} (e : ∀ a k, 279 ≤ a → a ≤ 290 → ν' a k = ν a k) : qBr ν' r t a n ↔ qBr ν r t a n := by
  unfold qBr qBx
  rw [e 288 (ix n) (by omega) (by omega), e 288 a (by omega) (by omega), e 286 a (by omega) (by omega), e 289 a (by omega) (by omega), e 289 (ix n) (by omega) (by omega), e 290 a (by omega) (by omega), e 290 (ix n) (by omega) (by omega), e 281 t (by omega) (by omega)]
theorem qAd_cg {ν ν' : Nat → Nat → Int32} {r a : Nat} {n : Int32} (e : ∀ a k, 279 ≤ a → a ≤ 290 → ν' a k = ν a k) : qAd ν' r a n ↔ qAd ν r a n := by
  unfold qAd
  rw [e 288 (ix n) (by omega) (by omega), e 288 a (by omega) (by omega), e 286 a (by omega) (by omega)]
theorem qOwn_cg {ν ν' : Nat → Nat → Int32} {r : Nat} {a c : Int32} (e : ∀ a k, 279 ≤ a → a ≤ 290 → ν' a k = ν a k) : qOwn ν' r a c = qOwn ν r a c := by
  unfold qOwn qOwnF qM
  rw [e 279 r (by omega) (by omega), e 285 r (by omega) (by omega)]
  rw [fnd_congr (p := fun i => ν' 286 (8 * r + i) = a ∧ ν' 287 (8 * r + i) = c) (q := fun i => ν 286 (8 * r + i) = a ∧ ν 287 (8 * r + i) = c) _ _ (fun j _ _ => by rw [e 286 _ (by omega) (by omega), e 287 _ (by omega) (by omega)])]
theorem PR_cg {μ μ' ν : Nat → Nat → Int32} {b x : Nat} {F : Option Nat} {c : Int32} (e : ∀ q k, b ≤ q → q < b + 134 → μ' q k = μ q k) (h : PR μ ν b x F c) : PR μ' ν b x F c := by
  rcases h with h | ⟨q, h1, h2, h3, h4, h5, h6⟩
  · exact Or.inl h
  · refine Or.inr ⟨q, h1, h2, ?_, ?_, h5, h6⟩
    · unfold mE
      rw [e q 0 h5 h6, e q 1 h5 h6, e q 2 h5 h6, e q 3 h5 h6, e q 4 h5 h6]
      exact h3
    · unfold mL
      rw [e q 0 h5 h6, e q 2 h5 h6, e q 3 h5 h6]
      exact h4
theorem AF_fun {μ : Nat → Nat → Int32} {b x : Nat} {k key v c c' : Int32} (h : AF μ b x k key v c) (h' : AF μ b x k key v c') : c = c' := by
  rcases h with ⟨h1, h2⟩ | ⟨j, i, h1, h2, h3, h4, h5⟩
  · rcases h' with ⟨g1, g2⟩ | ⟨j, i, g1, g2, g3, g4, g5⟩
    · rw [h2, g2]
    · exact absurd (g2.symm.trans h1) (nI_12 g1)
  · rcases h' with ⟨g1, g2⟩ | ⟨j', i', g1, g2, g3, g4, g5⟩
    · exact absurd (h2.symm.trans g1) (nI_12 h1)
    · have hj : j = j' := nI_inj (by omega) (by omega) (h2.symm.trans g2)
      rw [← hj, h3] at g3
      rw [h4, g4, ← hj, Option.some.inj g3]
/-- the ground on which both judge -/
def JC (b1 b2 : Nat) (M0 N : fl_M) : Prop := ((b1 = 2 ∧ b2 = 137) ∨ (b1 = 137 ∧ b2 = 2)) ∧ bG M0.1 b1 ∧ bG M0.1 b2 ∧ sE M0.1 N.1 b1 0 ∧ sE M0.1 N.1 b2 1
def CX (o b1 b2 : Nat) (M0 X : fl_M) : Prop := cOk o b1 b2 X ∧ kept M0 X
/-- the partners found -/
def pRs (M0 N : fl_M) (b x t ro c : Nat) (X : fl_M) : Prop := ∀ j, j < c → PR M0.1 N.1 b x (X.2 276 j) (vFd N x t (N.1 286 (8 * ro + j)) (N.1 287 (8 * ro + j)))
theorem pRs.cg {M0 N : fl_M} {b x t ro c : Nat} {X X' : fl_M} (h : pRs M0 N b x t ro c X) (e : X'.2 = X.2) : pRs M0 N b x t ro c X' := fun j hj => by rw [e]; exact h j hj
section JDG
variable {o b1 b2 t : Nat} {M0 N X Y : fl_M}
theorem JC.h1 (J : JC b1 b2 M0 N) : zSh b1 = zsB := by
  rcases J.1 with ⟨rfl, _⟩ | ⟨rfl, _⟩ <;> decide +kernel
theorem JC.h2 (J : JC b1 b2 M0 N) : zSh b2 = zsB := by
  rcases J.1 with ⟨_, rfl⟩ | ⟨_, rfl⟩ <;> decide +kernel
theorem JC.ne (J : JC b1 b2 M0 N) : b1 ≠ b2 := by
  have := J.1
  omega
theorem CX.rw (h : CX o b1 b2 M0 X) (J : JC b1 b2 M0 N) {a k : Nat} (ha : (b1 ≤ a ∧ a < b1 + 134) ∨ (b2 ≤ a ∧ a < b2 + 134)) : X.1 a k = M0.1 a k := by
  have := J.1
  exact h.2 a k (ne12 (by omega) (by omega) (by omega)) (by omega)
theorem CX.g1 (h : CX o b1 b2 M0 X) (J : JC b1 b2 M0 N) : bG X.1 b1 := bG_fo (fun a k q1 q2 => h.rw J (Or.inl ⟨q1, q2⟩)) h.1.2.1.2.2 J.2.1
theorem CX.g2 (h : CX o b1 b2 M0 X) (J : JC b1 b2 M0 N) : bG X.1 b2 := bG_fo (fun a k q1 q2 => h.rw J (Or.inr ⟨q1, q2⟩)) h.1.2.2.1.2.2 J.2.2.1
theorem CX.s1 (h : CX o b1 b2 M0 X) (J : JC b1 b2 M0 N) : sE X.1 N.1 b1 0 := fun t ht => rE_cg (J.2.1.cnt ht) (fun a k q1 q2 _ => h.rw J (Or.inl ⟨by omega, by omega⟩)) RK.rf (J.2.2.2.1 t ht)
theorem CX.s2 (h : CX o b1 b2 M0 X) (J : JC b1 b2 M0 N) : sE X.1 N.1 b2 1 := fun t ht => rE_cg (J.2.2.1.cnt ht) (fun a k q1 q2 _ => h.rw J (Or.inr ⟨by omega, by omega⟩)) RK.rf (J.2.2.2.2 t ht)
theorem CX.add (h : CX o b1 b2 M0 X) (J : JC b1 b2 M0 N) {r t d : Int32} : CX o b1 b2 M0 (cAdd X r t d) := ⟨cOk_add J.h1 J.h2 h.1, h.2.tr kept_add⟩
theorem JC.y1 (J : JC b1 b2 M0 N) (hY : kpR N Y) : sE M0.1 Y.1 b1 0 := sE_rows (fun a k q1 q2 => hY.1 a k q1 (by omega)) J.2.2.2.1
theorem JC.y2 (J : JC b1 b2 M0 N) (hY : kpR N Y) : sE M0.1 Y.1 b2 1 := sE_rows (fun a k q1 q2 => hY.1 a k q1 (by omega)) J.2.2.2.2
/-- the reference finds the same, whatever its scratch -/
theorem vFd_1 (J : JC b1 b2 M0 N) (hY : kpR N Y) (ht : t < 12) {k key : Int32} (hk : okk k) : vFd Y 1 t k key = vFd N 1 t k key := AF_fun (find_AF (M := M0) (M' := Y) (by omega) (J.y2 hY) J.2.2.1 ht hk) (find_AF (M := M0) (M' := N) (by omega) J.2.2.2.2 J.2.2.1 ht hk)
theorem vFd_0 (J : JC b1 b2 M0 N) (hY : kpR N Y) (ht : t < 12) {k key : Int32} (hk : okk k) : vFd Y 0 t k key = vFd N 0 t k key := AF_fun (find_AF (M := M0) (M' := Y) (by omega) (J.y1 hY) J.2.1 ht hk) (find_AF (M := M0) (M' := N) (by omega) J.2.2.2.1 J.2.1 ht hk)
/-- a row of OLD, and one of NEW -/
theorem JC.e1 (J : JC b1 b2 M0 N) (ht : t < 12) : rE M0.1 N.1 (b1 + 2 + 11 * t) t := by
  have := J.2.2.2.1 t ht
  rwa [show 12 * 0 + t = t by omega] at this
theorem JC.e2 (J : JC b1 b2 M0 N) (ht : t < 12) : rE M0.1 N.1 (b2 + 2 + 11 * t) (12 + t) := by
  have := J.2.2.2.2 t ht
  rwa [show 12 * 1 + t = 12 + t by omega] at this
theorem mE_rw {μ μ' ν : Nat → Nat → Int32} {a c : Nat} (e : ∀ k, μ' a k = μ a k) (h : mE μ ν a c) : mE μ' ν a c := by
  unfold mE
  rw [e, e, e, e, e]
  exact h
theorem mL_rw {μ μ' : Nat → Nat → Int32} {a : Nat} (e : ∀ k, μ' a k = μ a k) (h : mL μ a) : mL μ' a := by
  unfold mL
  rw [e, e, e]
  exact h
/-- finding the partners -/
theorem fpl_PR {n b x ro c : Nat} (J : JC b1 b2 M0 N) (hB : zSh b = zsB) (hb : b = b1 ∨ b = b2) (hx : x < 2) (ht : t < 12) (g : bG M0.1 b) (s : sE M0.1 N.1 b x) (hr : ∀ i, i < c → N.1 286 (8 * ro + i) = M0.1 (n + 3 + i) 0 ∧ N.1 287 (8 * ro + i) = M0.1 (n + 3 + i) 1 ∧ okk (M0.1 (n + 3 + i) 0) ∧ ((b1 ≤ n + 3 + i ∧ n + 3 + i < b1 + 134) ∨ (b2 ≤ n + 3 + i ∧ n + 3 + i < b2 + 134))) : ∀ (k i : Nat) (X : fl_M), i + k ≤ c → CX o b1 b2 M0 X → pRs M0 N b x t ro i X → CX o b1 b2 M0 (fpl X n b t i k) ∧ pRs M0 N b x t ro (i + k) (fpl X n b t i k) ∧ ∀ a j, 272 ≤ a → (fpl X n b t i k).1 a j = X.1 a j := by
  intro k
  induction k with
  | zero => intro i X _ hX hP; exact ⟨hX, hP, fun _ _ _ => rfl⟩
  | succ k ih =>
    intro i X hk hX hP
    obtain ⟨r1, r2, r3, r4⟩ := hr i (by omega)
    have hJ := J.1
    have e0 := hX.rw J (a := n + 3 + i) (k := 0) r4
    have e1 := hX.rw J (a := n + 3 + i) (k := 1) r4
    have rows : ∀ a k, b ≤ a → a < b + 134 → X.1 a k = M0.1 a k := fun a k q1 q2 => hX.rw J (by rcases hb with rfl | rfl <;> omega)
    have gX : bG X.1 b := bG_fo rows (cOk_b hX.1 hb).2.2 g
    have sX : sE X.1 N.1 b x := fun u hu => rE_cg (g.cnt hu) (fun a k q1 q2 _ => rows a k (by omega) (by omega)) RK.rf (s u hu)
    have p := fpR_PR (M := X) (M' := N) hx sX gX ht (a := n + 3 + i) (by rcases hb with rfl | rfl <;> omega) (by rw [e0]; exact r3)
    rw [e0, e1, ← r1, ← r2] at p
    have p' := PR_cg (fun q k q1 q2 => (rows q k q1 q2).symm) p
    have hX1 : CX o b1 b2 M0 (wR (whM X b t (X.1 (n + 3 + i) 0) (X.1 (n + 3 + i) 1)) 276 i (fpR X b t (n + 3 + i))) := by
      refine ⟨cOk_p (cOk_wh J.h1 J.h2 J.ne hb ht hX.1), hX.2.tr (fun a k q1 q2 => ?_)⟩
      show (whM X b t (X.1 (n + 3 + i) 0) (X.1 (n + 3 + i) 1)).1 a k = X.1 a k
      exact whM_rd (fun z => q1 (by rw [z]; exact shBf hB))
    have hP1 : pRs M0 N b x t ro (i + 1) (wR (whM X b t (X.1 (n + 3 + i) 0) (X.1 (n + 3 + i) 1)) 276 i (fpR X b t (n + 3 + i))) := by
      intro j hj
      by_cases hji : j = i
      · rw [hji, show (wR (whM X b t (X.1 (n + 3 + i) 0) (X.1 (n + 3 + i) 1)) 276 i (fpR X b t (n + 3 + i))).2 276 i = fpR X b t (n + 3 + i) from fl_u_self]
        exact p'
      · rw [show (wR (whM X b t (X.1 (n + 3 + i) 0) (X.1 (n + 3 + i) 1)) 276 i (fpR X b t (n + 3 + i))).2 276 j = X.2 276 j from (fl_u_col hji).trans (by rw [whM_2])]
        exact hP j (by omega)
    have hl1 : ∀ a j, 272 ≤ a → (wR (whM X b t (X.1 (n + 3 + i) 0) (X.1 (n + 3 + i) 1)) 276 i (fpR X b t (n + 3 + i))).1 a j = X.1 a j := fun a j ha => by
      show (whM X b t (X.1 (n + 3 + i) 0) (X.1 (n + 3 + i) 1)).1 a j = X.1 a j
      exact whM_rd (by rcases hb with rfl | rfl <;> omega)
    unfold fpl
    generalize wR (whM X b t (X.1 (n + 3 + i) 0) (X.1 (n + 3 + i) 1)) 276 i (fpR X b t (n + 3 + i)) = X1 at hX1 hP1 hl1 ⊢
    obtain ⟨i1, i2, i3⟩ := ih (i + 1) X1 (by omega) hX1 hP1
    refine ⟨i1, ?_, fun a j ha => by rw [i3 a j ha, hl1 a j ha]⟩
    rw [show i + 1 + k = i + (k + 1) by omega] at i2
    exact i2
/-- the old members' rules -/
def pO (N : fl_M) (t r i : Nat) : Prop := (¬ (N.1 288 (8 * t + i) &&& 3) < 2) ∧ qBr N.1 r t (8 * t + i) (vFd N 1 t (N.1 286 (8 * t + i)) (N.1 287 (8 * t + i)))
def pN (N : fl_M) (t r i : Nat) : Prop := (¬ 0 ≤ qOwn N.1 t (N.1 286 (8 * (12 + t) + i)) (N.1 287 (8 * (12 + t) + i))) ∧ qAd N.1 r (8 * (12 + t) + i) (vFd N 0 t (N.1 286 (8 * (12 + t) + i)) (N.1 287 (8 * (12 + t) + i)))
theorem old_in (J : JC b1 b2 M0 N) (ht : t < 12) (hd : ¬ M0.1 (b1 + 2 + 11 * t) 0 = 0) {r : Nat} (h5 : 5 ≤ r) (h11 : r ≤ 11) : ∀ (k i : Nat) (X Y : fl_M), i + k ≤ cM M0.1 (b1 + 2 + 11 * t) → CX o b1 b2 M0 X → kpR N Y → pRs M0 N b2 1 t t (cM M0.1 (b1 + 2 + 11 * t)) X → ∃ D, STG X (joi X (b1 + 2 + 11 * t) r t i k) Y (mbl Y r t i k) D ∧ D.length = ct (pO N t r) i k := by
  have h8 := (J.2.1.cnt ht).2.2
  intro k
  induction k with
  | zero => intro i X Y _ _ _ _; exact ⟨[], STG.nil, rfl⟩
  | succ k ih =>
    intro i X Y hk hX hY hP
    obtain ⟨_, f2, _, _, _, _, em⟩ := (J.e1 ht).2 hd
    have mA := em i (by omega)
    have lA := (J.2.1.leg ht).2.2.2.2 i (by omega)
    have hrow : ∀ k, X.1 (b1 + 2 + 11 * t + 3 + i) k = M0.1 (b1 + 2 + 11 * t + 3 + i) k := fun k => hX.rw J (Or.inl ⟨by omega, by omega⟩)
    have mX := mE_rw hrow mA
    have hk9 : okk (N.1 286 (8 * t + i)) := by rw [mA.1]; exact lA.1
    have hp : PR X.1 N.1 b2 1 (X.2 276 i) (vFd N 1 t (N.1 286 (8 * t + i)) (N.1 287 (8 * t + i))) := PR_cg (fun q k q1 q2 => hX.rw J (Or.inr ⟨q1, q2⟩)) (hP i (by omega))
    have hbr := brP_iff (n := b1 + 2 + 11 * t) (t := t) h5 h11 mX hp (by rw [hX.rw J (Or.inl ⟨by omega, by omega⟩)]; exact f2)
    have hc : ((¬ (X.1 (b1 + 2 + 11 * t + 3 + i) 2 &&& 3) < 2) ∧ brP X r (b1 + 2 + 11 * t) i) ↔ pO N t r i := by
      unfold pO
      rw [hbr, mX.2.2.1]
    have y6 : Y.1 286 (8 * t + i) = N.1 286 (8 * t + i) := hY.1 _ _ (by omega) (by omega)
    have y7 : Y.1 287 (8 * t + i) = N.1 287 (8 * t + i) := hY.1 _ _ (by omega) (by omega)
    have y8 : Y.1 288 (8 * t + i) = N.1 288 (8 * t + i) := hY.1 _ _ (by omega) (by omega)
    have hv := vFd_1 J hY ht (key := N.1 287 (8 * t + i)) hk9
    rw [joi, mbl, y6, y7, y8, hv]
    by_cases ha : (N.1 288 (8 * t + i) &&& 3) < 2
    · rw [if_pos ha, cIf_f (fun z => (hc.mp z).1 ha)]
      obtain ⟨D, s, l⟩ := ih (i + 1) X Y (by omega) hX hY hP
      exact ⟨D, s, by rw [l, ct_f (fun z => z.1 ha)]⟩
    · rw [if_neg ha]
      have hq : qBr (mFd Y 1 t (N.1 286 (8 * t + i)) (N.1 287 (8 * t + i))).1 r t (8 * t + i) (vFd N 1 t (N.1 286 (8 * t + i)) (N.1 287 (8 * t + i))) ↔ qBr N.1 r t (8 * t + i) (vFd N 1 t (N.1 286 (8 * t + i)) (N.1 287 (8 * t + i))) := qBr_cg (fun a j q1 q2 => by rw [mFd_rd (by omega) (by omega)]; exact hY.1 a j q1 (by omega))
      have hY1 : kpR N (mFd Y 1 t (N.1 286 (8 * t + i)) (N.1 287 (8 * t + i))) := hY.tr kp_mFd
      by_cases hb : qBr N.1 r t (8 * t + i) (vFd N 1 t (N.1 286 (8 * t + i)) (N.1 287 (8 * t + i)))
      · rw [cIf_t (hc.mpr ⟨ha, hb⟩), cIf_t (hq.mpr hb)]
        obtain ⟨D, s, l⟩ := ih (i + 1) (cAdd X (nI r) (nI t) (nI i)) (tel (mFd Y 1 t (N.1 286 (8 * t + i)) (N.1 287 (8 * t + i))) r t (nI i)) (by omega) (hX.add J) (hY1.tr tel_kp) (hP.cg cAdd_2)
        refine ⟨_, (STG.mfd.tr (STG.add (by omega) ht)).tr s, ?_⟩
        rw [List.length_append, List.length_append, l, ct_t (P := pO N t r) ⟨ha, hb⟩]
        rfl
      · rw [cIf_f (fun z => hb (hc.mp z).2), cIf_f (fun z => hb (hq.mp z))]
        obtain ⟨D, s, l⟩ := ih (i + 1) X (mFd Y 1 t (N.1 286 (8 * t + i)) (N.1 287 (8 * t + i))) (by omega) hX hY1 hP
        refine ⟨_, STG.mfd.tr s, ?_⟩
        rw [List.length_append, l, ct_f (fun z => hb z.2)]
        exact Nat.zero_add _
theorem new_in (J : JC b1 b2 M0 N) (ht : t < 12) (hd1 : ¬ M0.1 (b1 + 2 + 11 * t) 0 = 0) (hd : ¬ M0.1 (b2 + 2 + 11 * t) 0 = 0) {r : Nat} (hr : r = 12 ∨ r = 13) : ∀ (k i : Nat) (X Y : fl_M), i + k ≤ cM M0.1 (b2 + 2 + 11 * t) → CX o b1 b2 M0 X → kpR N Y → pRs M0 N b1 0 t (12 + t) (cM M0.1 (b2 + 2 + 11 * t)) X → ∃ D, STG X (jni X (b1 + 2 + 11 * t) (b2 + 2 + 11 * t) r t i k) Y (adl Y r t i k) D ∧ D.length = ct (pN N t r) i k := by
  have h8 := (J.2.2.1.cnt ht).2.2
  intro k
  induction k with
  | zero => intro i X Y _ _ _ _; exact ⟨[], STG.nil, rfl⟩
  | succ k ih =>
    intro i X Y hk hX hY hP
    obtain ⟨_, _, _, _, _, _, em⟩ := (J.e2 ht).2 hd
    have mA := em i (by omega)
    have lA := (J.2.2.1.leg ht).2.2.2.2 i (by omega)
    have hrow : ∀ k, X.1 (b2 + 2 + 11 * t + 3 + i) k = M0.1 (b2 + 2 + 11 * t + 3 + i) k := fun k => hX.rw J (Or.inr ⟨by omega, by omega⟩)
    have mX := mE_rw hrow mA
    have lX := mL_rw hrow lA
    have hk9 : okk (N.1 286 (8 * (12 + t) + i)) := by rw [mA.1]; exact lA.1
    have hp : PR X.1 N.1 b1 0 (X.2 276 i) (vFd N 0 t (N.1 286 (8 * (12 + t) + i)) (N.1 287 (8 * (12 + t) + i))) := PR_cg (fun q k q1 q2 => hX.rw J (Or.inl ⟨q1, q2⟩)) (hP i (by omega))
    have hbr := bnP_iff (n := b2 + 2 + 11 * t) hr mX lX hp
    have e1 : rE X.1 N.1 (b1 + 2 + 11 * t) t := by
      have := hX.s1 J t ht
      rwa [show 12 * 0 + t = t by omega] at this
    have ho : tOwn X.1 (b1 + 2 + 11 * t) (X.1 (b2 + 2 + 11 * t + 3 + i) 0) (X.1 (b2 + 2 + 11 * t + 3 + i) 1) = none ↔ ¬ 0 ≤ qOwn N.1 t (N.1 286 (8 * (12 + t) + i)) (N.1 287 (8 * (12 + t) + i)) := by
      rw [mX.1, mX.2.1, ← E_neg (r := t) (by omega) e1 ((hX.g1 J).leg ht) ((hX.g1 J).cnt ht)]
      exact Int32.not_le.symm
    have hc : (tOwn X.1 (b1 + 2 + 11 * t) (X.1 (b2 + 2 + 11 * t + 3 + i) 0) (X.1 (b2 + 2 + 11 * t + 3 + i) 1) = none ∧ bnP X r (b2 + 2 + 11 * t) i) ↔ pN N t r i := by
      unfold pN
      rw [hbr, ho]
    have y6 : Y.1 286 (8 * (12 + t) + i) = N.1 286 (8 * (12 + t) + i) := hY.1 _ _ (by omega) (by omega)
    have y7 : Y.1 287 (8 * (12 + t) + i) = N.1 287 (8 * (12 + t) + i) := hY.1 _ _ (by omega) (by omega)
    have yo : qOwn Y.1 t (N.1 286 (8 * (12 + t) + i)) (N.1 287 (8 * (12 + t) + i)) = qOwn N.1 t (N.1 286 (8 * (12 + t) + i)) (N.1 287 (8 * (12 + t) + i)) := qOwn_cg (fun a k q1 q2 => hY.1 a k q1 (by omega))
    have hv := vFd_0 J hY ht (key := N.1 287 (8 * (12 + t) + i)) hk9
    rw [jni, adl, y6, y7, yo, hv]
    by_cases ha : 0 ≤ qOwn N.1 t (N.1 286 (8 * (12 + t) + i)) (N.1 287 (8 * (12 + t) + i))
    · rw [if_pos ha, cIf_f (fun z => (hc.mp z).1 ha)]
      obtain ⟨D, s, l⟩ := ih (i + 1) X Y (by omega) hX hY hP
      exact ⟨D, s, by rw [l, ct_f (fun z => z.1 ha)]⟩
    · rw [if_neg ha]
      have hq : qAd (mFd Y 0 t (N.1 286 (8 * (12 + t) + i)) (N.1 287 (8 * (12 + t) + i))).1 r (8 * (12 + t) + i) (vFd N 0 t (N.1 286 (8 * (12 + t) + i)) (N.1 287 (8 * (12 + t) + i))) ↔ qAd N.1 r (8 * (12 + t) + i) (vFd N 0 t (N.1 286 (8 * (12 + t) + i)) (N.1 287 (8 * (12 + t) + i))) := qAd_cg (fun a j q1 q2 => by rw [mFd_rd (by omega) (by omega)]; exact hY.1 a j q1 (by omega))
      have hY1 : kpR N (mFd Y 0 t (N.1 286 (8 * (12 + t) + i)) (N.1 287 (8 * (12 + t) + i))) := hY.tr kp_mFd
      by_cases hb : qAd N.1 r (8 * (12 + t) + i) (vFd N 0 t (N.1 286 (8 * (12 + t) + i)) (N.1 287 (8 * (12 + t) + i)))
      · rw [cIf_t (hc.mpr ⟨ha, hb⟩), cIf_t (hq.mpr hb)]
        obtain ⟨D, s, l⟩ := ih (i + 1) (cAdd X (nI r) (nI t) (nI i)) (tel (mFd Y 0 t (N.1 286 (8 * (12 + t) + i)) (N.1 287 (8 * (12 + t) + i))) r t (nI i)) (by omega) (hX.add J) (hY1.tr tel_kp) (hP.cg cAdd_2)
        refine ⟨_, (STG.mfd.tr (STG.add (by omega) ht)).tr s, ?_⟩
        rw [List.length_append, List.length_append, l, ct_t (P := pN N t r) ⟨ha, hb⟩]
        rfl
      · rw [cIf_f (fun z => hb (hc.mp z).2), cIf_f (fun z => hb (hq.mp z))]
        obtain ⟨D, s, l⟩ := ih (i + 1) X (mFd Y 0 t (N.1 286 (8 * (12 + t) + i)) (N.1 287 (8 * (12 + t) + i))) (by omega) hX hY1 hP
        refine ⟨_, STG.mfd.tr s, ?_⟩
        rw [List.length_append, l, ct_f (fun z => hb z.2)]
        exact Nat.zero_add _
noncomputable def smr (N : fl_M) (t c : Nat) : Nat → Nat → Nat
  | _, 0 => 0
  | r, k + 1 => ct (pO N t r) 0 c + smr N t c (r + 1) k
theorem old_out (J : JC b1 b2 M0 N) (ht : t < 12) (hd : ¬ M0.1 (b1 + 2 + 11 * t) 0 = 0) : ∀ (k r : Nat) (X Y : fl_M), 5 ≤ r → r + k ≤ 12 → CX o b1 b2 M0 X → kpR N Y → pRs M0 N b2 1 t t (cM M0.1 (b1 + 2 + 11 * t)) X → ∃ D, STG X (joo X (b1 + 2 + 11 * t) t (cM M0.1 (b1 + 2 + 11 * t)) r k) Y (jgr Y t r k) D ∧ D.length = smr N t (cM M0.1 (b1 + 2 + 11 * t)) r k := by
  intro k
  induction k with
  | zero => intro r X Y _ _ _ _ _; exact ⟨[], STG.nil, rfl⟩
  | succ k ih =>
    intro r X Y h5 hk hX hY hP
    have hq : qM Y.1 t = cM M0.1 (b1 + 2 + 11 * t) := by
      unfold qM cM
      rw [hY.1 _ _ (by omega) (by omega), ((J.e1 ht).2 hd).2.2.2.2.1]
    obtain ⟨D, s, l⟩ := old_in (r := r) J ht hd h5 (by omega) (cM M0.1 (b1 + 2 + 11 * t)) 0 X Y (by omega) hX hY hP
    obtain ⟨k1, k2, k3⟩ := joi_ok (o := o) (n1 := b1 + 2 + 11 * t) (r := r) (t := t) J.h1 J.h2 (cM M0.1 (b1 + 2 + 11 * t)) 0 X hX.1
    have hm := mbl_kp (r := r) (t := t) (cM M0.1 (b1 + 2 + 11 * t)) 0 Y
    rw [joo, jgr, hq]
    obtain ⟨E, s2, l2⟩ := ih (r + 1) _ _ (by omega) (by omega) ⟨k1, hX.2.tr k2⟩ (hY.tr hm) (hP.cg k3)
    refine ⟨D ++ E, s.tr s2, ?_⟩
    rw [List.length_append, l, l2]
    rfl
theorem old_cnt (J : JC b1 b2 M0 N) (ht : t < 12) (hd : ¬ M0.1 (b1 + 2 + 11 * t) 0 = 0) : smr N t (cM M0.1 (b1 + 2 + 11 * t)) 5 7 ≤ 32 := by
  have h8 := (J.2.1.cnt ht).2.2
  have h := ct7 (P := pO N t) (c := cM M0.1 (b1 + 2 + 11 * t)) (fun i hi => by
    have mA := ((J.e1 ht).2 hd).2.2.2.2.2.2 i hi
    have lA := (J.2.1.leg ht).2.2.2.2 i hi
    have b5 := cIf_le (P := pO N t 5 i)
    have b6 := cIf_le (P := pO N t 6 i)
    have b7 := cIf_le (P := pO N t 7 i)
    have b8 := cIf_le (P := pO N t 8 i)
    have b9 := cIf_le (P := pO N t 9 i)
    have b10 := cIf_le (P := pO N t 10 i)
    have b11 := cIf_le (P := pO N t 11 i)
    by_cases hn : vFd N 1 t (N.1 286 (8 * t + i)) (N.1 287 (8 * t + i)) < 0
    · rw [cIf_f (P := pO N t 6 i) (fun z => z.2.1 hn), cIf_f (P := pO N t 7 i) (fun z => z.2.1 hn), cIf_f (P := pO N t 8 i) (fun z => z.2.1 hn), cIf_f (P := pO N t 9 i) (fun z => z.2.1 hn), cIf_f (P := pO N t 10 i) (fun z => z.2.1 hn), cIf_f (P := pO N t 11 i) (fun z => z.2.1 hn)]
      omega
    · rw [cIf_f (P := pO N t 5 i) (fun z => hn z.2)]
      by_cases hk : N.1 286 (8 * t + i) = 0
      · have f10 : ¬ pO N t 10 i := fun z => by
          have h1 : N.1 286 (8 * t + i) = 1 := z.2.2.1
          rw [hk] at h1
          exact absurd h1 (by decide)
        have f11 : ¬ pO N t 11 i := fun z => by
          have h1 : N.1 286 (8 * t + i) = 1 := z.2.2.1
          rw [hk] at h1
          exact absurd h1 (by decide)
        rw [cIf_f f10, cIf_f f11]
        omega
      · have f8 : ¬ pO N t 8 i := fun z => hk z.2.2.1
        have f9 : ¬ pO N t 9 i := fun z => by
          have h1 : ¬ N.1 289 (8 * t + i) = 0 := z.2.2.1
          rw [mA.2.2.2.1] at h1
          rw [mA.1] at hk
          exact hk (lA.2.2.2 h1)
        rw [cIf_f f8, cIf_f f9]
        omega) (cM M0.1 (b1 + 2 + 11 * t)) 0 (by omega)
  have e : smr N t (cM M0.1 (b1 + 2 + 11 * t)) 5 7 = ct (pO N t 5) 0 (cM M0.1 (b1 + 2 + 11 * t)) + (ct (pO N t 6) 0 (cM M0.1 (b1 + 2 + 11 * t)) + (ct (pO N t 7) 0 (cM M0.1 (b1 + 2 + 11 * t)) + (ct (pO N t 8) 0 (cM M0.1 (b1 + 2 + 11 * t)) + (ct (pO N t 9) 0 (cM M0.1 (b1 + 2 + 11 * t)) + (ct (pO N t 10) 0 (cM M0.1 (b1 + 2 + 11 * t)) + (ct (pO N t 11) 0 (cM M0.1 (b1 + 2 + 11 * t)) + 0)))))) := rfl
  rw [e]
  omega
theorem new_out (J : JC b1 b2 M0 N) (ht : t < 12) (hd1 : ¬ M0.1 (b1 + 2 + 11 * t) 0 = 0) (hd : ¬ M0.1 (b2 + 2 + 11 * t) 0 = 0) (hX : CX o b1 b2 M0 X) (hY : kpR N Y) (hP : pRs M0 N b1 0 t (12 + t) (cM M0.1 (b2 + 2 + 11 * t)) X) : ∃ D, STG X (jno X (b1 + 2 + 11 * t) (b2 + 2 + 11 * t) t (cM M0.1 (b2 + 2 + 11 * t)) 12 2) Y (jgE Y t) D ∧ D.length ≤ 8 := by
  have h8 := (J.2.2.1.cnt ht).2.2
  have hq : ∀ Z, kpR N Z → qM Z.1 (12 + t) = cM M0.1 (b2 + 2 + 11 * t) := fun Z hZ => by
    unfold qM cM
    rw [hZ.1 _ _ (by omega) (by omega), ((J.e2 ht).2 hd).2.2.2.2.1]
  obtain ⟨D, s, l⟩ := new_in (r := 12) J ht hd1 hd (Or.inl rfl) (cM M0.1 (b2 + 2 + 11 * t)) 0 X Y (by omega) hX hY hP
  obtain ⟨k1, k2, k3⟩ := jni_ok (o := o) (n1 := b1 + 2 + 11 * t) (n2 := b2 + 2 + 11 * t) (r := 12) (t := t) J.h1 J.h2 (cM M0.1 (b2 + 2 + 11 * t)) 0 X hX.1
  have hm := adl_kp (rl := 12) (t := t) (cM M0.1 (b2 + 2 + 11 * t)) 0 Y
  obtain ⟨E, s2, l2⟩ := new_in (r := 13) J ht hd1 hd (Or.inr rfl) (cM M0.1 (b2 + 2 + 11 * t)) 0 _ _ (by omega) ⟨k1, hX.2.tr k2⟩ (hY.tr hm) (hP.cg k3)
  refine ⟨D ++ E, ?_, ?_⟩
  · have e : jgE Y t = adl (adl Y 12 t 0 (cM M0.1 (b2 + 2 + 11 * t))) 13 t 0 (cM M0.1 (b2 + 2 + 11 * t)) := by
      unfold jgE
      rw [hq Y hY, hq _ (hY.tr hm)]
    rw [e]
    exact s.tr s2
  · rw [List.length_append, l, l2]
    have := ct2 (P := pN N t 12) (Q := pN N t 13) (c := cM M0.1 (b2 + 2 + 11 * t)) (fun i hi => by
      by_cases hn : vFd N 0 t (N.1 286 (8 * (12 + t) + i)) (N.1 287 (8 * (12 + t) + i)) < 0
      · have f : ¬ pN N t 12 i := fun z => z.2.2.1 hn
        rw [cIf_f f]
        have := cIf_le (P := pN N t 13 i)
        omega
      · have f : ¬ pN N t 13 i := fun z => hn z.2.2
        rw [cIf_f f]
        exact cIf_le) (cM M0.1 (b2 + 2 + 11 * t)) 0 (by omega)
    omega
end JDG
