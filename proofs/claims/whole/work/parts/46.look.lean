/-! LOOKING UP, ALL KINDS -/
section LOOK
variable {M M' : fl_M} {b x t : Nat} {k key : Int32}
abbrev okk (k : Int32) : Prop := k = 0 ∨ k = 1 ∨ k = 2
theorem find_AF (hx : x < 2) (hE : sE M.1 M'.1 b x) (h : bG M.1 b) (ht : t < 12) (hk : okk k) : AF M.1 b x k key (whr M b t k key) (vFd M' x t k key) := by
  unfold whr vFd
  rw [(hE t ht).1]
  by_cases hd : M.1 (b + 2 + 11 * t) 0 = 0
  · rw [if_pos hd, if_pos hd]
    exact Or.inl ⟨rfl, rfl⟩
  · rw [if_neg hd, if_neg hd]
    rcases hk with rfl | rfl | rfl
    · rw [if_pos rfl, if_pos rfl, wfM_W h ht]
      exact qFld_AF hx h hE ht hd
    · have e1 : ¬ (1 : Int32) = 0 := by decide
      rw [if_neg e1, if_pos rfl, if_neg e1, if_pos rfl]
      exact mth_AF hx hE h ht hd
    · have e1 : ¬ (2 : Int32) = 0 := by decide
      have e2 : ¬ (2 : Int32) = 1 := by decide
      rw [if_neg e1, if_neg e2, if_neg e1, if_neg e2]
      exact AF_own hE h ht
theorem div8 : ∀ x, x < 2 → ∀ j, j < 12 → ∀ i, i < 8 → nI (8 * (12 * x + j) + i) / 8 - nI (12 * x) = nI j := by decide +kernel
theorem look_eq (hx : x < 2) (hE : sE M.1 M'.1 b x) (h : bG M.1 b) (ht : t < 12) (hk : okk k) : whr M b t k key = vLk M' x t k key := by
  unfold vLk
  rcases find_AF (key := key) hx hE h ht hk with ⟨e1, e2⟩ | ⟨j, i, hj, e1, ho, e2, _⟩
  · rw [e1, e2, if_pos (by decide)]
  · have hi := tOwn_lt (h.cnt hj) ho
    rw [e1, e2, if_neg (nI_lt0 (by omega)), div8 x hx j hj i hi.1]
/-- the partner on the class's side and the reference's cell -/
def PR (μ ν : Nat → Nat → Int32) (b x : Nat) (F : Option Nat) (c : Int32) : Prop := (F = none ∧ c < 0) ∨ ∃ q, F = some q ∧ ¬ c < 0 ∧ mE μ ν q (ix c) ∧ mL μ q ∧ b ≤ q ∧ q < b + 134
theorem tOwn_rd {μ μ' : Nat → Nat → Int32} {n : Nat} {a c : Int32} (hc : tOk μ n) (e : ∀ q k, n ≤ q → q < n + 11 → μ' q k = μ q k) : tOwn μ' n a c = tOwn μ n a c := by
  unfold tOwn cM
  rw [e _ _ (by omega) (by omega)]
  have h8 := hc.2.2
  exact fnd_congr _ _ (fun j _ hj => by
    have h9 : j < 0 + cM μ n := hj
    rw [e _ _ (by omega) (by omega), e _ _ (by omega) (by omega)])
theorem fpR_PR (hx : x < 2) (hE : sE M.1 M'.1 b x) (h : bG M.1 b) (ht : t < 12) {a : Nat} (ha : ¬ a = b + 134) (hk : okk (M.1 a 0)) : PR M.1 M'.1 b x (fpR M b t a) (vFd M' x t (M.1 a 0) (M.1 a 1)) := by
  unfold fpR
  rw [whM_rd ha, whM_rd ha]
  generalize M.1 a 0 = k at hk
  generalize M.1 a 1 = key
  rcases find_AF (key := key) hx hE h ht hk with ⟨e1, e2⟩ | ⟨j, i, hj, e1, ho, e2, hd⟩
  · rw [if_pos e1, e2]
    exact Or.inl ⟨rfl, by decide⟩
  · have hi := tOwn_lt (h.cnt hj) ho
    have hn : ¬ whr M b t k key = 12 := by rw [e1]; exact nI_12 hj
    rw [if_neg hn]
    have htn : tn b (whr M b t k key) = b + 2 + 11 * j := by rw [e1]; unfold tn; rw [ix_nI (by omega)]
    rw [htn, tOwn_rd (h.cnt hj) (fun q k h1 h2 => whM_rd (by omega)), ho, e2]
    refine Or.inr ⟨b + 2 + 11 * j + 3 + i, rfl, nI_lt0 (by omega), ?_, (h.leg hj).2.2.2.2 i hi.2, by omega, by omega⟩
    rw [ix_nI (by omega)]
    exact ((hE j hj).2 hd).2.2.2.2.2.2 i hi.2
end LOOK
