/-! WHERE THE REFERENCES LEAD: zRf o r, o the name of OLD's baseline; and the shapes there -/
def shE (a b : fl_H) : Bool := decide (a = b)
theorem shE_t {a b : fl_H} (h : a = b) : shE a b = true := decide_eq_true h
theorem shE_o {a b : fl_H} (h : shE a b = true) : a = b := of_decide_eq_true h
theorem shT_a : ∀ n, n < 295 → shE (zSh n) zsT = true → shE (zSh (n + 1)) (zaI 3) = true ∧ shE (zSh (n + 2)) zaM = true := by decide +kernel
theorem shT_m : ∀ n, n < 295 → ∀ i, i < 8 → shE (zSh n) zsT = true → shE (zSh (n + 3 + i)) zsM = true := by decide +kernel
theorem shB_a : ∀ n, n < 295 → shE (zSh n) zsB = true → shE (zSh (n + 1)) zaT = true ∧ shE (zSh (n + 134)) (zaI 12) = true := by decide +kernel
theorem shB_t : ∀ n, n < 295 → ∀ t, t < 12 → shE (zSh n) zsB = true → shE (zSh (n + 2 + 11 * t)) zsT = true := by decide +kernel
theorem shB_2 : ∀ n, n < 295 → zSh n = zsB → n = 2 ∨ n = 137 := by decide +kernel
theorem shTi {n : Nat} (h : zSh n = zsT) : zSh (n + 1) = zaI 3 := shE_o (shT_a n (zlt h) (shE_t h)).1
theorem shTa {n : Nat} (h : zSh n = zsT) : zSh (n + 2) = zaM := shE_o (shT_a n (zlt h) (shE_t h)).2
theorem shTm {n i : Nat} (h : zSh n = zsT) (hi : i < 8) : zSh (n + 3 + i) = zsM := shE_o (shT_m n (zlt h) i hi (shE_t h))
theorem shBa {n : Nat} (h : zSh n = zsB) : zSh (n + 1) = zaT := shE_o (shB_a n (zlt h) (shE_t h)).1
theorem shBf {n : Nat} (h : zSh n = zsB) : zSh (n + 134) = zaI 12 := shE_o (shB_a n (zlt h) (shE_t h)).2
theorem shBt {n t : Nat} (h : zSh n = zsB) (ht : t < 12) : zSh (n + 2 + 11 * t) = zsT := shE_o (shB_t n (zlt h) t ht (shE_t h))
theorem shB2 {n : Nat} (h : zSh n = zsB) : n = 2 ∨ n = 137 := shB_2 n (zlt h) h
theorem shJ : zSh 0 = zsJ := by decide +kernel
theorem shA : zSh 1 = zaB := by decide +kernel
theorem shC : zSh 272 = zsC := by decide +kernel
theorem shS : zSh 277 = zaI 14 := by decide +kernel
theorem sh273 : zSh 273 = zaI 636 := by decide +kernel
theorem sh274 : zSh 274 = zaI 636 := by decide +kernel
theorem sh275 : zSh 275 = zaI 636 := by decide +kernel
theorem sh276 : zSh 276 = zaM := by decide +kernel
theorem shR : zSh 278 = zsR := by decide +kernel
theorem sh279 : zSh 279 = zaZ 24 := by decide +kernel
theorem sh280 : zSh 280 = zaI 24 := by decide +kernel
theorem sh281 : zSh 281 = zaI 24 := by decide +kernel
theorem sh282 : zSh 282 = zaI 24 := by decide +kernel
theorem sh283 : zSh 283 = zaI 24 := by decide +kernel
theorem sh284 : zSh 284 = zaI 72 := by decide +kernel
theorem sh285 : zSh 285 = zaI 24 := by decide +kernel
theorem sh286 : zSh 286 = zaI 192 := by decide +kernel
theorem sh287 : zSh 287 = zaI 192 := by decide +kernel
theorem sh288 : zSh 288 = zaI 192 := by decide +kernel
theorem sh289 : zSh 289 = zaZ 192 := by decide +kernel
theorem sh290 : zSh 290 = zaI 192 := by decide +kernel
theorem sh291 : zSh 291 = zaZ 168 := by decide +kernel
theorem sh292 : zSh 292 = zaZ 12 := by decide +kernel
theorem sh293 : zSh 293 = zaI 48 := by decide +kernel
theorem sh294 : zSh 294 = zaI 14 := by decide +kernel
/-- the name of baseline x: 0 OLD, 1 NEW -/
def zb (o x : Nat) : Nat := if x = 0 then o else 139 - o
def zRf (o : Nat) (r : Nat → Nat → Option Nat) : Prop :=
  (o = 2 ∨ o = 137) ∧ (r 0 0 = some 1 ∧ r 0 1 = some 272 ∧ r 0 2 = some 277 ∧ r 1 0 = some o ∧ r 1 1 = some (139 - o)) ∧
  (∀ b, zSh b = zsB → r b 0 = some (b + 1) ∧ r b 1 = some (b + 134) ∧ ∀ t, t < 12 → r (b + 1) t = some (b + 2 + 11 * t)) ∧
  (∀ n, zSh n = zsT → r n 4 = some (n + 1) ∧ r n 6 = some (n + 2) ∧ ∀ i, i < 8 → r (n + 2) i = some (n + 3 + i)) ∧
  (r 272 0 = some 273 ∧ r 272 1 = some 274 ∧ r 272 2 = some 275 ∧ r 272 5 = some 276) ∧
  ((∀ k, k < 15 → r 278 k = some (279 + k)) ∧ r 278 21 = some 294)
section ZR
variable {o : Nat} {r : Nat → Nat → Option Nat}
theorem zRf.oo (h : zRf o r) : o = 2 ∨ o = 137 := h.1
theorem zRf.Ja (h : zRf o r) : r 0 0 = some 1 := h.2.1.1
theorem zRf.Jc (h : zRf o r) : r 0 1 = some 272 := h.2.1.2.1
theorem zRf.Js (h : zRf o r) : r 0 2 = some 277 := h.2.1.2.2.1
theorem zRf.Jb (h : zRf o r) {x : Nat} (hx : x < 2) : r 1 x = some (zb o x) := by
  rcases (show x = 0 ∨ x = 1 by omega) with rfl | rfl
  · exact h.2.1.2.2.2.1
  · exact h.2.1.2.2.2.2
theorem zRf.shb (h : zRf o r) {x : Nat} (hx : x < 2) : zSh (zb o x) = zsB := by
  rcases (show x = 0 ∨ x = 1 by omega) with rfl | rfl <;> rcases h.1 with rfl | rfl <;> decide +kernel
theorem zRf.Ba (h : zRf o r) {b : Nat} (hb : zSh b = zsB) : r b 0 = some (b + 1) := (h.2.2.1 b hb).1
theorem zRf.Bf (h : zRf o r) {b : Nat} (hb : zSh b = zsB) : r b 1 = some (b + 134) := (h.2.2.1 b hb).2.1
theorem zRf.Bt (h : zRf o r) {b t : Nat} (hb : zSh b = zsB) (ht : t < 12) : r (b + 1) t = some (b + 2 + 11 * t) := (h.2.2.1 b hb).2.2 t ht
theorem zRf.Ti (h : zRf o r) {n : Nat} (hn : zSh n = zsT) : r n 4 = some (n + 1) := (h.2.2.2.1 n hn).1
theorem zRf.Ta (h : zRf o r) {n : Nat} (hn : zSh n = zsT) : r n 6 = some (n + 2) := (h.2.2.2.1 n hn).2.1
theorem zRf.Tm (h : zRf o r) {n i : Nat} (hn : zSh n = zsT) (hi : i < 8) : r (n + 2) i = some (n + 3 + i) := (h.2.2.2.1 n hn).2.2 i hi
theorem zRf.c273 (h : zRf o r) : r 272 0 = some 273 := h.2.2.2.2.1.1
theorem zRf.c274 (h : zRf o r) : r 272 1 = some 274 := h.2.2.2.2.1.2.1
theorem zRf.c275 (h : zRf o r) : r 272 2 = some 275 := h.2.2.2.2.1.2.2.1
theorem zRf.c276 (h : zRf o r) : r 272 5 = some 276 := h.2.2.2.2.1.2.2.2
theorem zRf.r279 (h : zRf o r) : r 278 0 = some 279 := h.2.2.2.2.2.1 0 (by decide)
theorem zRf.r280 (h : zRf o r) : r 278 1 = some 280 := h.2.2.2.2.2.1 1 (by decide)
theorem zRf.r281 (h : zRf o r) : r 278 2 = some 281 := h.2.2.2.2.2.1 2 (by decide)
theorem zRf.r282 (h : zRf o r) : r 278 3 = some 282 := h.2.2.2.2.2.1 3 (by decide)
theorem zRf.r283 (h : zRf o r) : r 278 4 = some 283 := h.2.2.2.2.2.1 4 (by decide)
theorem zRf.r284 (h : zRf o r) : r 278 5 = some 284 := h.2.2.2.2.2.1 5 (by decide)
theorem zRf.r285 (h : zRf o r) : r 278 6 = some 285 := h.2.2.2.2.2.1 6 (by decide)
theorem zRf.r286 (h : zRf o r) : r 278 7 = some 286 := h.2.2.2.2.2.1 7 (by decide)
theorem zRf.r287 (h : zRf o r) : r 278 8 = some 287 := h.2.2.2.2.2.1 8 (by decide)
theorem zRf.r288 (h : zRf o r) : r 278 9 = some 288 := h.2.2.2.2.2.1 9 (by decide)
theorem zRf.r289 (h : zRf o r) : r 278 10 = some 289 := h.2.2.2.2.2.1 10 (by decide)
theorem zRf.r290 (h : zRf o r) : r 278 11 = some 290 := h.2.2.2.2.2.1 11 (by decide)
theorem zRf.r291 (h : zRf o r) : r 278 12 = some 291 := h.2.2.2.2.2.1 12 (by decide)
theorem zRf.r292 (h : zRf o r) : r 278 13 = some 292 := h.2.2.2.2.2.1 13 (by decide)
theorem zRf.r293 (h : zRf o r) : r 278 14 = some 293 := h.2.2.2.2.2.1 14 (by decide)
theorem zRf.r294 (h : zRf o r) : r 278 21 = some 294 := h.2.2.2.2.2.2
end ZR
abbrev rm_J_type : Room := { frames := 3, cells := 0, slots := 0, locals := 66 }
abbrev rm_J_isTypeOf : Room := { frames := 1, cells := 0, slots := 0, locals := 21 }
abbrev rm_J_isWithin : Room := { frames := 0, cells := 0, slots := 0, locals := 0 }
abbrev rm_J_isTypeAllowed : Room := { frames := 0, cells := 0, slots := 0, locals := 0 }
abbrev rm_T_define : Room := { frames := 0, cells := 0, slots := 0, locals := 0 }
abbrev rm_B_settle : Room := { frames := 2, cells := 0, slots := 0, locals := 45 }
abbrev rm_B_isClass : Room := { frames := 1, cells := 0, slots := 0, locals := 21 }
abbrev rm_B_gatherSupertypes : Room := { frames := 1, cells := 0, slots := 0, locals := 21 }
abbrev rm_B_isInterface : Room := { frames := 0, cells := 0, slots := 0, locals := 0 }
abbrev rm_J_implement : Room := { frames := 3, cells := 0, slots := 0, locals := 66 }
abbrev rm_T_names : Room := { frames := 0, cells := 0, slots := 0, locals := 0 }
abbrev rm_T_addInterface : Room := { frames := 0, cells := 0, slots := 0, locals := 0 }
abbrev rm_J_member : Room := { frames := 2, cells := 0, slots := 0, locals := 46 }
abbrev rm_J_isKey : Room := { frames := 1, cells := 0, slots := 0, locals := 21 }
abbrev rm_T_own : Room := { frames := 0, cells := 0, slots := 0, locals := 0 }
abbrev rm_J_isMemberAllowed : Room := { frames := 0, cells := 0, slots := 0, locals := 0 }
abbrev rm_J_isAllowedInInterface : Room := { frames := 0, cells := 0, slots := 0, locals := 0 }
abbrev rm_T_addMember : Room := { frames := 1, cells := 0, slots := 0, locals := 23 }
abbrev rm_M_define : Room := { frames := 0, cells := 0, slots := 0, locals := 0 }
abbrev rm_J_constant : Room := { frames := 3, cells := 0, slots := 0, locals := 65 }
abbrev rm_J_isMemberOf : Room := { frames := 2, cells := 0, slots := 0, locals := 42 }
abbrev rm_J_remove : Room := { frames := 3, cells := 0, slots := 0, locals := 66 }
abbrev rm_T_clear : Room := { frames := 0, cells := 0, slots := 0, locals := 0 }
abbrev rm_J_drop : Room := { frames := 3, cells := 0, slots := 0, locals := 65 }
abbrev rm_T_takeOut : Room := { frames := 1, cells := 0, slots := 0, locals := 21 }
abbrev rm_M_become : Room := { frames := 0, cells := 0, slots := 0, locals := 0 }
abbrev rm_J_copy : Room := { frames := 3, cells := 0, slots := 0, locals := 84 }
abbrev rm_B_become : Room := { frames := 2, cells := 0, slots := 0, locals := 62 }
abbrev rm_T_become : Room := { frames := 1, cells := 0, slots := 0, locals := 40 }
abbrev rm_B_typeCount : Room := { frames := 0, cells := 0, slots := 0, locals := 0 }
abbrev rm_J_swap : Room := { frames := 0, cells := 0, slots := 0, locals := 0 }
abbrev rm_J_suppress : Room := { frames := 2, cells := 0, slots := 0, locals := 43 }
abbrev rm_J_isSuppressed : Room := { frames := 1, cells := 0, slots := 0, locals := 21 }
abbrev rm_J_contains : Room := { frames := 0, cells := 0, slots := 0, locals := 0 }
abbrev rm_J_supertypes : Room := { frames := 2, cells := 0, slots := 0, locals := 42 }
abbrev rm_J_look : Room := { frames := 4, cells := 0, slots := 0, locals := 95 }
abbrev rm_B_whereIs : Room := { frames := 3, cells := 0, slots := 0, locals := 72 }
abbrev rm_B_whereIsField : Room := { frames := 2, cells := 0, slots := 0, locals := 48 }
abbrev rm_B_fieldOwnerFor : Room := { frames := 1, cells := 0, slots := 0, locals := 23 }
abbrev rm_B_whereIsMethod : Room := { frames := 2, cells := 0, slots := 0, locals := 48 }
abbrev rm_B_whereIsInterfaceMethod : Room := { frames := 1, cells := 0, slots := 0, locals := 23 }
abbrev rm_M_hasAny : Room := { frames := 0, cells := 0, slots := 0, locals := 0 }
abbrev rm_M_access : Room := { frames := 0, cells := 0, slots := 0, locals := 0 }
abbrev rm_J_findings : Room := { frames := 7, cells := 0, slots := 0, locals := 169 }
abbrev rm_C_bringUpToDate : Room := { frames := 6, cells := 0, slots := 0, locals := 146 }
abbrev rm_T_isPublic : Room := { frames := 1, cells := 0, slots := 0, locals := 21 }
abbrev rm_T_hasAny : Room := { frames := 0, cells := 0, slots := 0, locals := 0 }
abbrev rm_C_judgeType : Room := { frames := 5, cells := 0, slots := 0, locals := 121 }
abbrev rm_C_add : Room := { frames := 0, cells := 0, slots := 0, locals := 0 }
abbrev rm_C_judgeHeader : Room := { frames := 1, cells := 0, slots := 0, locals := 23 }
abbrev rm_C_findPartners : Room := { frames := 4, cells := 0, slots := 0, locals := 95 }
abbrev rm_C_judgeOldMembers : Room := { frames := 2, cells := 0, slots := 0, locals := 44 }
abbrev rm_M_isOpen : Room := { frames := 1, cells := 0, slots := 0, locals := 20 }
abbrev rm_C_breaksAsOld : Room := { frames := 1, cells := 0, slots := 0, locals := 21 }
abbrev rm_M_hasConstantOf : Room := { frames := 0, cells := 0, slots := 0, locals := 0 }
abbrev rm_C_judgeNewMembers : Room := { frames := 3, cells := 0, slots := 0, locals := 62 }
abbrev rm_C_breaksAsNew : Room := { frames := 2, cells := 0, slots := 0, locals := 40 }
abbrev rm_J_finding : Room := { frames := 7, cells := 0, slots := 0, locals := 169 }
abbrev rm_J_verdict : Room := { frames := 7, cells := 0, slots := 0, locals := 169 }
abbrev rm_J_byRule : Room := { frames := 7, cells := 0, slots := 0, locals := 169 }
abbrev rm_J_count : Room := { frames := 2, cells := 0, slots := 0, locals := 42 }
abbrev rm_B_memberCount : Room := { frames := 0, cells := 0, slots := 0, locals := 0 }
abbrev rm_J_suppressionCount : Room := { frames := 1, cells := 0, slots := 0, locals := 20 }
abbrev rm_I_bitCount : Room := { frames := 0, cells := 0, slots := 0, locals := 0 }
abbrev rm_R_type : Room := { frames := 2, cells := 0, slots := 0, locals := 42 }
abbrev rm_R_bad : Room := { frames := 1, cells := 0, slots := 0, locals := 21 }
abbrev rm_R_out : Room := { frames := 0, cells := 0, slots := 0, locals := 0 }
abbrev rm_R_implement : Room := { frames := 2, cells := 0, slots := 0, locals := 42 }
abbrev rm_R_member : Room := { frames := 2, cells := 0, slots := 0, locals := 44 }
abbrev rm_R_badKey : Room := { frames := 1, cells := 0, slots := 0, locals := 21 }
abbrev rm_R_own : Room := { frames := 0, cells := 0, slots := 0, locals := 0 }
abbrev rm_R_badFlags : Room := { frames := 1, cells := 0, slots := 0, locals := 21 }
abbrev rm_R_has : Room := { frames := 0, cells := 0, slots := 0, locals := 0 }
abbrev rm_R_constant : Room := { frames := 3, cells := 0, slots := 0, locals := 66 }
abbrev rm_R_cell : Room := { frames := 2, cells := 0, slots := 0, locals := 42 }
abbrev rm_R_remove : Room := { frames := 2, cells := 0, slots := 0, locals := 42 }
abbrev rm_R_drop : Room := { frames := 3, cells := 0, slots := 0, locals := 66 }
abbrev rm_R_copyCell : Room := { frames := 0, cells := 0, slots := 0, locals := 0 }
abbrev rm_R_copy : Room := { frames := 2, cells := 0, slots := 0, locals := 45 }
abbrev rm_R_copyRow : Room := { frames := 1, cells := 0, slots := 0, locals := 22 }
abbrev rm_R_count : Room := { frames := 1, cells := 0, slots := 0, locals := 21 }
abbrev rm_R_swap : Room := { frames := 2, cells := 0, slots := 0, locals := 49 }
abbrev rm_R_copyHead : Room := { frames := 0, cells := 0, slots := 0, locals := 0 }
abbrev rm_R_swapCell : Room := { frames := 1, cells := 0, slots := 0, locals := 22 }
abbrev rm_R_suppress : Room := { frames := 1, cells := 0, slots := 0, locals := 21 }
abbrev rm_R_supertypes : Room := { frames := 2, cells := 0, slots := 0, locals := 51 }
abbrev rm_R_set : Room := { frames := 1, cells := 0, slots := 0, locals := 25 }
abbrev rm_R_direct : Room := { frames := 0, cells := 0, slots := 0, locals := 0 }
abbrev rm_R_look : Room := { frames := 5, cells := 0, slots := 0, locals := 125 }
abbrev rm_R_find : Room := { frames := 4, cells := 0, slots := 0, locals := 101 }
abbrev rm_R_field : Room := { frames := 1, cells := 0, slots := 0, locals := 24 }
abbrev rm_R_is : Room := { frames := 0, cells := 0, slots := 0, locals := 0 }
abbrev rm_R_method : Room := { frames := 3, cells := 0, slots := 0, locals := 74 }
abbrev rm_R_above : Room := { frames := 2, cells := 0, slots := 0, locals := 51 }
abbrev rm_R_findings : Room := { frames := 8, cells := 0, slots := 0, locals := 196 }
abbrev rm_R_all : Room := { frames := 7, cells := 0, slots := 0, locals := 174 }
abbrev rm_R_judge : Room := { frames := 6, cells := 0, slots := 0, locals := 151 }
abbrev rm_R_tell : Room := { frames := 1, cells := 0, slots := 0, locals := 20 }
abbrev rm_R_severity : Room := { frames := 0, cells := 0, slots := 0, locals := 0 }
abbrev rm_R_members : Room := { frames := 5, cells := 0, slots := 0, locals := 125 }
abbrev rm_R_breaks : Room := { frames := 1, cells := 0, slots := 0, locals := 21 }
abbrev rm_R_added : Room := { frames := 5, cells := 0, slots := 0, locals := 125 }
abbrev rm_R_finding : Room := { frames := 8, cells := 0, slots := 0, locals := 196 }
abbrev rm_R_verdict : Room := { frames := 8, cells := 0, slots := 0, locals := 196 }
abbrev rm_R_byRule : Room := { frames := 8, cells := 0, slots := 0, locals := 196 }
