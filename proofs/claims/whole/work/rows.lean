section
/-- a private method of a class that the tables say can be made, by its rows of tables_1 -/
def lw_okq (q : MethodName × Nat) : Prop := (q.1.cls ≠ "java/lang/invoke/MethodHandle" ∧ q.1.cls ≠ "java/lang/invoke/VarHandle") ∧ Cond.instantiable q.1.cls q.2 ∈ tables_1 ∧ Cond.privateMethod q.1 ∈ tables_1 ∧ Cond.instanceMethod q.1 ∈ tables_1
theorem lw_p0 : lw_okq (⟨"CompatibilityJudge$Baseline", "isClass", "(I)Z"⟩, 2) := ⟨⟨by decide +kernel, by decide +kernel⟩, List.mem_of_getElem? (i := 20) (by decide +kernel), List.mem_of_getElem? (i := 185) (by decide +kernel), List.mem_of_getElem? (i := 186) (by decide +kernel)⟩
theorem lw_p1 : lw_okq (⟨"CompatibilityJudge$Baseline", "gatherSupertypes", "(LCompatibilityJudge$Type;)I"⟩, 2) := ⟨⟨by decide +kernel, by decide +kernel⟩, List.mem_of_getElem? (i := 20) (by decide +kernel), List.mem_of_getElem? (i := 190) (by decide +kernel), List.mem_of_getElem? (i := 191) (by decide +kernel)⟩
theorem lw_p2 : lw_okq (⟨"CompatibilityJudge$Baseline", "isInterface", "(I)Z"⟩, 2) := ⟨⟨by decide +kernel, by decide +kernel⟩, List.mem_of_getElem? (i := 20) (by decide +kernel), List.mem_of_getElem? (i := 194) (by decide +kernel), List.mem_of_getElem? (i := 195) (by decide +kernel)⟩
theorem lw_p3 : lw_okq (⟨"CompatibilityJudge", "isMemberOf", "(III)Z"⟩, 3) := ⟨⟨by decide +kernel, by decide +kernel⟩, List.mem_of_getElem? (i := 11) (by decide +kernel), List.mem_of_getElem? (i := 241) (by decide +kernel), List.mem_of_getElem? (i := 242) (by decide +kernel)⟩
theorem lw_p4 : lw_okq (⟨"CompatibilityJudge", "isSuppressed", "(II)Z"⟩, 3) := ⟨⟨by decide +kernel, by decide +kernel⟩, List.mem_of_getElem? (i := 11) (by decide +kernel), List.mem_of_getElem? (i := 292) (by decide +kernel), List.mem_of_getElem? (i := 293) (by decide +kernel)⟩
theorem lw_p5 : lw_okq (⟨"CompatibilityJudge$Baseline", "whereIsField", "(II)I"⟩, 2) := ⟨⟨by decide +kernel, by decide +kernel⟩, List.mem_of_getElem? (i := 20) (by decide +kernel), List.mem_of_getElem? (i := 311) (by decide +kernel), List.mem_of_getElem? (i := 312) (by decide +kernel)⟩
theorem lw_p6 : lw_okq (⟨"CompatibilityJudge$Baseline", "fieldOwnerFor", "(II)I"⟩, 2) := ⟨⟨by decide +kernel, by decide +kernel⟩, List.mem_of_getElem? (i := 20) (by decide +kernel), List.mem_of_getElem? (i := 316) (by decide +kernel), List.mem_of_getElem? (i := 317) (by decide +kernel)⟩
theorem lw_p7 : lw_okq (⟨"CompatibilityJudge$Baseline", "whereIsMethod", "(II)I"⟩, 2) := ⟨⟨by decide +kernel, by decide +kernel⟩, List.mem_of_getElem? (i := 20) (by decide +kernel), List.mem_of_getElem? (i := 321) (by decide +kernel), List.mem_of_getElem? (i := 322) (by decide +kernel)⟩
theorem lw_p8 : lw_okq (⟨"CompatibilityJudge$Baseline", "whereIsInterfaceMethod", "(II)I"⟩, 2) := ⟨⟨by decide +kernel, by decide +kernel⟩, List.mem_of_getElem? (i := 20) (by decide +kernel), List.mem_of_getElem? (i := 325) (by decide +kernel), List.mem_of_getElem? (i := 326) (by decide +kernel)⟩
theorem lw_p9 : lw_okq (⟨"CompatibilityJudge$Comparison", "judgeType", "(LCompatibilityJudge$Baseline;LCompatibilityJudge$Baseline;I)V"⟩, 6) := ⟨⟨by decide +kernel, by decide +kernel⟩, List.mem_of_getElem? (i := 123) (by decide +kernel), List.mem_of_getElem? (i := 353) (by decide +kernel), List.mem_of_getElem? (i := 354) (by decide +kernel)⟩
theorem lw_p10 : lw_okq (⟨"CompatibilityJudge$Comparison", "add", "(III)V"⟩, 6) := ⟨⟨by decide +kernel, by decide +kernel⟩, List.mem_of_getElem? (i := 123) (by decide +kernel), List.mem_of_getElem? (i := 357) (by decide +kernel), List.mem_of_getElem? (i := 358) (by decide +kernel)⟩
theorem lw_p11 : lw_okq (⟨"CompatibilityJudge$Comparison", "judgeHeader", "(LCompatibilityJudge$Type;LCompatibilityJudge$Type;I)V"⟩, 6) := ⟨⟨by decide +kernel, by decide +kernel⟩, List.mem_of_getElem? (i := 123) (by decide +kernel), List.mem_of_getElem? (i := 361) (by decide +kernel), List.mem_of_getElem? (i := 362) (by decide +kernel)⟩
theorem lw_p12 : lw_okq (⟨"CompatibilityJudge$Comparison", "findPartners", "(LCompatibilityJudge$Type;LCompatibilityJudge$Baseline;I)V"⟩, 6) := ⟨⟨by decide +kernel, by decide +kernel⟩, List.mem_of_getElem? (i := 123) (by decide +kernel), List.mem_of_getElem? (i := 367) (by decide +kernel), List.mem_of_getElem? (i := 368) (by decide +kernel)⟩
theorem lw_p13 : lw_okq (⟨"CompatibilityJudge$Comparison", "judgeOldMembers", "(LCompatibilityJudge$Type;I)V"⟩, 6) := ⟨⟨by decide +kernel, by decide +kernel⟩, List.mem_of_getElem? (i := 123) (by decide +kernel), List.mem_of_getElem? (i := 373) (by decide +kernel), List.mem_of_getElem? (i := 374) (by decide +kernel)⟩
theorem lw_p14 : lw_okq (⟨"CompatibilityJudge$Comparison", "judgeNewMembers", "(LCompatibilityJudge$Type;LCompatibilityJudge$Type;I)V"⟩, 6) := ⟨⟨by decide +kernel, by decide +kernel⟩, List.mem_of_getElem? (i := 123) (by decide +kernel), List.mem_of_getElem? (i := 391) (by decide +kernel), List.mem_of_getElem? (i := 392) (by decide +kernel)⟩
theorem lw_p15 : lw_okq (⟨"CompatibilityJudge", "suppressionCount", "()I"⟩, 3) := ⟨⟨by decide +kernel, by decide +kernel⟩, List.mem_of_getElem? (i := 11) (by decide +kernel), List.mem_of_getElem? (i := 423) (by decide +kernel), List.mem_of_getElem? (i := 424) (by decide +kernel)⟩
def lw_privs_1 : List (MethodName × Nat) := [(⟨"CompatibilityJudge$Baseline", "isClass", "(I)Z"⟩, 2), (⟨"CompatibilityJudge$Baseline", "gatherSupertypes", "(LCompatibilityJudge$Type;)I"⟩, 2), (⟨"CompatibilityJudge$Baseline", "isInterface", "(I)Z"⟩, 2), (⟨"CompatibilityJudge", "isMemberOf", "(III)Z"⟩, 3), (⟨"CompatibilityJudge", "isSuppressed", "(II)Z"⟩, 3), (⟨"CompatibilityJudge$Baseline", "whereIsField", "(II)I"⟩, 2), (⟨"CompatibilityJudge$Baseline", "fieldOwnerFor", "(II)I"⟩, 2), (⟨"CompatibilityJudge$Baseline", "whereIsMethod", "(II)I"⟩, 2), (⟨"CompatibilityJudge$Baseline", "whereIsInterfaceMethod", "(II)I"⟩, 2), (⟨"CompatibilityJudge$Comparison", "judgeType", "(LCompatibilityJudge$Baseline;LCompatibilityJudge$Baseline;I)V"⟩, 6), (⟨"CompatibilityJudge$Comparison", "add", "(III)V"⟩, 6), (⟨"CompatibilityJudge$Comparison", "judgeHeader", "(LCompatibilityJudge$Type;LCompatibilityJudge$Type;I)V"⟩, 6), (⟨"CompatibilityJudge$Comparison", "findPartners", "(LCompatibilityJudge$Type;LCompatibilityJudge$Baseline;I)V"⟩, 6), (⟨"CompatibilityJudge$Comparison", "judgeOldMembers", "(LCompatibilityJudge$Type;I)V"⟩, 6), (⟨"CompatibilityJudge$Comparison", "judgeNewMembers", "(LCompatibilityJudge$Type;LCompatibilityJudge$Type;I)V"⟩, 6), (⟨"CompatibilityJudge", "suppressionCount", "()I"⟩, 3)]
theorem lw_r1 : ∀ q ∈ lw_privs_1, lw_okq q := List.forall_mem_cons.mpr ⟨lw_p0, List.forall_mem_cons.mpr ⟨lw_p1, List.forall_mem_cons.mpr ⟨lw_p2, List.forall_mem_cons.mpr ⟨lw_p3, List.forall_mem_cons.mpr ⟨lw_p4, List.forall_mem_cons.mpr ⟨lw_p5, List.forall_mem_cons.mpr ⟨lw_p6, List.forall_mem_cons.mpr ⟨lw_p7, List.forall_mem_cons.mpr ⟨lw_p8, List.forall_mem_cons.mpr ⟨lw_p9, List.forall_mem_cons.mpr ⟨lw_p10, List.forall_mem_cons.mpr ⟨lw_p11, List.forall_mem_cons.mpr ⟨lw_p12, List.forall_mem_cons.mpr ⟨lw_p13, List.forall_mem_cons.mpr ⟨lw_p14, List.forall_mem_cons.mpr ⟨lw_p15, fun _ h => absurd h List.not_mem_nil⟩⟩⟩⟩⟩⟩⟩⟩⟩⟩⟩⟩⟩⟩⟩⟩
theorem lw_p16 : lw_okq (⟨"CompatibilityJudgeModel", "own", "(III)I"⟩, 22) := ⟨⟨by decide +kernel, by decide +kernel⟩, List.mem_of_getElem? (i := 433) (by decide +kernel), List.mem_of_getElem? (i := 528) (by decide +kernel), List.mem_of_getElem? (i := 529) (by decide +kernel)⟩
theorem lw_p17 : lw_okq (⟨"CompatibilityJudgeModel", "cell", "(III)I"⟩, 22) := ⟨⟨by decide +kernel, by decide +kernel⟩, List.mem_of_getElem? (i := 433) (by decide +kernel), List.mem_of_getElem? (i := 542) (by decide +kernel), List.mem_of_getElem? (i := 543) (by decide +kernel)⟩
theorem lw_p18 : lw_okq (⟨"CompatibilityJudgeModel", "copyCell", "(II)V"⟩, 22) := ⟨⟨by decide +kernel, by decide +kernel⟩, List.mem_of_getElem? (i := 433) (by decide +kernel), List.mem_of_getElem? (i := 554) (by decide +kernel), List.mem_of_getElem? (i := 555) (by decide +kernel)⟩
theorem lw_p19 : lw_okq (⟨"CompatibilityJudgeModel", "copyRow", "(II)V"⟩, 22) := ⟨⟨by decide +kernel, by decide +kernel⟩, List.mem_of_getElem? (i := 433) (by decide +kernel), List.mem_of_getElem? (i := 562) (by decide +kernel), List.mem_of_getElem? (i := 563) (by decide +kernel)⟩
theorem lw_p20 : lw_okq (⟨"CompatibilityJudgeModel", "copyHead", "(II)V"⟩, 22) := ⟨⟨by decide +kernel, by decide +kernel⟩, List.mem_of_getElem? (i := 433) (by decide +kernel), List.mem_of_getElem? (i := 574) (by decide +kernel), List.mem_of_getElem? (i := 575) (by decide +kernel)⟩
theorem lw_p21 : lw_okq (⟨"CompatibilityJudgeModel", "swapCell", "(II)V"⟩, 22) := ⟨⟨by decide +kernel, by decide +kernel⟩, List.mem_of_getElem? (i := 433) (by decide +kernel), List.mem_of_getElem? (i := 578) (by decide +kernel), List.mem_of_getElem? (i := 579) (by decide +kernel)⟩
theorem lw_p22 : lw_okq (⟨"CompatibilityJudgeModel", "set", "(II)I"⟩, 22) := ⟨⟨by decide +kernel, by decide +kernel⟩, List.mem_of_getElem? (i := 433) (by decide +kernel), List.mem_of_getElem? (i := 590) (by decide +kernel), List.mem_of_getElem? (i := 591) (by decide +kernel)⟩
theorem lw_p23 : lw_okq (⟨"CompatibilityJudgeModel", "direct", "(III)Z"⟩, 22) := ⟨⟨by decide +kernel, by decide +kernel⟩, List.mem_of_getElem? (i := 433) (by decide +kernel), List.mem_of_getElem? (i := 594) (by decide +kernel), List.mem_of_getElem? (i := 595) (by decide +kernel)⟩
theorem lw_p24 : lw_okq (⟨"CompatibilityJudgeModel", "find", "(IIII)I"⟩, 22) := ⟨⟨by decide +kernel, by decide +kernel⟩, List.mem_of_getElem? (i := 433) (by decide +kernel), List.mem_of_getElem? (i := 602) (by decide +kernel), List.mem_of_getElem? (i := 603) (by decide +kernel)⟩
theorem lw_p25 : lw_okq (⟨"CompatibilityJudgeModel", "field", "(III)I"⟩, 22) := ⟨⟨by decide +kernel, by decide +kernel⟩, List.mem_of_getElem? (i := 433) (by decide +kernel), List.mem_of_getElem? (i := 606) (by decide +kernel), List.mem_of_getElem? (i := 607) (by decide +kernel)⟩
theorem lw_p26 : lw_okq (⟨"CompatibilityJudgeModel", "is", "(III)Z"⟩, 22) := ⟨⟨by decide +kernel, by decide +kernel⟩, List.mem_of_getElem? (i := 433) (by decide +kernel), List.mem_of_getElem? (i := 610) (by decide +kernel), List.mem_of_getElem? (i := 611) (by decide +kernel)⟩
theorem lw_p27 : lw_okq (⟨"CompatibilityJudgeModel", "method", "(III)I"⟩, 22) := ⟨⟨by decide +kernel, by decide +kernel⟩, List.mem_of_getElem? (i := 433) (by decide +kernel), List.mem_of_getElem? (i := 614) (by decide +kernel), List.mem_of_getElem? (i := 615) (by decide +kernel)⟩
theorem lw_p28 : lw_okq (⟨"CompatibilityJudgeModel", "above", "(III)Z"⟩, 22) := ⟨⟨by decide +kernel, by decide +kernel⟩, List.mem_of_getElem? (i := 433) (by decide +kernel), List.mem_of_getElem? (i := 618) (by decide +kernel), List.mem_of_getElem? (i := 619) (by decide +kernel)⟩
theorem lw_p29 : lw_okq (⟨"CompatibilityJudgeModel", "all", "(I)V"⟩, 22) := ⟨⟨by decide +kernel, by decide +kernel⟩, List.mem_of_getElem? (i := 433) (by decide +kernel), List.mem_of_getElem? (i := 626) (by decide +kernel), List.mem_of_getElem? (i := 627) (by decide +kernel)⟩
theorem lw_p30 : lw_okq (⟨"CompatibilityJudgeModel", "judge", "(I)V"⟩, 22) := ⟨⟨by decide +kernel, by decide +kernel⟩, List.mem_of_getElem? (i := 433) (by decide +kernel), List.mem_of_getElem? (i := 630) (by decide +kernel), List.mem_of_getElem? (i := 631) (by decide +kernel)⟩
theorem lw_p31 : lw_okq (⟨"CompatibilityJudgeModel", "tell", "(III)V"⟩, 22) := ⟨⟨by decide +kernel, by decide +kernel⟩, List.mem_of_getElem? (i := 433) (by decide +kernel), List.mem_of_getElem? (i := 634) (by decide +kernel), List.mem_of_getElem? (i := 635) (by decide +kernel)⟩
def lw_privs_2 : List (MethodName × Nat) := [(⟨"CompatibilityJudgeModel", "own", "(III)I"⟩, 22), (⟨"CompatibilityJudgeModel", "cell", "(III)I"⟩, 22), (⟨"CompatibilityJudgeModel", "copyCell", "(II)V"⟩, 22), (⟨"CompatibilityJudgeModel", "copyRow", "(II)V"⟩, 22), (⟨"CompatibilityJudgeModel", "copyHead", "(II)V"⟩, 22), (⟨"CompatibilityJudgeModel", "swapCell", "(II)V"⟩, 22), (⟨"CompatibilityJudgeModel", "set", "(II)I"⟩, 22), (⟨"CompatibilityJudgeModel", "direct", "(III)Z"⟩, 22), (⟨"CompatibilityJudgeModel", "find", "(IIII)I"⟩, 22), (⟨"CompatibilityJudgeModel", "field", "(III)I"⟩, 22), (⟨"CompatibilityJudgeModel", "is", "(III)Z"⟩, 22), (⟨"CompatibilityJudgeModel", "method", "(III)I"⟩, 22), (⟨"CompatibilityJudgeModel", "above", "(III)Z"⟩, 22), (⟨"CompatibilityJudgeModel", "all", "(I)V"⟩, 22), (⟨"CompatibilityJudgeModel", "judge", "(I)V"⟩, 22), (⟨"CompatibilityJudgeModel", "tell", "(III)V"⟩, 22)]
theorem lw_r2 : ∀ q ∈ lw_privs_2, lw_okq q := List.forall_mem_cons.mpr ⟨lw_p16, List.forall_mem_cons.mpr ⟨lw_p17, List.forall_mem_cons.mpr ⟨lw_p18, List.forall_mem_cons.mpr ⟨lw_p19, List.forall_mem_cons.mpr ⟨lw_p20, List.forall_mem_cons.mpr ⟨lw_p21, List.forall_mem_cons.mpr ⟨lw_p22, List.forall_mem_cons.mpr ⟨lw_p23, List.forall_mem_cons.mpr ⟨lw_p24, List.forall_mem_cons.mpr ⟨lw_p25, List.forall_mem_cons.mpr ⟨lw_p26, List.forall_mem_cons.mpr ⟨lw_p27, List.forall_mem_cons.mpr ⟨lw_p28, List.forall_mem_cons.mpr ⟨lw_p29, List.forall_mem_cons.mpr ⟨lw_p30, List.forall_mem_cons.mpr ⟨lw_p31, fun _ h => absurd h List.not_mem_nil⟩⟩⟩⟩⟩⟩⟩⟩⟩⟩⟩⟩⟩⟩⟩⟩
theorem lw_p32 : lw_okq (⟨"CompatibilityJudgeModel", "members", "(II)V"⟩, 22) := ⟨⟨by decide +kernel, by decide +kernel⟩, List.mem_of_getElem? (i := 433) (by decide +kernel), List.mem_of_getElem? (i := 641) (by decide +kernel), List.mem_of_getElem? (i := 642) (by decide +kernel)⟩
theorem lw_p33 : lw_okq (⟨"CompatibilityJudgeModel", "breaks", "(IIII)Z"⟩, 22) := ⟨⟨by decide +kernel, by decide +kernel⟩, List.mem_of_getElem? (i := 433) (by decide +kernel), List.mem_of_getElem? (i := 645) (by decide +kernel), List.mem_of_getElem? (i := 646) (by decide +kernel)⟩
theorem lw_p34 : lw_okq (⟨"CompatibilityJudgeModel", "added", "(II)V"⟩, 22) := ⟨⟨by decide +kernel, by decide +kernel⟩, List.mem_of_getElem? (i := 433) (by decide +kernel), List.mem_of_getElem? (i := 649) (by decide +kernel), List.mem_of_getElem? (i := 650) (by decide +kernel)⟩
def lw_privs_3 : List (MethodName × Nat) := [(⟨"CompatibilityJudgeModel", "members", "(II)V"⟩, 22), (⟨"CompatibilityJudgeModel", "breaks", "(IIII)Z"⟩, 22), (⟨"CompatibilityJudgeModel", "added", "(II)V"⟩, 22)]
theorem lw_r3 : ∀ q ∈ lw_privs_3, lw_okq q := List.forall_mem_cons.mpr ⟨lw_p32, List.forall_mem_cons.mpr ⟨lw_p33, List.forall_mem_cons.mpr ⟨lw_p34, fun _ h => absurd h List.not_mem_nil⟩⟩⟩
def lw_privs : List (MethodName × Nat) := lw_privs_1 ++ (lw_privs_2 ++ (lw_privs_3))
def lw_tbl : List Cond := k2_sels lw_privs ++ tables_1
theorem lw_privs_ok : ∀ q ∈ lw_privs, lw_okq q := by
  show ∀ q ∈ lw_privs_1 ++ (lw_privs_2 ++ (lw_privs_3)), lw_okq q
  exact List.forall_mem_append.mpr ⟨lw_r1, List.forall_mem_append.mpr ⟨lw_r2, lw_r3⟩⟩
end
section
/-! NAMES. One list of words for all methods: zG, the good words of the tables. A method's words: its own code ahead of zG. -/
def zG : List Cond := lw_tbl.filter goodWord
theorem zin {w : Cond} (i : Nat) (h : (lw_tbl[i]? = some w) ∧ goodWord w = true) : w ∈ zG := List.mem_filter.mpr ⟨List.mem_of_getElem? h.1, h.2⟩
theorem zgood {w : Cond} (h : w ∈ zG) : (w.onTables && w.keeps) = true ∨ ∃ ty, w = .arrayClass ty := good_of_word (List.mem_filter.mp h).2
theorem zsub {a c : Cond} (h : c ∈ zG) : GoodIn (a :: zG) (c :: zG) := fun w hw => (List.mem_cons.mp hw).elim (fun e => by rw [e]; exact ⟨List.mem_cons_of_mem _ h, zgood h⟩) (fun q => ⟨List.mem_cons_of_mem _ q, zgood q⟩)
theorem zsubL {c : Cond} (h : c ∈ zG) : GoodIn lw_tbl (c :: zG) := fun w hw => (List.mem_cons.mp hw).elim (fun e => by rw [e]; exact ⟨(List.mem_filter.mp h).1, zgood h⟩) (fun q => ⟨(List.mem_filter.mp q).1, zgood q⟩)
theorem zmem {w c : Cond} (h : w ∈ zG) : w ∈ c :: zG := List.mem_cons_of_mem _ h
theorem zmemL {w : Cond} (h : w ∈ zG) : w ∈ lw_tbl := (List.mem_filter.mp h).1
def y_J_init : MethodName := ⟨"CompatibilityJudge", "<init>", "()V"⟩
abbrev b_J_init : ByteArray := prog_1_method_1_code
abbrev w_J_init : List Cond := .code y_J_init b_J_init 1 none :: zG
theorem co_J_init : Cond.code y_J_init b_J_init 1 none ∈ zG := zin 49 (by decide +kernel)
def y_B_init : MethodName := ⟨"CompatibilityJudge$Baseline", "<init>", "()V"⟩
abbrev b_B_init : ByteArray := prog_2_method_1_code
abbrev w_B_init : List Cond := .code y_B_init b_B_init 2 none :: zG
theorem co_B_init : Cond.code y_B_init b_B_init 2 none ∈ zG := zin 58 (by decide +kernel)
def y_T_init : MethodName := ⟨"CompatibilityJudge$Type", "<init>", "()V"⟩
abbrev b_T_init : ByteArray := prog_5_method_1_code
abbrev w_T_init : List Cond := .code y_T_init b_T_init 2 none :: zG
theorem co_T_init : Cond.code y_T_init b_T_init 2 none ∈ zG := zin 65 (by decide +kernel)
def y_M_init : MethodName := ⟨"CompatibilityJudge$Member", "<init>", "()V"⟩
abbrev b_M_init : ByteArray := prog_4_method_1_code
abbrev w_M_init : List Cond := .code y_M_init b_M_init 1 none :: zG
theorem co_M_init : Cond.code y_M_init b_M_init 1 none ∈ zG := zin 72 (by decide +kernel)
def y_C_init : MethodName := ⟨"CompatibilityJudge$Comparison", "<init>", "()V"⟩
abbrev b_C_init : ByteArray := prog_3_method_1_code
abbrev w_C_init : List Cond := .code y_C_init b_C_init 1 none :: zG
theorem co_C_init : Cond.code y_C_init b_C_init 1 none ∈ zG := zin 161 (by decide +kernel)
def y_J_type : MethodName := ⟨"CompatibilityJudge", "type", "(IIIII)I"⟩
abbrev b_J_type : ByteArray := prog_1_method_2_code
abbrev w_J_type : List Cond := .code y_J_type b_J_type 7 (some .int) :: zG
theorem co_J_type : Cond.code y_J_type b_J_type 7 (some .int) ∈ zG := zin 201 (by decide +kernel)
def y_J_isTypeOf : MethodName := ⟨"CompatibilityJudge", "isTypeOf", "(II)Z"⟩
abbrev b_J_isTypeOf : ByteArray := prog_1_method_21_code
abbrev w_J_isTypeOf : List Cond := .code y_J_isTypeOf b_J_isTypeOf 2 (some .boolean) :: zG
theorem co_J_isTypeOf : Cond.code y_J_isTypeOf b_J_isTypeOf 2 (some .boolean) ∈ zG := zin 204 (by decide +kernel)
def y_J_isWithin : MethodName := ⟨"CompatibilityJudge", "isWithin", "(II)Z"⟩
abbrev b_J_isWithin : ByteArray := prog_1_method_23_code
abbrev w_J_isWithin : List Cond := .code y_J_isWithin b_J_isWithin 2 (some .boolean) :: zG
theorem co_J_isWithin : Cond.code y_J_isWithin b_J_isWithin 2 (some .boolean) ∈ zG := zin 207 (by decide +kernel)
def y_J_isTypeAllowed : MethodName := ⟨"CompatibilityJudge", "isTypeAllowed", "(III)Z"⟩
abbrev b_J_isTypeAllowed : ByteArray := prog_1_method_25_code
abbrev w_J_isTypeAllowed : List Cond := .code y_J_isTypeAllowed b_J_isTypeAllowed 5 (some .boolean) :: zG
theorem co_J_isTypeAllowed : Cond.code y_J_isTypeAllowed b_J_isTypeAllowed 5 (some .boolean) ∈ zG := zin 210 (by decide +kernel)
def y_T_define : MethodName := ⟨"CompatibilityJudge$Type", "define", "(III)V"⟩
abbrev b_T_define : ByteArray := prog_5_method_2_code
abbrev w_T_define : List Cond := .code y_T_define b_T_define 4 none :: zG
theorem co_T_define : Cond.code y_T_define b_T_define 4 none ∈ zG := zin 214 (by decide +kernel)
def y_B_settle : MethodName := ⟨"CompatibilityJudge$Baseline", "settle", "()V"⟩
abbrev b_B_settle : ByteArray := prog_2_method_5_code
abbrev w_B_settle : List Cond := .code y_B_settle b_B_settle 2 none :: zG
theorem co_B_settle : Cond.code y_B_settle b_B_settle 2 none ∈ zG := zin 218 (by decide +kernel)
def y_B_isClass : MethodName := ⟨"CompatibilityJudge$Baseline", "isClass", "(I)Z"⟩
abbrev b_B_isClass : ByteArray := prog_2_method_7_code
abbrev w_B_isClass : List Cond := .code y_B_isClass b_B_isClass 2 (some .boolean) :: zG
theorem co_B_isClass : Cond.code y_B_isClass b_B_isClass 2 (some .boolean) ∈ zG := zin 222 (by decide +kernel)
def y_B_gatherSupertypes : MethodName := ⟨"CompatibilityJudge$Baseline", "gatherSupertypes", "(LCompatibilityJudge$Type;)I"⟩
abbrev b_B_gatherSupertypes : ByteArray := prog_2_method_6_code
abbrev w_B_gatherSupertypes : List Cond := .code y_B_gatherSupertypes b_B_gatherSupertypes 5 (some .int) :: zG
theorem co_B_gatherSupertypes : Cond.code y_B_gatherSupertypes b_B_gatherSupertypes 5 (some .int) ∈ zG := zin 227 (by decide +kernel)
def y_B_isInterface : MethodName := ⟨"CompatibilityJudge$Baseline", "isInterface", "(I)Z"⟩
abbrev b_B_isInterface : ByteArray := prog_2_method_8_code
abbrev w_B_isInterface : List Cond := .code y_B_isInterface b_B_isInterface 2 (some .boolean) :: zG
theorem co_B_isInterface : Cond.code y_B_isInterface b_B_isInterface 2 (some .boolean) ∈ zG := zin 231 (by decide +kernel)
def y_J_implement : MethodName := ⟨"CompatibilityJudge", "implement", "(III)I"⟩
abbrev b_J_implement : ByteArray := prog_1_method_3_code
abbrev w_J_implement : List Cond := .code y_J_implement b_J_implement 6 (some .int) :: zG
theorem co_J_implement : Cond.code y_J_implement b_J_implement 6 (some .int) ∈ zG := zin 235 (by decide +kernel)
def y_T_names : MethodName := ⟨"CompatibilityJudge$Type", "names", "(I)Z"⟩
abbrev b_T_names : ByteArray := prog_5_method_7_code
abbrev w_T_names : List Cond := .code y_T_names b_T_names 3 (some .boolean) :: zG
theorem co_T_names : Cond.code y_T_names b_T_names 3 (some .boolean) ∈ zG := zin 239 (by decide +kernel)
def y_T_addInterface : MethodName := ⟨"CompatibilityJudge$Type", "addInterface", "(I)V"⟩
abbrev b_T_addInterface : ByteArray := prog_5_method_8_code
abbrev w_T_addInterface : List Cond := .code y_T_addInterface b_T_addInterface 2 none :: zG
theorem co_T_addInterface : Cond.code y_T_addInterface b_T_addInterface 2 none ∈ zG := zin 243 (by decide +kernel)
def y_J_member : MethodName := ⟨"CompatibilityJudge", "member", "(IIIII)I"⟩
abbrev b_J_member : ByteArray := prog_1_method_4_code
abbrev w_J_member : List Cond := .code y_J_member b_J_member 7 (some .int) :: zG
theorem co_J_member : Cond.code y_J_member b_J_member 7 (some .int) ∈ zG := zin 247 (by decide +kernel)
def y_J_isKey : MethodName := ⟨"CompatibilityJudge", "isKey", "(II)Z"⟩
abbrev b_J_isKey : ByteArray := prog_1_method_22_code
abbrev w_J_isKey : List Cond := .code y_J_isKey b_J_isKey 2 (some .boolean) :: zG
theorem co_J_isKey : Cond.code y_J_isKey b_J_isKey 2 (some .boolean) ∈ zG := zin 250 (by decide +kernel)
def y_T_own : MethodName := ⟨"CompatibilityJudge$Type", "own", "(II)LCompatibilityJudge$Member;"⟩
abbrev b_T_own : ByteArray := prog_5_method_11_code
abbrev w_T_own : List Cond := .code y_T_own b_T_own 4 (some (.object "CompatibilityJudge$Member")) :: zG
theorem co_T_own : Cond.code y_T_own b_T_own 4 (some (.object "CompatibilityJudge$Member")) ∈ zG := zin 256 (by decide +kernel)
def y_J_isMemberAllowed : MethodName := ⟨"CompatibilityJudge", "isMemberAllowed", "(II)Z"⟩
abbrev b_J_isMemberAllowed : ByteArray := prog_1_method_26_code
abbrev w_J_isMemberAllowed : List Cond := .code y_J_isMemberAllowed b_J_isMemberAllowed 3 (some .boolean) :: zG
theorem co_J_isMemberAllowed : Cond.code y_J_isMemberAllowed b_J_isMemberAllowed 3 (some .boolean) ∈ zG := zin 259 (by decide +kernel)
def y_J_isAllowedInInterface : MethodName := ⟨"CompatibilityJudge", "isAllowedInInterface", "(II)Z"⟩
abbrev b_J_isAllowedInInterface : ByteArray := prog_1_method_27_code
abbrev w_J_isAllowedInInterface : List Cond := .code y_J_isAllowedInInterface b_J_isAllowedInInterface 3 (some .boolean) :: zG
theorem co_J_isAllowedInInterface : Cond.code y_J_isAllowedInInterface b_J_isAllowedInInterface 3 (some .boolean) ∈ zG := zin 262 (by decide +kernel)
def y_T_addMember : MethodName := ⟨"CompatibilityJudge$Type", "addMember", "(III)V"⟩
abbrev b_T_addMember : ByteArray := prog_5_method_9_code
abbrev w_T_addMember : List Cond := .code y_T_addMember b_T_addMember 4 none :: zG
theorem co_T_addMember : Cond.code y_T_addMember b_T_addMember 4 none ∈ zG := zin 266 (by decide +kernel)
def y_M_define : MethodName := ⟨"CompatibilityJudge$Member", "define", "(III)V"⟩
abbrev b_M_define : ByteArray := prog_4_method_2_code
abbrev w_M_define : List Cond := .code y_M_define b_M_define 4 none :: zG
theorem co_M_define : Cond.code y_M_define b_M_define 4 none ∈ zG := zin 270 (by decide +kernel)
def y_J_constant : MethodName := ⟨"CompatibilityJudge", "constant", "(IIII)I"⟩
abbrev b_J_constant : ByteArray := prog_1_method_5_code
abbrev w_J_constant : List Cond := .code y_J_constant b_J_constant 7 (some .int) :: zG
theorem co_J_constant : Cond.code y_J_constant b_J_constant 7 (some .int) ∈ zG := zin 274 (by decide +kernel)
def y_J_isMemberOf : MethodName := ⟨"CompatibilityJudge", "isMemberOf", "(III)Z"⟩
abbrev b_J_isMemberOf : ByteArray := prog_1_method_20_code
abbrev w_J_isMemberOf : List Cond := .code y_J_isMemberOf b_J_isMemberOf 4 (some .boolean) :: zG
theorem co_J_isMemberOf : Cond.code y_J_isMemberOf b_J_isMemberOf 4 (some .boolean) ∈ zG := zin 278 (by decide +kernel)
def y_J_remove : MethodName := ⟨"CompatibilityJudge", "remove", "(II)I"⟩
abbrev b_J_remove : ByteArray := prog_1_method_6_code
abbrev w_J_remove : List Cond := .code y_J_remove b_J_remove 3 (some .int) :: zG
theorem co_J_remove : Cond.code y_J_remove b_J_remove 3 (some .int) ∈ zG := zin 282 (by decide +kernel)
def y_T_clear : MethodName := ⟨"CompatibilityJudge$Type", "clear", "()V"⟩
abbrev b_T_clear : ByteArray := prog_5_method_3_code
abbrev w_T_clear : List Cond := .code y_T_clear b_T_clear 1 none :: zG
theorem co_T_clear : Cond.code y_T_clear b_T_clear 1 none ∈ zG := zin 286 (by decide +kernel)
def y_J_drop : MethodName := ⟨"CompatibilityJudge", "drop", "(III)I"⟩
abbrev b_J_drop : ByteArray := prog_1_method_7_code
abbrev w_J_drop : List Cond := .code y_J_drop b_J_drop 5 (some .int) :: zG
theorem co_J_drop : Cond.code y_J_drop b_J_drop 5 (some .int) ∈ zG := zin 290 (by decide +kernel)
def y_T_takeOut : MethodName := ⟨"CompatibilityJudge$Type", "takeOut", "(I)V"⟩
abbrev b_T_takeOut : ByteArray := prog_5_method_10_code
abbrev w_T_takeOut : List Cond := .code y_T_takeOut b_T_takeOut 3 none :: zG
theorem co_T_takeOut : Cond.code y_T_takeOut b_T_takeOut 3 none ∈ zG := zin 294 (by decide +kernel)
def y_M_become : MethodName := ⟨"CompatibilityJudge$Member", "become", "(LCompatibilityJudge$Member;)V"⟩
abbrev b_M_become : ByteArray := prog_4_method_3_code
abbrev w_M_become : List Cond := .code y_M_become b_M_become 2 none :: zG
theorem co_M_become : Cond.code y_M_become b_M_become 2 none ∈ zG := zin 298 (by decide +kernel)
def y_J_copy : MethodName := ⟨"CompatibilityJudge", "copy", "()I"⟩
abbrev b_J_copy : ByteArray := prog_1_method_8_code
abbrev w_J_copy : List Cond := .code y_J_copy b_J_copy 1 (some .int) :: zG
theorem co_J_copy : Cond.code y_J_copy b_J_copy 1 (some .int) ∈ zG := zin 302 (by decide +kernel)
def y_B_become : MethodName := ⟨"CompatibilityJudge$Baseline", "become", "(LCompatibilityJudge$Baseline;)V"⟩
abbrev b_B_become : ByteArray := prog_2_method_2_code
abbrev w_B_become : List Cond := .code y_B_become b_B_become 3 none :: zG
theorem co_B_become : Cond.code y_B_become b_B_become 3 none ∈ zG := zin 306 (by decide +kernel)
def y_T_become : MethodName := ⟨"CompatibilityJudge$Type", "become", "(LCompatibilityJudge$Type;)V"⟩
abbrev b_T_become : ByteArray := prog_5_method_4_code
abbrev w_T_become : List Cond := .code y_T_become b_T_become 3 none :: zG
theorem co_T_become : Cond.code y_T_become b_T_become 3 none ∈ zG := zin 310 (by decide +kernel)
def y_B_typeCount : MethodName := ⟨"CompatibilityJudge$Baseline", "typeCount", "()I"⟩
abbrev b_B_typeCount : ByteArray := prog_2_method_3_code
abbrev w_B_typeCount : List Cond := .code y_B_typeCount b_B_typeCount 3 (some .int) :: zG
theorem co_B_typeCount : Cond.code y_B_typeCount b_B_typeCount 3 (some .int) ∈ zG := zin 317 (by decide +kernel)
def y_J_swap : MethodName := ⟨"CompatibilityJudge", "swap", "()V"⟩
abbrev b_J_swap : ByteArray := prog_1_method_9_code
abbrev w_J_swap : List Cond := .code y_J_swap b_J_swap 2 none :: zG
theorem co_J_swap : Cond.code y_J_swap b_J_swap 2 none ∈ zG := zin 321 (by decide +kernel)
def y_J_suppress : MethodName := ⟨"CompatibilityJudge", "suppress", "(IIZ)I"⟩
abbrev b_J_suppress : ByteArray := prog_1_method_10_code
abbrev w_J_suppress : List Cond := .code y_J_suppress b_J_suppress 4 (some .int) :: zG
theorem co_J_suppress : Cond.code y_J_suppress b_J_suppress 4 (some .int) ∈ zG := zin 325 (by decide +kernel)
def y_J_isSuppressed : MethodName := ⟨"CompatibilityJudge", "isSuppressed", "(II)Z"⟩
abbrev b_J_isSuppressed : ByteArray := prog_1_method_18_code
abbrev w_J_isSuppressed : List Cond := .code y_J_isSuppressed b_J_isSuppressed 3 (some .boolean) :: zG
theorem co_J_isSuppressed : Cond.code y_J_isSuppressed b_J_isSuppressed 3 (some .boolean) ∈ zG := zin 329 (by decide +kernel)
def y_J_contains : MethodName := ⟨"CompatibilityJudge", "contains", "(II)Z"⟩
abbrev b_J_contains : ByteArray := prog_1_method_24_code
abbrev w_J_contains : List Cond := .code y_J_contains b_J_contains 2 (some .boolean) :: zG
theorem co_J_contains : Cond.code y_J_contains b_J_contains 2 (some .boolean) ∈ zG := zin 332 (by decide +kernel)
def y_J_supertypes : MethodName := ⟨"CompatibilityJudge", "supertypes", "(II)I"⟩
abbrev b_J_supertypes : ByteArray := prog_1_method_11_code
abbrev w_J_supertypes : List Cond := .code y_J_supertypes b_J_supertypes 3 (some .int) :: zG
theorem co_J_supertypes : Cond.code y_J_supertypes b_J_supertypes 3 (some .int) ∈ zG := zin 336 (by decide +kernel)
def y_J_look : MethodName := ⟨"CompatibilityJudge", "look", "(IIII)I"⟩
abbrev b_J_look : ByteArray := prog_1_method_12_code
abbrev w_J_look : List Cond := .code y_J_look b_J_look 5 (some .int) :: zG
theorem co_J_look : Cond.code y_J_look b_J_look 5 (some .int) ∈ zG := zin 340 (by decide +kernel)
def y_B_whereIs : MethodName := ⟨"CompatibilityJudge$Baseline", "whereIs", "(III)I"⟩
abbrev b_B_whereIs : ByteArray := prog_2_method_9_code
abbrev w_B_whereIs : List Cond := .code y_B_whereIs b_B_whereIs 4 (some .int) :: zG
theorem co_B_whereIs : Cond.code y_B_whereIs b_B_whereIs 4 (some .int) ∈ zG := zin 344 (by decide +kernel)
def y_B_whereIsField : MethodName := ⟨"CompatibilityJudge$Baseline", "whereIsField", "(II)I"⟩
abbrev b_B_whereIsField : ByteArray := prog_2_method_10_code
abbrev w_B_whereIsField : List Cond := .code y_B_whereIsField b_B_whereIsField 5 (some .int) :: zG
theorem co_B_whereIsField : Cond.code y_B_whereIsField b_B_whereIsField 5 (some .int) ∈ zG := zin 348 (by decide +kernel)
def y_B_fieldOwnerFor : MethodName := ⟨"CompatibilityJudge$Baseline", "fieldOwnerFor", "(II)I"⟩
abbrev b_B_fieldOwnerFor : ByteArray := prog_2_method_11_code
abbrev w_B_fieldOwnerFor : List Cond := .code y_B_fieldOwnerFor b_B_fieldOwnerFor 6 (some .int) :: zG
theorem co_B_fieldOwnerFor : Cond.code y_B_fieldOwnerFor b_B_fieldOwnerFor 6 (some .int) ∈ zG := zin 353 (by decide +kernel)
def y_B_whereIsMethod : MethodName := ⟨"CompatibilityJudge$Baseline", "whereIsMethod", "(II)I"⟩
abbrev b_B_whereIsMethod : ByteArray := prog_2_method_12_code
abbrev w_B_whereIsMethod : List Cond := .code y_B_whereIsMethod b_B_whereIsMethod 5 (some .int) :: zG
theorem co_B_whereIsMethod : Cond.code y_B_whereIsMethod b_B_whereIsMethod 5 (some .int) ∈ zG := zin 358 (by decide +kernel)
def y_B_whereIsInterfaceMethod : MethodName := ⟨"CompatibilityJudge$Baseline", "whereIsInterfaceMethod", "(II)I"⟩
abbrev b_B_whereIsInterfaceMethod : ByteArray := prog_2_method_13_code
abbrev w_B_whereIsInterfaceMethod : List Cond := .code y_B_whereIsInterfaceMethod b_B_whereIsInterfaceMethod 6 (some .int) :: zG
theorem co_B_whereIsInterfaceMethod : Cond.code y_B_whereIsInterfaceMethod b_B_whereIsInterfaceMethod 6 (some .int) ∈ zG := zin 362 (by decide +kernel)
def y_M_hasAny : MethodName := ⟨"CompatibilityJudge$Member", "hasAny", "(I)Z"⟩
abbrev b_M_hasAny : ByteArray := prog_4_method_4_code
abbrev w_M_hasAny : List Cond := .code y_M_hasAny b_M_hasAny 2 (some .boolean) :: zG
theorem co_M_hasAny : Cond.code y_M_hasAny b_M_hasAny 2 (some .boolean) ∈ zG := zin 366 (by decide +kernel)
def y_M_access : MethodName := ⟨"CompatibilityJudge$Member", "access", "()I"⟩
abbrev b_M_access : ByteArray := prog_4_method_5_code
abbrev w_M_access : List Cond := .code y_M_access b_M_access 1 (some .int) :: zG
theorem co_M_access : Cond.code y_M_access b_M_access 1 (some .int) ∈ zG := zin 370 (by decide +kernel)
def y_J_findings : MethodName := ⟨"CompatibilityJudge", "findings", "()I"⟩
abbrev b_J_findings : ByteArray := prog_1_method_13_code
abbrev w_J_findings : List Cond := .code y_J_findings b_J_findings 1 (some .int) :: zG
theorem co_J_findings : Cond.code y_J_findings b_J_findings 1 (some .int) ∈ zG := zin 374 (by decide +kernel)
def y_C_bringUpToDate : MethodName := ⟨"CompatibilityJudge$Comparison", "bringUpToDate", "(LCompatibilityJudge$Baseline;LCompatibilityJudge$Baseline;)V"⟩
abbrev b_C_bringUpToDate : ByteArray := prog_3_method_2_code
abbrev w_C_bringUpToDate : List Cond := .code y_C_bringUpToDate b_C_bringUpToDate 4 none :: zG
theorem co_C_bringUpToDate : Cond.code y_C_bringUpToDate b_C_bringUpToDate 4 none ∈ zG := zin 378 (by decide +kernel)
def y_T_isPublic : MethodName := ⟨"CompatibilityJudge$Type", "isPublic", "()Z"⟩
abbrev b_T_isPublic : ByteArray := prog_5_method_6_code
abbrev w_T_isPublic : List Cond := .code y_T_isPublic b_T_isPublic 1 (some .boolean) :: zG
theorem co_T_isPublic : Cond.code y_T_isPublic b_T_isPublic 1 (some .boolean) ∈ zG := zin 382 (by decide +kernel)
def y_T_hasAny : MethodName := ⟨"CompatibilityJudge$Type", "hasAny", "(I)Z"⟩
abbrev b_T_hasAny : ByteArray := prog_5_method_5_code
abbrev w_T_hasAny : List Cond := .code y_T_hasAny b_T_hasAny 2 (some .boolean) :: zG
theorem co_T_hasAny : Cond.code y_T_hasAny b_T_hasAny 2 (some .boolean) ∈ zG := zin 386 (by decide +kernel)
def y_C_judgeType : MethodName := ⟨"CompatibilityJudge$Comparison", "judgeType", "(LCompatibilityJudge$Baseline;LCompatibilityJudge$Baseline;I)V"⟩
abbrev b_C_judgeType : ByteArray := prog_3_method_4_code
abbrev w_C_judgeType : List Cond := .code y_C_judgeType b_C_judgeType 6 none :: zG
theorem co_C_judgeType : Cond.code y_C_judgeType b_C_judgeType 6 none ∈ zG := zin 390 (by decide +kernel)
def y_C_add : MethodName := ⟨"CompatibilityJudge$Comparison", "add", "(III)V"⟩
abbrev b_C_add : ByteArray := prog_3_method_3_code
abbrev w_C_add : List Cond := .code y_C_add b_C_add 4 none :: zG
theorem co_C_add : Cond.code y_C_add b_C_add 4 none ∈ zG := zin 394 (by decide +kernel)
def y_C_judgeHeader : MethodName := ⟨"CompatibilityJudge$Comparison", "judgeHeader", "(LCompatibilityJudge$Type;LCompatibilityJudge$Type;I)V"⟩
abbrev b_C_judgeHeader : ByteArray := prog_3_method_5_code
abbrev w_C_judgeHeader : List Cond := .code y_C_judgeHeader b_C_judgeHeader 6 none :: zG
theorem co_C_judgeHeader : Cond.code y_C_judgeHeader b_C_judgeHeader 6 none ∈ zG := zin 398 (by decide +kernel)
def y_C_findPartners : MethodName := ⟨"CompatibilityJudge$Comparison", "findPartners", "(LCompatibilityJudge$Type;LCompatibilityJudge$Baseline;I)V"⟩
abbrev b_C_findPartners : ByteArray := prog_3_method_8_code
abbrev w_C_findPartners : List Cond := .code y_C_findPartners b_C_findPartners 7 none :: zG
theorem co_C_findPartners : Cond.code y_C_findPartners b_C_findPartners 7 none ∈ zG := zin 404 (by decide +kernel)
def y_C_judgeOldMembers : MethodName := ⟨"CompatibilityJudge$Comparison", "judgeOldMembers", "(LCompatibilityJudge$Type;I)V"⟩
abbrev b_C_judgeOldMembers : ByteArray := prog_3_method_6_code
abbrev w_C_judgeOldMembers : List Cond := .code y_C_judgeOldMembers b_C_judgeOldMembers 6 none :: zG
theorem co_C_judgeOldMembers : Cond.code y_C_judgeOldMembers b_C_judgeOldMembers 6 none ∈ zG := zin 410 (by decide +kernel)
def y_M_isOpen : MethodName := ⟨"CompatibilityJudge$Member", "isOpen", "()Z"⟩
abbrev b_M_isOpen : ByteArray := prog_4_method_6_code
abbrev w_M_isOpen : List Cond := .code y_M_isOpen b_M_isOpen 1 (some .boolean) :: zG
theorem co_M_isOpen : Cond.code y_M_isOpen b_M_isOpen 1 (some .boolean) ∈ zG := zin 414 (by decide +kernel)
def y_C_breaksAsOld : MethodName := ⟨"CompatibilityJudge$Comparison", "breaksAsOld", "(ILCompatibilityJudge$Type;LCompatibilityJudge$Member;LCompatibilityJudge$Member;)Z"⟩
abbrev b_C_breaksAsOld : ByteArray := prog_3_method_9_code
abbrev w_C_breaksAsOld : List Cond := .code y_C_breaksAsOld b_C_breaksAsOld 4 (some .boolean) :: zG
theorem co_C_breaksAsOld : Cond.code y_C_breaksAsOld b_C_breaksAsOld 4 (some .boolean) ∈ zG := zin 418 (by decide +kernel)
def y_M_hasConstantOf : MethodName := ⟨"CompatibilityJudge$Member", "hasConstantOf", "(LCompatibilityJudge$Member;)Z"⟩
abbrev b_M_hasConstantOf : ByteArray := prog_4_method_7_code
abbrev w_M_hasConstantOf : List Cond := .code y_M_hasConstantOf b_M_hasConstantOf 2 (some .boolean) :: zG
theorem co_M_hasConstantOf : Cond.code y_M_hasConstantOf b_M_hasConstantOf 2 (some .boolean) ∈ zG := zin 424 (by decide +kernel)
def y_C_judgeNewMembers : MethodName := ⟨"CompatibilityJudge$Comparison", "judgeNewMembers", "(LCompatibilityJudge$Type;LCompatibilityJudge$Type;I)V"⟩
abbrev b_C_judgeNewMembers : ByteArray := prog_3_method_7_code
abbrev w_C_judgeNewMembers : List Cond := .code y_C_judgeNewMembers b_C_judgeNewMembers 7 none :: zG
theorem co_C_judgeNewMembers : Cond.code y_C_judgeNewMembers b_C_judgeNewMembers 7 none ∈ zG := zin 428 (by decide +kernel)
def y_C_breaksAsNew : MethodName := ⟨"CompatibilityJudge$Comparison", "breaksAsNew", "(ILCompatibilityJudge$Member;LCompatibilityJudge$Member;)Z"⟩
abbrev b_C_breaksAsNew : ByteArray := prog_3_method_10_code
abbrev w_C_breaksAsNew : List Cond := .code y_C_breaksAsNew b_C_breaksAsNew 3 (some .boolean) :: zG
theorem co_C_breaksAsNew : Cond.code y_C_breaksAsNew b_C_breaksAsNew 3 (some .boolean) ∈ zG := zin 431 (by decide +kernel)
def y_J_finding : MethodName := ⟨"CompatibilityJudge", "finding", "(II)I"⟩
abbrev b_J_finding : ByteArray := prog_1_method_14_code
abbrev w_J_finding : List Cond := .code y_J_finding b_J_finding 5 (some .int) :: zG
theorem co_J_finding : Cond.code y_J_finding b_J_finding 5 (some .int) ∈ zG := zin 435 (by decide +kernel)
def y_J_verdict : MethodName := ⟨"CompatibilityJudge", "verdict", "()I"⟩
abbrev b_J_verdict : ByteArray := prog_1_method_15_code
abbrev w_J_verdict : List Cond := .code y_J_verdict b_J_verdict 4 (some .int) :: zG
theorem co_J_verdict : Cond.code y_J_verdict b_J_verdict 4 (some .int) ∈ zG := zin 441 (by decide +kernel)
def y_J_byRule : MethodName := ⟨"CompatibilityJudge", "byRule", "(I)I"⟩
abbrev b_J_byRule : ByteArray := prog_1_method_16_code
abbrev w_J_byRule : List Cond := .code y_J_byRule b_J_byRule 4 (some .int) :: zG
theorem co_J_byRule : Cond.code y_J_byRule b_J_byRule 4 (some .int) ∈ zG := zin 448 (by decide +kernel)
def y_J_count : MethodName := ⟨"CompatibilityJudge", "count", "(I)I"⟩
abbrev b_J_count : ByteArray := prog_1_method_17_code
abbrev w_J_count : List Cond := .code y_J_count b_J_count 2 (some .int) :: zG
theorem co_J_count : Cond.code y_J_count b_J_count 2 (some .int) ∈ zG := zin 452 (by decide +kernel)
def y_B_memberCount : MethodName := ⟨"CompatibilityJudge$Baseline", "memberCount", "()I"⟩
abbrev b_B_memberCount : ByteArray := prog_2_method_4_code
abbrev w_B_memberCount : List Cond := .code y_B_memberCount b_B_memberCount 3 (some .int) :: zG
theorem co_B_memberCount : Cond.code y_B_memberCount b_B_memberCount 3 (some .int) ∈ zG := zin 456 (by decide +kernel)
def y_J_suppressionCount : MethodName := ⟨"CompatibilityJudge", "suppressionCount", "()I"⟩
abbrev b_J_suppressionCount : ByteArray := prog_1_method_19_code
abbrev w_J_suppressionCount : List Cond := .code y_J_suppressionCount b_J_suppressionCount 3 (some .int) :: zG
theorem co_J_suppressionCount : Cond.code y_J_suppressionCount b_J_suppressionCount 3 (some .int) ∈ zG := zin 460 (by decide +kernel)
def y_I_bitCount : MethodName := ⟨"java/lang/Integer", "bitCount", "(I)I"⟩
abbrev b_I_bitCount : ByteArray := prog_8_method_49_code
abbrev w_I_bitCount : List Cond := .code y_I_bitCount b_I_bitCount 1 (some .int) :: zG
theorem co_I_bitCount : Cond.code y_I_bitCount b_I_bitCount 1 (some .int) ∈ zG := zin 463 (by decide +kernel)
def y_R_init : MethodName := ⟨"CompatibilityJudgeModel", "<init>", "()V"⟩
abbrev b_R_init : ByteArray := prog_7_method_1_code
abbrev w_R_init : List Cond := .code y_R_init b_R_init 1 none :: zG
theorem co_R_init : Cond.code y_R_init b_R_init 1 none ∈ zG := zin 471 (by decide +kernel)
def y_R_type : MethodName := ⟨"CompatibilityJudgeModel", "type", "(IIIII)I"⟩
abbrev b_R_type : ByteArray := prog_7_method_4_code
abbrev w_R_type : List Cond := .code y_R_type b_R_type 7 (some .int) :: zG
theorem co_R_type : Cond.code y_R_type b_R_type 7 (some .int) ∈ zG := zin 544 (by decide +kernel)
def y_R_bad : MethodName := ⟨"CompatibilityJudgeModel", "bad", "(II)Z"⟩
abbrev b_R_bad : ByteArray := prog_7_method_3_code
abbrev w_R_bad : List Cond := .code y_R_bad b_R_bad 2 (some .boolean) :: zG
theorem co_R_bad : Cond.code y_R_bad b_R_bad 2 (some .boolean) ∈ zG := zin 547 (by decide +kernel)
def y_R_out : MethodName := ⟨"CompatibilityJudgeModel", "out", "(II)Z"⟩
abbrev b_R_out : ByteArray := prog_7_method_2_code
abbrev w_R_out : List Cond := .code y_R_out b_R_out 2 (some .boolean) :: zG
theorem co_R_out : Cond.code y_R_out b_R_out 2 (some .boolean) ∈ zG := zin 550 (by decide +kernel)
def y_R_implement : MethodName := ⟨"CompatibilityJudgeModel", "implement", "(III)I"⟩
abbrev b_R_implement : ByteArray := prog_7_method_5_code
abbrev w_R_implement : List Cond := .code y_R_implement b_R_implement 6 (some .int) :: zG
theorem co_R_implement : Cond.code y_R_implement b_R_implement 6 (some .int) ∈ zG := zin 554 (by decide +kernel)
def y_R_member : MethodName := ⟨"CompatibilityJudgeModel", "member", "(IIIII)I"⟩
abbrev b_R_member : ByteArray := prog_7_method_10_code
abbrev w_R_member : List Cond := .code y_R_member b_R_member 8 (some .int) :: zG
theorem co_R_member : Cond.code y_R_member b_R_member 8 (some .int) ∈ zG := zin 558 (by decide +kernel)
def y_R_badKey : MethodName := ⟨"CompatibilityJudgeModel", "badKey", "(II)Z"⟩
abbrev b_R_badKey : ByteArray := prog_7_method_6_code
abbrev w_R_badKey : List Cond := .code y_R_badKey b_R_badKey 2 (some .boolean) :: zG
theorem co_R_badKey : Cond.code y_R_badKey b_R_badKey 2 (some .boolean) ∈ zG := zin 561 (by decide +kernel)
def y_R_own : MethodName := ⟨"CompatibilityJudgeModel", "own", "(III)I"⟩
abbrev b_R_own : ByteArray := prog_7_method_7_code
abbrev w_R_own : List Cond := .code y_R_own b_R_own 5 (some .int) :: zG
theorem co_R_own : Cond.code y_R_own b_R_own 5 (some .int) ∈ zG := zin 565 (by decide +kernel)
def y_R_badFlags : MethodName := ⟨"CompatibilityJudgeModel", "badFlags", "(ZII)Z"⟩
abbrev b_R_badFlags : ByteArray := prog_7_method_9_code
abbrev w_R_badFlags : List Cond := .code y_R_badFlags b_R_badFlags 4 (some .boolean) :: zG
theorem co_R_badFlags : Cond.code y_R_badFlags b_R_badFlags 4 (some .boolean) ∈ zG := zin 568 (by decide +kernel)
def y_R_has : MethodName := ⟨"CompatibilityJudgeModel", "has", "(II)Z"⟩
abbrev b_R_has : ByteArray := prog_7_method_8_code
abbrev w_R_has : List Cond := .code y_R_has b_R_has 2 (some .boolean) :: zG
theorem co_R_has : Cond.code y_R_has b_R_has 2 (some .boolean) ∈ zG := zin 571 (by decide +kernel)
def y_R_constant : MethodName := ⟨"CompatibilityJudgeModel", "constant", "(IIII)I"⟩
abbrev b_R_constant : ByteArray := prog_7_method_12_code
abbrev w_R_constant : List Cond := .code y_R_constant b_R_constant 7 (some .int) :: zG
theorem co_R_constant : Cond.code y_R_constant b_R_constant 7 (some .int) ∈ zG := zin 575 (by decide +kernel)
def y_R_cell : MethodName := ⟨"CompatibilityJudgeModel", "cell", "(III)I"⟩
abbrev b_R_cell : ByteArray := prog_7_method_11_code
abbrev w_R_cell : List Cond := .code y_R_cell b_R_cell 5 (some .int) :: zG
theorem co_R_cell : Cond.code y_R_cell b_R_cell 5 (some .int) ∈ zG := zin 579 (by decide +kernel)
def y_R_remove : MethodName := ⟨"CompatibilityJudgeModel", "remove", "(II)I"⟩
abbrev b_R_remove : ByteArray := prog_7_method_13_code
abbrev w_R_remove : List Cond := .code y_R_remove b_R_remove 3 (some .int) :: zG
theorem co_R_remove : Cond.code y_R_remove b_R_remove 3 (some .int) ∈ zG := zin 583 (by decide +kernel)
def y_R_drop : MethodName := ⟨"CompatibilityJudgeModel", "drop", "(III)I"⟩
abbrev b_R_drop : ByteArray := prog_7_method_15_code
abbrev w_R_drop : List Cond := .code y_R_drop b_R_drop 7 (some .int) :: zG
theorem co_R_drop : Cond.code y_R_drop b_R_drop 7 (some .int) ∈ zG := zin 587 (by decide +kernel)
def y_R_copyCell : MethodName := ⟨"CompatibilityJudgeModel", "copyCell", "(II)V"⟩
abbrev b_R_copyCell : ByteArray := prog_7_method_14_code
abbrev w_R_copyCell : List Cond := .code y_R_copyCell b_R_copyCell 3 none :: zG
theorem co_R_copyCell : Cond.code y_R_copyCell b_R_copyCell 3 none ∈ zG := zin 591 (by decide +kernel)
def y_R_copy : MethodName := ⟨"CompatibilityJudgeModel", "copy", "()I"⟩
abbrev b_R_copy : ByteArray := prog_7_method_17_code
abbrev w_R_copy : List Cond := .code y_R_copy b_R_copy 2 (some .int) :: zG
theorem co_R_copy : Cond.code y_R_copy b_R_copy 2 (some .int) ∈ zG := zin 595 (by decide +kernel)
def y_R_copyRow : MethodName := ⟨"CompatibilityJudgeModel", "copyRow", "(II)V"⟩
abbrev b_R_copyRow : ByteArray := prog_7_method_16_code
abbrev w_R_copyRow : List Cond := .code y_R_copyRow b_R_copyRow 4 none :: zG
theorem co_R_copyRow : Cond.code y_R_copyRow b_R_copyRow 4 none ∈ zG := zin 599 (by decide +kernel)
def y_R_count : MethodName := ⟨"CompatibilityJudgeModel", "count", "(I)I"⟩
abbrev b_R_count : ByteArray := prog_7_method_42_code
abbrev w_R_count : List Cond := .code y_R_count b_R_count 5 (some .int) :: zG
theorem co_R_count : Cond.code y_R_count b_R_count 5 (some .int) ∈ zG := zin 603 (by decide +kernel)
def y_R_swap : MethodName := ⟨"CompatibilityJudgeModel", "swap", "()V"⟩
abbrev b_R_swap : ByteArray := prog_7_method_18_code
abbrev w_R_swap : List Cond := .code y_R_swap b_R_swap 8 none :: zG
theorem co_R_swap : Cond.code y_R_swap b_R_swap 8 none ∈ zG := zin 607 (by decide +kernel)
def y_R_copyHead : MethodName := ⟨"CompatibilityJudgeModel", "copyHead", "(II)V"⟩
abbrev b_R_copyHead : ByteArray := prog_7_method_19_code
abbrev w_R_copyHead : List Cond := .code y_R_copyHead b_R_copyHead 3 none :: zG
theorem co_R_copyHead : Cond.code y_R_copyHead b_R_copyHead 3 none ∈ zG := zin 611 (by decide +kernel)
def y_R_swapCell : MethodName := ⟨"CompatibilityJudgeModel", "swapCell", "(II)V"⟩
abbrev b_R_swapCell : ByteArray := prog_7_method_20_code
abbrev w_R_swapCell : List Cond := .code y_R_swapCell b_R_swapCell 8 none :: zG
theorem co_R_swapCell : Cond.code y_R_swapCell b_R_swapCell 8 none ∈ zG := zin 615 (by decide +kernel)
def y_R_suppress : MethodName := ⟨"CompatibilityJudgeModel", "suppress", "(IIZ)I"⟩
abbrev b_R_suppress : ByteArray := prog_7_method_21_code
abbrev w_R_suppress : List Cond := .code y_R_suppress b_R_suppress 5 (some .int) :: zG
theorem co_R_suppress : Cond.code y_R_suppress b_R_suppress 5 (some .int) ∈ zG := zin 619 (by decide +kernel)
def y_R_supertypes : MethodName := ⟨"CompatibilityJudgeModel", "supertypes", "(II)I"⟩
abbrev b_R_supertypes : ByteArray := prog_7_method_26_code
abbrev w_R_supertypes : List Cond := .code y_R_supertypes b_R_supertypes 3 (some .int) :: zG
theorem co_R_supertypes : Cond.code y_R_supertypes b_R_supertypes 3 (some .int) ∈ zG := zin 623 (by decide +kernel)
def y_R_set : MethodName := ⟨"CompatibilityJudgeModel", "set", "(II)I"⟩
abbrev b_R_set : ByteArray := prog_7_method_25_code
abbrev w_R_set : List Cond := .code y_R_set b_R_set 7 (some .int) :: zG
theorem co_R_set : Cond.code y_R_set b_R_set 7 (some .int) ∈ zG := zin 627 (by decide +kernel)
def y_R_direct : MethodName := ⟨"CompatibilityJudgeModel", "direct", "(III)Z"⟩
abbrev b_R_direct : ByteArray := prog_7_method_23_code
abbrev w_R_direct : List Cond := .code y_R_direct b_R_direct 6 (some .boolean) :: zG
theorem co_R_direct : Cond.code y_R_direct b_R_direct 6 (some .boolean) ∈ zG := zin 631 (by decide +kernel)
def y_R_look : MethodName := ⟨"CompatibilityJudgeModel", "look", "(IIII)I"⟩
abbrev b_R_look : ByteArray := prog_7_method_30_code
abbrev w_R_look : List Cond := .code y_R_look b_R_look 6 (some .int) :: zG
theorem co_R_look : Cond.code y_R_look b_R_look 6 (some .int) ∈ zG := zin 635 (by decide +kernel)
def y_R_find : MethodName := ⟨"CompatibilityJudgeModel", "find", "(IIII)I"⟩
abbrev b_R_find : ByteArray := prog_7_method_29_code
abbrev w_R_find : List Cond := .code y_R_find b_R_find 5 (some .int) :: zG
theorem co_R_find : Cond.code y_R_find b_R_find 5 (some .int) ∈ zG := zin 639 (by decide +kernel)
def y_R_field : MethodName := ⟨"CompatibilityJudgeModel", "field", "(III)I"⟩
abbrev b_R_field : ByteArray := prog_7_method_27_code
abbrev w_R_field : List Cond := .code y_R_field b_R_field 9 (some .int) :: zG
theorem co_R_field : Cond.code y_R_field b_R_field 9 (some .int) ∈ zG := zin 643 (by decide +kernel)
def y_R_is : MethodName := ⟨"CompatibilityJudgeModel", "is", "(III)Z"⟩
abbrev b_R_is : ByteArray := prog_7_method_22_code
abbrev w_R_is : List Cond := .code y_R_is b_R_is 4 (some .boolean) :: zG
theorem co_R_is : Cond.code y_R_is b_R_is 4 (some .boolean) ∈ zG := zin 647 (by decide +kernel)
def y_R_method : MethodName := ⟨"CompatibilityJudgeModel", "method", "(III)I"⟩
abbrev b_R_method : ByteArray := prog_7_method_28_code
abbrev w_R_method : List Cond := .code y_R_method b_R_method 8 (some .int) :: zG
theorem co_R_method : Cond.code y_R_method b_R_method 8 (some .int) ∈ zG := zin 651 (by decide +kernel)
def y_R_above : MethodName := ⟨"CompatibilityJudgeModel", "above", "(III)Z"⟩
abbrev b_R_above : ByteArray := prog_7_method_24_code
abbrev w_R_above : List Cond := .code y_R_above b_R_above 4 (some .boolean) :: zG
theorem co_R_above : Cond.code y_R_above b_R_above 4 (some .boolean) ∈ zG := zin 655 (by decide +kernel)
def y_R_findings : MethodName := ⟨"CompatibilityJudgeModel", "findings", "()I"⟩
abbrev b_R_findings : ByteArray := prog_7_method_38_code
abbrev w_R_findings : List Cond := .code y_R_findings b_R_findings 1 (some .int) :: zG
theorem co_R_findings : Cond.code y_R_findings b_R_findings 1 (some .int) ∈ zG := zin 659 (by decide +kernel)
def y_R_all : MethodName := ⟨"CompatibilityJudgeModel", "all", "(I)V"⟩
abbrev b_R_all : ByteArray := prog_7_method_37_code
abbrev w_R_all : List Cond := .code y_R_all b_R_all 3 none :: zG
theorem co_R_all : Cond.code y_R_all b_R_all 3 none ∈ zG := zin 663 (by decide +kernel)
def y_R_judge : MethodName := ⟨"CompatibilityJudgeModel", "judge", "(I)V"⟩
abbrev b_R_judge : ByteArray := prog_7_method_36_code
abbrev w_R_judge : List Cond := .code y_R_judge b_R_judge 4 none :: zG
theorem co_R_judge : Cond.code y_R_judge b_R_judge 4 none ∈ zG := zin 667 (by decide +kernel)
def y_R_tell : MethodName := ⟨"CompatibilityJudgeModel", "tell", "(III)V"⟩
abbrev b_R_tell : ByteArray := prog_7_method_32_code
abbrev w_R_tell : List Cond := .code y_R_tell b_R_tell 4 none :: zG
theorem co_R_tell : Cond.code y_R_tell b_R_tell 4 none ∈ zG := zin 671 (by decide +kernel)
def y_R_severity : MethodName := ⟨"CompatibilityJudgeModel", "severity", "(I)I"⟩
abbrev b_R_severity : ByteArray := prog_7_method_31_code
abbrev w_R_severity : List Cond := .code y_R_severity b_R_severity 1 (some .int) :: zG
theorem co_R_severity : Cond.code y_R_severity b_R_severity 1 (some .int) ∈ zG := zin 674 (by decide +kernel)
def y_R_members : MethodName := ⟨"CompatibilityJudgeModel", "members", "(II)V"⟩
abbrev b_R_members : ByteArray := prog_7_method_34_code
abbrev w_R_members : List Cond := .code y_R_members b_R_members 4 none :: zG
theorem co_R_members : Cond.code y_R_members b_R_members 4 none ∈ zG := zin 678 (by decide +kernel)
def y_R_breaks : MethodName := ⟨"CompatibilityJudgeModel", "breaks", "(IIII)Z"⟩
abbrev b_R_breaks : ByteArray := prog_7_method_33_code
abbrev w_R_breaks : List Cond := .code y_R_breaks b_R_breaks 7 (some .boolean) :: zG
theorem co_R_breaks : Cond.code y_R_breaks b_R_breaks 7 (some .boolean) ∈ zG := zin 682 (by decide +kernel)
def y_R_added : MethodName := ⟨"CompatibilityJudgeModel", "added", "(II)V"⟩
abbrev b_R_added : ByteArray := prog_7_method_35_code
abbrev w_R_added : List Cond := .code y_R_added b_R_added 7 none :: zG
theorem co_R_added : Cond.code y_R_added b_R_added 7 none ∈ zG := zin 686 (by decide +kernel)
def y_R_finding : MethodName := ⟨"CompatibilityJudgeModel", "finding", "(II)I"⟩
abbrev b_R_finding : ByteArray := prog_7_method_39_code
abbrev w_R_finding : List Cond := .code y_R_finding b_R_finding 3 (some .int) :: zG
theorem co_R_finding : Cond.code y_R_finding b_R_finding 3 (some .int) ∈ zG := zin 690 (by decide +kernel)
def y_R_verdict : MethodName := ⟨"CompatibilityJudgeModel", "verdict", "()I"⟩
abbrev b_R_verdict : ByteArray := prog_7_method_40_code
abbrev w_R_verdict : List Cond := .code y_R_verdict b_R_verdict 1 (some .int) :: zG
theorem co_R_verdict : Cond.code y_R_verdict b_R_verdict 1 (some .int) ∈ zG := zin 694 (by decide +kernel)
def y_R_byRule : MethodName := ⟨"CompatibilityJudgeModel", "byRule", "(I)I"⟩
abbrev b_R_byRule : ByteArray := prog_7_method_41_code
abbrev w_R_byRule : List Cond := .code y_R_byRule b_R_byRule 2 (some .int) :: zG
theorem co_R_byRule : Cond.code y_R_byRule b_R_byRule 2 (some .int) ∈ zG := zin 698 (by decide +kernel)
theorem co_O_init : Cond.code objectInit ⟨#[0xb1]⟩ 1 none ∈ zG := zin 52 (by decide +kernel)
theorem co_Mt_max : Cond.code Lib.Math.max.name Lib.Math.max.code 2 (some .int) ∈ zG := zin 444 (by decide +kernel)
theorem ii_L : Cond.initialized "CompatibilityJudgeLaw" ∈ zG := zin 35 (by decide +kernel)
theorem ii_J : Cond.initialized "CompatibilityJudge" ∈ zG := zin 36 (by decide +kernel)
theorem ii_B : Cond.initialized "CompatibilityJudge$Baseline" ∈ zG := zin 37 (by decide +kernel)
theorem ii_T : Cond.initialized "CompatibilityJudge$Type" ∈ zG := zin 38 (by decide +kernel)
theorem ii_M : Cond.initialized "CompatibilityJudge$Member" ∈ zG := zin 39 (by decide +kernel)
theorem ii_C : Cond.initialized "CompatibilityJudge$Comparison" ∈ zG := zin 40 (by decide +kernel)
theorem ii_R : Cond.initialized "CompatibilityJudgeModel" ∈ zG := zin 41 (by decide +kernel)
theorem ii_Sy : Cond.initialized "java/lang/System" ∈ zG := zin 42 (by decide +kernel)
theorem ii_Mt : Cond.initialized "java/lang/Math" ∈ zG := zin 43 (by decide +kernel)
theorem ii_I : Cond.initialized "java/lang/Integer" ∈ zG := zin 44 (by decide +kernel)
theorem in_J : Cond.instantiable "CompatibilityJudge" 3 ∈ zG := zin 46 (by decide +kernel)
theorem im_J_init : Cond.instanceMethod y_J_init ∈ zG := zin 48 (by decide +kernel)
theorem im_O_init : Cond.instanceMethod objectInit ∈ zG := zin 51 (by decide +kernel)
theorem ao_B : Cond.arrayOver (.object "CompatibilityJudge$Baseline") ∈ lw_tbl := List.mem_of_getElem? (i := 54) (by decide +kernel)
theorem in_B : Cond.instantiable "CompatibilityJudge$Baseline" 2 ∈ zG := zin 55 (by decide +kernel)
theorem im_B_init : Cond.instanceMethod y_B_init ∈ zG := zin 57 (by decide +kernel)
theorem ao_T : Cond.arrayOver (.object "CompatibilityJudge$Type") ∈ lw_tbl := List.mem_of_getElem? (i := 61) (by decide +kernel)
theorem in_T : Cond.instantiable "CompatibilityJudge$Type" 10 ∈ zG := zin 62 (by decide +kernel)
theorem im_T_init : Cond.instanceMethod y_T_init ∈ zG := zin 64 (by decide +kernel)
theorem ao_M : Cond.arrayOver (.object "CompatibilityJudge$Member") ∈ lw_tbl := List.mem_of_getElem? (i := 68) (by decide +kernel)
theorem in_M : Cond.instantiable "CompatibilityJudge$Member" 5 ∈ zG := zin 69 (by decide +kernel)
theorem im_M_init : Cond.instanceMethod y_M_init ∈ zG := zin 71 (by decide +kernel)
theorem ac_int : Cond.arrayClass .int ∈ zG := zin 98 (by decide +kernel)
theorem in_C : Cond.instantiable "CompatibilityJudge$Comparison" 6 ∈ zG := zin 158 (by decide +kernel)
theorem im_C_init : Cond.instanceMethod y_C_init ∈ zG := zin 160 (by decide +kernel)
theorem im_J_type : Cond.instanceMethod y_J_type ∈ zG := zin 199 (by decide +kernel)
theorem se_J_type : Cond.selects "CompatibilityJudge" y_J_type y_J_type ∈ zG := zin 200 (by decide +kernel)
theorem sm_J_isTypeOf : Cond.static y_J_isTypeOf ∈ zG := zin 203 (by decide +kernel)
theorem sm_J_isWithin : Cond.static y_J_isWithin ∈ zG := zin 206 (by decide +kernel)
theorem sm_J_isTypeAllowed : Cond.static y_J_isTypeAllowed ∈ zG := zin 209 (by decide +kernel)
theorem im_T_define : Cond.instanceMethod y_T_define ∈ zG := zin 212 (by decide +kernel)
theorem se_T_define : Cond.selects "CompatibilityJudge$Type" y_T_define y_T_define ∈ zG := zin 213 (by decide +kernel)
theorem im_B_settle : Cond.instanceMethod y_B_settle ∈ zG := zin 216 (by decide +kernel)
theorem se_B_settle : Cond.selects "CompatibilityJudge$Baseline" y_B_settle y_B_settle ∈ zG := zin 217 (by decide +kernel)
theorem im_B_isClass : Cond.instanceMethod y_B_isClass ∈ zG := zin 221 (by decide +kernel)
theorem im_B_gatherSupertypes : Cond.instanceMethod y_B_gatherSupertypes ∈ zG := zin 226 (by decide +kernel)
theorem im_B_isInterface : Cond.instanceMethod y_B_isInterface ∈ zG := zin 230 (by decide +kernel)
theorem im_J_implement : Cond.instanceMethod y_J_implement ∈ zG := zin 233 (by decide +kernel)
theorem se_J_implement : Cond.selects "CompatibilityJudge" y_J_implement y_J_implement ∈ zG := zin 234 (by decide +kernel)
theorem im_T_names : Cond.instanceMethod y_T_names ∈ zG := zin 237 (by decide +kernel)
theorem se_T_names : Cond.selects "CompatibilityJudge$Type" y_T_names y_T_names ∈ zG := zin 238 (by decide +kernel)
theorem im_T_addInterface : Cond.instanceMethod y_T_addInterface ∈ zG := zin 241 (by decide +kernel)
theorem se_T_addInterface : Cond.selects "CompatibilityJudge$Type" y_T_addInterface y_T_addInterface ∈ zG := zin 242 (by decide +kernel)
theorem im_J_member : Cond.instanceMethod y_J_member ∈ zG := zin 245 (by decide +kernel)
theorem se_J_member : Cond.selects "CompatibilityJudge" y_J_member y_J_member ∈ zG := zin 246 (by decide +kernel)
theorem sm_J_isKey : Cond.static y_J_isKey ∈ zG := zin 249 (by decide +kernel)
theorem ls_KEY_LIMITS : Cond.laysStatic "CompatibilityJudge" "KEY_LIMITS" "[I" ∈ lw_tbl := List.mem_of_getElem? (i := 252) (by decide +kernel)
theorem im_T_own : Cond.instanceMethod y_T_own ∈ zG := zin 254 (by decide +kernel)
theorem se_T_own : Cond.selects "CompatibilityJudge$Type" y_T_own y_T_own ∈ zG := zin 255 (by decide +kernel)
theorem sm_J_isMemberAllowed : Cond.static y_J_isMemberAllowed ∈ zG := zin 258 (by decide +kernel)
theorem sm_J_isAllowedInInterface : Cond.static y_J_isAllowedInInterface ∈ zG := zin 261 (by decide +kernel)
theorem im_T_addMember : Cond.instanceMethod y_T_addMember ∈ zG := zin 264 (by decide +kernel)
theorem se_T_addMember : Cond.selects "CompatibilityJudge$Type" y_T_addMember y_T_addMember ∈ zG := zin 265 (by decide +kernel)
theorem im_M_define : Cond.instanceMethod y_M_define ∈ zG := zin 268 (by decide +kernel)
theorem se_M_define : Cond.selects "CompatibilityJudge$Member" y_M_define y_M_define ∈ zG := zin 269 (by decide +kernel)
theorem im_J_constant : Cond.instanceMethod y_J_constant ∈ zG := zin 272 (by decide +kernel)
theorem se_J_constant : Cond.selects "CompatibilityJudge" y_J_constant y_J_constant ∈ zG := zin 273 (by decide +kernel)
theorem im_J_isMemberOf : Cond.instanceMethod y_J_isMemberOf ∈ zG := zin 277 (by decide +kernel)
theorem im_J_remove : Cond.instanceMethod y_J_remove ∈ zG := zin 280 (by decide +kernel)
theorem se_J_remove : Cond.selects "CompatibilityJudge" y_J_remove y_J_remove ∈ zG := zin 281 (by decide +kernel)
theorem im_T_clear : Cond.instanceMethod y_T_clear ∈ zG := zin 284 (by decide +kernel)
theorem se_T_clear : Cond.selects "CompatibilityJudge$Type" y_T_clear y_T_clear ∈ zG := zin 285 (by decide +kernel)
theorem im_J_drop : Cond.instanceMethod y_J_drop ∈ zG := zin 288 (by decide +kernel)
theorem se_J_drop : Cond.selects "CompatibilityJudge" y_J_drop y_J_drop ∈ zG := zin 289 (by decide +kernel)
theorem im_T_takeOut : Cond.instanceMethod y_T_takeOut ∈ zG := zin 292 (by decide +kernel)
theorem se_T_takeOut : Cond.selects "CompatibilityJudge$Type" y_T_takeOut y_T_takeOut ∈ zG := zin 293 (by decide +kernel)
theorem im_M_become : Cond.instanceMethod y_M_become ∈ zG := zin 296 (by decide +kernel)
theorem se_M_become : Cond.selects "CompatibilityJudge$Member" y_M_become y_M_become ∈ zG := zin 297 (by decide +kernel)
theorem im_J_copy : Cond.instanceMethod y_J_copy ∈ zG := zin 300 (by decide +kernel)
theorem se_J_copy : Cond.selects "CompatibilityJudge" y_J_copy y_J_copy ∈ zG := zin 301 (by decide +kernel)
theorem im_B_become : Cond.instanceMethod y_B_become ∈ zG := zin 304 (by decide +kernel)
theorem se_B_become : Cond.selects "CompatibilityJudge$Baseline" y_B_become y_B_become ∈ zG := zin 305 (by decide +kernel)
theorem im_T_become : Cond.instanceMethod y_T_become ∈ zG := zin 308 (by decide +kernel)
theorem se_T_become : Cond.selects "CompatibilityJudge$Type" y_T_become y_T_become ∈ zG := zin 309 (by decide +kernel)
theorem sm_Sy_arraycopy : Cond.static arraycopyName ∈ zG := zin 312 (by decide +kernel)
theorem nm_Sy_arraycopy : Cond.native arraycopyName ∈ zG := zin 313 (by decide +kernel)
theorem im_B_typeCount : Cond.instanceMethod y_B_typeCount ∈ zG := zin 315 (by decide +kernel)
theorem se_B_typeCount : Cond.selects "CompatibilityJudge$Baseline" y_B_typeCount y_B_typeCount ∈ zG := zin 316 (by decide +kernel)
theorem im_J_swap : Cond.instanceMethod y_J_swap ∈ zG := zin 319 (by decide +kernel)
theorem se_J_swap : Cond.selects "CompatibilityJudge" y_J_swap y_J_swap ∈ zG := zin 320 (by decide +kernel)
theorem im_J_suppress : Cond.instanceMethod y_J_suppress ∈ zG := zin 323 (by decide +kernel)
theorem se_J_suppress : Cond.selects "CompatibilityJudge" y_J_suppress y_J_suppress ∈ zG := zin 324 (by decide +kernel)
theorem im_J_isSuppressed : Cond.instanceMethod y_J_isSuppressed ∈ zG := zin 328 (by decide +kernel)
theorem sm_J_contains : Cond.static y_J_contains ∈ zG := zin 331 (by decide +kernel)
theorem im_J_supertypes : Cond.instanceMethod y_J_supertypes ∈ zG := zin 334 (by decide +kernel)
theorem se_J_supertypes : Cond.selects "CompatibilityJudge" y_J_supertypes y_J_supertypes ∈ zG := zin 335 (by decide +kernel)
theorem im_J_look : Cond.instanceMethod y_J_look ∈ zG := zin 338 (by decide +kernel)
theorem se_J_look : Cond.selects "CompatibilityJudge" y_J_look y_J_look ∈ zG := zin 339 (by decide +kernel)
theorem im_B_whereIs : Cond.instanceMethod y_B_whereIs ∈ zG := zin 342 (by decide +kernel)
theorem se_B_whereIs : Cond.selects "CompatibilityJudge$Baseline" y_B_whereIs y_B_whereIs ∈ zG := zin 343 (by decide +kernel)
theorem im_B_whereIsField : Cond.instanceMethod y_B_whereIsField ∈ zG := zin 347 (by decide +kernel)
theorem im_B_fieldOwnerFor : Cond.instanceMethod y_B_fieldOwnerFor ∈ zG := zin 352 (by decide +kernel)
theorem im_B_whereIsMethod : Cond.instanceMethod y_B_whereIsMethod ∈ zG := zin 357 (by decide +kernel)
theorem im_B_whereIsInterfaceMethod : Cond.instanceMethod y_B_whereIsInterfaceMethod ∈ zG := zin 361 (by decide +kernel)
theorem im_M_hasAny : Cond.instanceMethod y_M_hasAny ∈ zG := zin 364 (by decide +kernel)
theorem se_M_hasAny : Cond.selects "CompatibilityJudge$Member" y_M_hasAny y_M_hasAny ∈ zG := zin 365 (by decide +kernel)
theorem im_M_access : Cond.instanceMethod y_M_access ∈ zG := zin 368 (by decide +kernel)
theorem se_M_access : Cond.selects "CompatibilityJudge$Member" y_M_access y_M_access ∈ zG := zin 369 (by decide +kernel)
theorem im_J_findings : Cond.instanceMethod y_J_findings ∈ zG := zin 372 (by decide +kernel)
theorem se_J_findings : Cond.selects "CompatibilityJudge" y_J_findings y_J_findings ∈ zG := zin 373 (by decide +kernel)
theorem im_C_bringUpToDate : Cond.instanceMethod y_C_bringUpToDate ∈ zG := zin 376 (by decide +kernel)
theorem se_C_bringUpToDate : Cond.selects "CompatibilityJudge$Comparison" y_C_bringUpToDate y_C_bringUpToDate ∈ zG := zin 377 (by decide +kernel)
theorem im_T_isPublic : Cond.instanceMethod y_T_isPublic ∈ zG := zin 380 (by decide +kernel)
theorem se_T_isPublic : Cond.selects "CompatibilityJudge$Type" y_T_isPublic y_T_isPublic ∈ zG := zin 381 (by decide +kernel)
theorem im_T_hasAny : Cond.instanceMethod y_T_hasAny ∈ zG := zin 384 (by decide +kernel)
theorem se_T_hasAny : Cond.selects "CompatibilityJudge$Type" y_T_hasAny y_T_hasAny ∈ zG := zin 385 (by decide +kernel)
theorem im_C_judgeType : Cond.instanceMethod y_C_judgeType ∈ zG := zin 389 (by decide +kernel)
theorem im_C_add : Cond.instanceMethod y_C_add ∈ zG := zin 393 (by decide +kernel)
theorem im_C_judgeHeader : Cond.instanceMethod y_C_judgeHeader ∈ zG := zin 397 (by decide +kernel)
theorem im_C_findPartners : Cond.instanceMethod y_C_findPartners ∈ zG := zin 403 (by decide +kernel)
theorem im_C_judgeOldMembers : Cond.instanceMethod y_C_judgeOldMembers ∈ zG := zin 409 (by decide +kernel)
theorem im_M_isOpen : Cond.instanceMethod y_M_isOpen ∈ zG := zin 412 (by decide +kernel)
theorem se_M_isOpen : Cond.selects "CompatibilityJudge$Member" y_M_isOpen y_M_isOpen ∈ zG := zin 413 (by decide +kernel)
theorem sm_C_breaksAsOld : Cond.static y_C_breaksAsOld ∈ zG := zin 417 (by decide +kernel)
theorem im_M_hasConstantOf : Cond.instanceMethod y_M_hasConstantOf ∈ zG := zin 422 (by decide +kernel)
theorem se_M_hasConstantOf : Cond.selects "CompatibilityJudge$Member" y_M_hasConstantOf y_M_hasConstantOf ∈ zG := zin 423 (by decide +kernel)
theorem im_C_judgeNewMembers : Cond.instanceMethod y_C_judgeNewMembers ∈ zG := zin 427 (by decide +kernel)
theorem sm_C_breaksAsNew : Cond.static y_C_breaksAsNew ∈ zG := zin 430 (by decide +kernel)
theorem im_J_finding : Cond.instanceMethod y_J_finding ∈ zG := zin 433 (by decide +kernel)
theorem se_J_finding : Cond.selects "CompatibilityJudge" y_J_finding y_J_finding ∈ zG := zin 434 (by decide +kernel)
theorem ls_SEVERITIES : Cond.laysStatic "CompatibilityJudge" "SEVERITIES" "[I" ∈ lw_tbl := List.mem_of_getElem? (i := 437) (by decide +kernel)
theorem im_J_verdict : Cond.instanceMethod y_J_verdict ∈ zG := zin 439 (by decide +kernel)
theorem se_J_verdict : Cond.selects "CompatibilityJudge" y_J_verdict y_J_verdict ∈ zG := zin 440 (by decide +kernel)
theorem sm_Mt_max : Cond.static Lib.Math.max.name ∈ zG := zin 443 (by decide +kernel)
theorem im_J_byRule : Cond.instanceMethod y_J_byRule ∈ zG := zin 446 (by decide +kernel)
theorem se_J_byRule : Cond.selects "CompatibilityJudge" y_J_byRule y_J_byRule ∈ zG := zin 447 (by decide +kernel)
theorem im_J_count : Cond.instanceMethod y_J_count ∈ zG := zin 450 (by decide +kernel)
theorem se_J_count : Cond.selects "CompatibilityJudge" y_J_count y_J_count ∈ zG := zin 451 (by decide +kernel)
theorem im_B_memberCount : Cond.instanceMethod y_B_memberCount ∈ zG := zin 454 (by decide +kernel)
theorem se_B_memberCount : Cond.selects "CompatibilityJudge$Baseline" y_B_memberCount y_B_memberCount ∈ zG := zin 455 (by decide +kernel)
theorem im_J_suppressionCount : Cond.instanceMethod y_J_suppressionCount ∈ zG := zin 459 (by decide +kernel)
theorem sm_I_bitCount : Cond.static y_I_bitCount ∈ zG := zin 462 (by decide +kernel)
theorem cn_I_265 : Cond.constant "java/lang/Integer" 265 1431655765 ∈ zG := zin 464 (by decide +kernel)
theorem cn_I_266 : Cond.constant "java/lang/Integer" 266 858993459 ∈ zG := zin 465 (by decide +kernel)
theorem cn_I_267 : Cond.constant "java/lang/Integer" 267 252645135 ∈ zG := zin 466 (by decide +kernel)
theorem in_R : Cond.instantiable "CompatibilityJudgeModel" 22 ∈ zG := zin 468 (by decide +kernel)
theorem im_R_init : Cond.instanceMethod y_R_init ∈ zG := zin 470 (by decide +kernel)
theorem ac_boolean : Cond.arrayClass .boolean ∈ zG := zin 540 (by decide +kernel)
theorem im_R_type : Cond.instanceMethod y_R_type ∈ zG := zin 542 (by decide +kernel)
theorem se_R_type : Cond.selects "CompatibilityJudgeModel" y_R_type y_R_type ∈ zG := zin 543 (by decide +kernel)
theorem sm_R_bad : Cond.static y_R_bad ∈ zG := zin 546 (by decide +kernel)
theorem sm_R_out : Cond.static y_R_out ∈ zG := zin 549 (by decide +kernel)
theorem im_R_implement : Cond.instanceMethod y_R_implement ∈ zG := zin 552 (by decide +kernel)
theorem se_R_implement : Cond.selects "CompatibilityJudgeModel" y_R_implement y_R_implement ∈ zG := zin 553 (by decide +kernel)
theorem im_R_member : Cond.instanceMethod y_R_member ∈ zG := zin 556 (by decide +kernel)
theorem se_R_member : Cond.selects "CompatibilityJudgeModel" y_R_member y_R_member ∈ zG := zin 557 (by decide +kernel)
theorem sm_R_badKey : Cond.static y_R_badKey ∈ zG := zin 560 (by decide +kernel)
theorem im_R_own : Cond.instanceMethod y_R_own ∈ zG := zin 564 (by decide +kernel)
theorem sm_R_badFlags : Cond.static y_R_badFlags ∈ zG := zin 567 (by decide +kernel)
theorem sm_R_has : Cond.static y_R_has ∈ zG := zin 570 (by decide +kernel)
theorem im_R_constant : Cond.instanceMethod y_R_constant ∈ zG := zin 573 (by decide +kernel)
theorem se_R_constant : Cond.selects "CompatibilityJudgeModel" y_R_constant y_R_constant ∈ zG := zin 574 (by decide +kernel)
theorem im_R_cell : Cond.instanceMethod y_R_cell ∈ zG := zin 578 (by decide +kernel)
theorem im_R_remove : Cond.instanceMethod y_R_remove ∈ zG := zin 581 (by decide +kernel)
theorem se_R_remove : Cond.selects "CompatibilityJudgeModel" y_R_remove y_R_remove ∈ zG := zin 582 (by decide +kernel)
theorem im_R_drop : Cond.instanceMethod y_R_drop ∈ zG := zin 585 (by decide +kernel)
theorem se_R_drop : Cond.selects "CompatibilityJudgeModel" y_R_drop y_R_drop ∈ zG := zin 586 (by decide +kernel)
theorem im_R_copyCell : Cond.instanceMethod y_R_copyCell ∈ zG := zin 590 (by decide +kernel)
theorem im_R_copy : Cond.instanceMethod y_R_copy ∈ zG := zin 593 (by decide +kernel)
theorem se_R_copy : Cond.selects "CompatibilityJudgeModel" y_R_copy y_R_copy ∈ zG := zin 594 (by decide +kernel)
theorem im_R_copyRow : Cond.instanceMethod y_R_copyRow ∈ zG := zin 598 (by decide +kernel)
theorem im_R_count : Cond.instanceMethod y_R_count ∈ zG := zin 601 (by decide +kernel)
theorem se_R_count : Cond.selects "CompatibilityJudgeModel" y_R_count y_R_count ∈ zG := zin 602 (by decide +kernel)
theorem im_R_swap : Cond.instanceMethod y_R_swap ∈ zG := zin 605 (by decide +kernel)
theorem se_R_swap : Cond.selects "CompatibilityJudgeModel" y_R_swap y_R_swap ∈ zG := zin 606 (by decide +kernel)
theorem im_R_copyHead : Cond.instanceMethod y_R_copyHead ∈ zG := zin 610 (by decide +kernel)
theorem im_R_swapCell : Cond.instanceMethod y_R_swapCell ∈ zG := zin 614 (by decide +kernel)
theorem im_R_suppress : Cond.instanceMethod y_R_suppress ∈ zG := zin 617 (by decide +kernel)
theorem se_R_suppress : Cond.selects "CompatibilityJudgeModel" y_R_suppress y_R_suppress ∈ zG := zin 618 (by decide +kernel)
theorem im_R_supertypes : Cond.instanceMethod y_R_supertypes ∈ zG := zin 621 (by decide +kernel)
theorem se_R_supertypes : Cond.selects "CompatibilityJudgeModel" y_R_supertypes y_R_supertypes ∈ zG := zin 622 (by decide +kernel)
theorem im_R_set : Cond.instanceMethod y_R_set ∈ zG := zin 626 (by decide +kernel)
theorem im_R_direct : Cond.instanceMethod y_R_direct ∈ zG := zin 630 (by decide +kernel)
theorem im_R_look : Cond.instanceMethod y_R_look ∈ zG := zin 633 (by decide +kernel)
theorem se_R_look : Cond.selects "CompatibilityJudgeModel" y_R_look y_R_look ∈ zG := zin 634 (by decide +kernel)
theorem im_R_find : Cond.instanceMethod y_R_find ∈ zG := zin 638 (by decide +kernel)
theorem im_R_field : Cond.instanceMethod y_R_field ∈ zG := zin 642 (by decide +kernel)
theorem im_R_is : Cond.instanceMethod y_R_is ∈ zG := zin 646 (by decide +kernel)
theorem im_R_method : Cond.instanceMethod y_R_method ∈ zG := zin 650 (by decide +kernel)
theorem im_R_above : Cond.instanceMethod y_R_above ∈ zG := zin 654 (by decide +kernel)
theorem im_R_findings : Cond.instanceMethod y_R_findings ∈ zG := zin 657 (by decide +kernel)
theorem se_R_findings : Cond.selects "CompatibilityJudgeModel" y_R_findings y_R_findings ∈ zG := zin 658 (by decide +kernel)
theorem im_R_all : Cond.instanceMethod y_R_all ∈ zG := zin 662 (by decide +kernel)
theorem im_R_judge : Cond.instanceMethod y_R_judge ∈ zG := zin 666 (by decide +kernel)
theorem im_R_tell : Cond.instanceMethod y_R_tell ∈ zG := zin 670 (by decide +kernel)
theorem sm_R_severity : Cond.static y_R_severity ∈ zG := zin 673 (by decide +kernel)
theorem im_R_members : Cond.instanceMethod y_R_members ∈ zG := zin 677 (by decide +kernel)
theorem im_R_breaks : Cond.instanceMethod y_R_breaks ∈ zG := zin 681 (by decide +kernel)
theorem im_R_added : Cond.instanceMethod y_R_added ∈ zG := zin 685 (by decide +kernel)
theorem im_R_finding : Cond.instanceMethod y_R_finding ∈ zG := zin 688 (by decide +kernel)
theorem se_R_finding : Cond.selects "CompatibilityJudgeModel" y_R_finding y_R_finding ∈ zG := zin 689 (by decide +kernel)
theorem im_R_verdict : Cond.instanceMethod y_R_verdict ∈ zG := zin 692 (by decide +kernel)
theorem se_R_verdict : Cond.selects "CompatibilityJudgeModel" y_R_verdict y_R_verdict ∈ zG := zin 693 (by decide +kernel)
theorem im_R_byRule : Cond.instanceMethod y_R_byRule ∈ zG := zin 696 (by decide +kernel)
theorem se_R_byRule : Cond.selects "CompatibilityJudgeModel" y_R_byRule y_R_byRule ∈ zG := zin 697 (by decide +kernel)
theorem se_B_isClass : Cond.selects "CompatibilityJudge$Baseline" y_B_isClass y_B_isClass ∈ zG := zin 0 (by decide +kernel)
theorem se_B_gatherSupertypes : Cond.selects "CompatibilityJudge$Baseline" y_B_gatherSupertypes y_B_gatherSupertypes ∈ zG := zin 1 (by decide +kernel)
theorem se_B_isInterface : Cond.selects "CompatibilityJudge$Baseline" y_B_isInterface y_B_isInterface ∈ zG := zin 2 (by decide +kernel)
theorem se_J_isMemberOf : Cond.selects "CompatibilityJudge" y_J_isMemberOf y_J_isMemberOf ∈ zG := zin 3 (by decide +kernel)
theorem se_J_isSuppressed : Cond.selects "CompatibilityJudge" y_J_isSuppressed y_J_isSuppressed ∈ zG := zin 4 (by decide +kernel)
theorem se_B_whereIsField : Cond.selects "CompatibilityJudge$Baseline" y_B_whereIsField y_B_whereIsField ∈ zG := zin 5 (by decide +kernel)
theorem se_B_fieldOwnerFor : Cond.selects "CompatibilityJudge$Baseline" y_B_fieldOwnerFor y_B_fieldOwnerFor ∈ zG := zin 6 (by decide +kernel)
theorem se_B_whereIsMethod : Cond.selects "CompatibilityJudge$Baseline" y_B_whereIsMethod y_B_whereIsMethod ∈ zG := zin 7 (by decide +kernel)
theorem se_B_whereIsInterfaceMethod : Cond.selects "CompatibilityJudge$Baseline" y_B_whereIsInterfaceMethod y_B_whereIsInterfaceMethod ∈ zG := zin 8 (by decide +kernel)
theorem se_C_judgeType : Cond.selects "CompatibilityJudge$Comparison" y_C_judgeType y_C_judgeType ∈ zG := zin 9 (by decide +kernel)
theorem se_C_add : Cond.selects "CompatibilityJudge$Comparison" y_C_add y_C_add ∈ zG := zin 10 (by decide +kernel)
theorem se_C_judgeHeader : Cond.selects "CompatibilityJudge$Comparison" y_C_judgeHeader y_C_judgeHeader ∈ zG := zin 11 (by decide +kernel)
theorem se_C_findPartners : Cond.selects "CompatibilityJudge$Comparison" y_C_findPartners y_C_findPartners ∈ zG := zin 12 (by decide +kernel)
theorem se_C_judgeOldMembers : Cond.selects "CompatibilityJudge$Comparison" y_C_judgeOldMembers y_C_judgeOldMembers ∈ zG := zin 13 (by decide +kernel)
theorem se_C_judgeNewMembers : Cond.selects "CompatibilityJudge$Comparison" y_C_judgeNewMembers y_C_judgeNewMembers ∈ zG := zin 14 (by decide +kernel)
theorem se_J_suppressionCount : Cond.selects "CompatibilityJudge" y_J_suppressionCount y_J_suppressionCount ∈ zG := zin 15 (by decide +kernel)
theorem se_R_own : Cond.selects "CompatibilityJudgeModel" y_R_own y_R_own ∈ zG := zin 16 (by decide +kernel)
theorem se_R_cell : Cond.selects "CompatibilityJudgeModel" y_R_cell y_R_cell ∈ zG := zin 17 (by decide +kernel)
theorem se_R_copyCell : Cond.selects "CompatibilityJudgeModel" y_R_copyCell y_R_copyCell ∈ zG := zin 18 (by decide +kernel)
theorem se_R_copyRow : Cond.selects "CompatibilityJudgeModel" y_R_copyRow y_R_copyRow ∈ zG := zin 19 (by decide +kernel)
theorem se_R_copyHead : Cond.selects "CompatibilityJudgeModel" y_R_copyHead y_R_copyHead ∈ zG := zin 20 (by decide +kernel)
theorem se_R_swapCell : Cond.selects "CompatibilityJudgeModel" y_R_swapCell y_R_swapCell ∈ zG := zin 21 (by decide +kernel)
theorem se_R_set : Cond.selects "CompatibilityJudgeModel" y_R_set y_R_set ∈ zG := zin 22 (by decide +kernel)
theorem se_R_direct : Cond.selects "CompatibilityJudgeModel" y_R_direct y_R_direct ∈ zG := zin 23 (by decide +kernel)
theorem se_R_find : Cond.selects "CompatibilityJudgeModel" y_R_find y_R_find ∈ zG := zin 24 (by decide +kernel)
theorem se_R_field : Cond.selects "CompatibilityJudgeModel" y_R_field y_R_field ∈ zG := zin 25 (by decide +kernel)
theorem se_R_is : Cond.selects "CompatibilityJudgeModel" y_R_is y_R_is ∈ zG := zin 26 (by decide +kernel)
theorem se_R_method : Cond.selects "CompatibilityJudgeModel" y_R_method y_R_method ∈ zG := zin 27 (by decide +kernel)
theorem se_R_above : Cond.selects "CompatibilityJudgeModel" y_R_above y_R_above ∈ zG := zin 28 (by decide +kernel)
theorem se_R_all : Cond.selects "CompatibilityJudgeModel" y_R_all y_R_all ∈ zG := zin 29 (by decide +kernel)
theorem se_R_judge : Cond.selects "CompatibilityJudgeModel" y_R_judge y_R_judge ∈ zG := zin 30 (by decide +kernel)
theorem se_R_tell : Cond.selects "CompatibilityJudgeModel" y_R_tell y_R_tell ∈ zG := zin 31 (by decide +kernel)
theorem se_R_members : Cond.selects "CompatibilityJudgeModel" y_R_members y_R_members ∈ zG := zin 32 (by decide +kernel)
theorem se_R_breaks : Cond.selects "CompatibilityJudgeModel" y_R_breaks y_R_breaks ∈ zG := zin 33 (by decide +kernel)
theorem se_R_added : Cond.selects "CompatibilityJudgeModel" y_R_added y_R_added ∈ zG := zin 34 (by decide +kernel)
theorem lk_L_7 : Cond.classLink "CompatibilityJudgeLaw" 7 "CompatibilityJudge" ∈ zG := zin 45 (by decide +kernel)
theorem lk_L_9 : Cond.methodLink "CompatibilityJudgeLaw" 9 y_J_init ∈ zG := zin 47 (by decide +kernel)
theorem lk_J_3 : Cond.methodLink "CompatibilityJudge" 3 objectInit ∈ zG := zin 50 (by decide +kernel)
theorem lk_J_9 : Cond.classLink "CompatibilityJudge" 9 "CompatibilityJudge$Baseline" ∈ zG := zin 53 (by decide +kernel)
theorem lk_J_11 : Cond.methodLink "CompatibilityJudge" 11 y_B_init ∈ zG := zin 56 (by decide +kernel)
theorem lk_B_3 : Cond.methodLink "CompatibilityJudge$Baseline" 3 objectInit ∈ zG := zin 59 (by decide +kernel)
theorem lk_B_9 : Cond.classLink "CompatibilityJudge$Baseline" 9 "CompatibilityJudge$Type" ∈ zG := zin 60 (by decide +kernel)
theorem lk_B_17 : Cond.methodLink "CompatibilityJudge$Baseline" 17 y_T_init ∈ zG := zin 63 (by decide +kernel)
theorem lk_T_3 : Cond.methodLink "CompatibilityJudge$Type" 3 objectInit ∈ zG := zin 66 (by decide +kernel)
theorem lk_T_15 : Cond.classLink "CompatibilityJudge$Type" 15 "CompatibilityJudge$Member" ∈ zG := zin 67 (by decide +kernel)
theorem lk_T_21 : Cond.methodLinkNest "CompatibilityJudge$Type" 21 y_M_init "CompatibilityJudge" ∈ lw_tbl := List.mem_of_getElem? (i := 70) (by decide +kernel)
theorem lk_M_3 : Cond.methodLink "CompatibilityJudge$Member" 3 objectInit ∈ zG := zin 73 (by decide +kernel)
theorem lk_M_9 : Cond.fieldLink "CompatibilityJudge$Member" 9 "CompatibilityJudge$Member" "kind" "I" ∈ zG := zin 74 (by decide +kernel)
theorem lk_J_99 : Cond.fieldLink "CompatibilityJudge" 99 "CompatibilityJudge$Member" "kind" "I" ∈ zG := zin 75 (by decide +kernel)
theorem lk_C_96 : Cond.fieldLink "CompatibilityJudge$Comparison" 96 "CompatibilityJudge$Member" "kind" "I" ∈ zG := zin 76 (by decide +kernel)
theorem lk_T_66 : Cond.fieldLink "CompatibilityJudge$Type" 66 "CompatibilityJudge$Member" "kind" "I" ∈ zG := zin 77 (by decide +kernel)
theorem lk_M_15 : Cond.fieldLink "CompatibilityJudge$Member" 15 "CompatibilityJudge$Member" "key" "I" ∈ zG := zin 78 (by decide +kernel)
theorem lk_C_97 : Cond.fieldLink "CompatibilityJudge$Comparison" 97 "CompatibilityJudge$Member" "key" "I" ∈ zG := zin 79 (by decide +kernel)
theorem lk_T_67 : Cond.fieldLink "CompatibilityJudge$Type" 67 "CompatibilityJudge$Member" "key" "I" ∈ zG := zin 80 (by decide +kernel)
theorem lk_M_18 : Cond.fieldLink "CompatibilityJudge$Member" 18 "CompatibilityJudge$Member" "flags" "I" ∈ zG := zin 81 (by decide +kernel)
theorem lk_M_21 : Cond.fieldLink "CompatibilityJudge$Member" 21 "CompatibilityJudge$Member" "hasConstant" "Z" ∈ zG := zin 82 (by decide +kernel)
theorem lk_J_102 : Cond.fieldLink "CompatibilityJudge" 102 "CompatibilityJudge$Member" "hasConstant" "Z" ∈ zG := zin 83 (by decide +kernel)
theorem lk_C_117 : Cond.fieldLink "CompatibilityJudge$Comparison" 117 "CompatibilityJudge$Member" "hasConstant" "Z" ∈ zG := zin 84 (by decide +kernel)
theorem lk_M_25 : Cond.fieldLink "CompatibilityJudge$Member" 25 "CompatibilityJudge$Member" "constant" "I" ∈ zG := zin 85 (by decide +kernel)
theorem lk_J_105 : Cond.fieldLink "CompatibilityJudge" 105 "CompatibilityJudge$Member" "constant" "I" ∈ zG := zin 86 (by decide +kernel)
theorem lk_T_29 : Cond.fieldLink "CompatibilityJudge$Type" 29 "CompatibilityJudge$Type" "defined" "Z" ∈ zG := zin 99 (by decide +kernel)
theorem lk_J_38 : Cond.fieldLink "CompatibilityJudge" 38 "CompatibilityJudge$Type" "defined" "Z" ∈ zG := zin 100 (by decide +kernel)
theorem lk_B_26 : Cond.fieldLink "CompatibilityJudge$Baseline" 26 "CompatibilityJudge$Type" "defined" "Z" ∈ zG := zin 101 (by decide +kernel)
theorem lk_T_33 : Cond.fieldLink "CompatibilityJudge$Type" 33 "CompatibilityJudge$Type" "kind" "I" ∈ zG := zin 102 (by decide +kernel)
theorem lk_C_54 : Cond.fieldLink "CompatibilityJudge$Comparison" 54 "CompatibilityJudge$Type" "kind" "I" ∈ zG := zin 103 (by decide +kernel)
theorem lk_J_83 : Cond.fieldLink "CompatibilityJudge" 83 "CompatibilityJudge$Type" "kind" "I" ∈ zG := zin 104 (by decide +kernel)
theorem lk_B_64 : Cond.fieldLink "CompatibilityJudge$Baseline" 64 "CompatibilityJudge$Type" "kind" "I" ∈ zG := zin 105 (by decide +kernel)
theorem lk_T_36 : Cond.fieldLink "CompatibilityJudge$Type" 36 "CompatibilityJudge$Type" "flags" "I" ∈ zG := zin 106 (by decide +kernel)
theorem lk_T_22 : Cond.fieldLink "CompatibilityJudge$Type" 22 "CompatibilityJudge$Type" "parent" "I" ∈ zG := zin 107 (by decide +kernel)
theorem lk_B_34 : Cond.fieldLink "CompatibilityJudge$Baseline" 34 "CompatibilityJudge$Type" "parent" "I" ∈ zG := zin 108 (by decide +kernel)
theorem lk_T_9 : Cond.fieldLink "CompatibilityJudge$Type" 9 "CompatibilityJudge$Type" "interfaces" "[I" ∈ zG := zin 109 (by decide +kernel)
theorem lk_B_54 : Cond.fieldLink "CompatibilityJudge$Baseline" 54 "CompatibilityJudge$Type" "interfaces" "[I" ∈ zG := zin 110 (by decide +kernel)
theorem lk_T_39 : Cond.fieldLink "CompatibilityJudge$Type" 39 "CompatibilityJudge$Type" "interfaceCount" "I" ∈ zG := zin 111 (by decide +kernel)
theorem lk_J_58 : Cond.fieldLink "CompatibilityJudge" 58 "CompatibilityJudge$Type" "interfaceCount" "I" ∈ zG := zin 112 (by decide +kernel)
theorem lk_B_51 : Cond.fieldLink "CompatibilityJudge$Baseline" 51 "CompatibilityJudge$Type" "interfaceCount" "I" ∈ zG := zin 113 (by decide +kernel)
theorem lk_T_17 : Cond.fieldLink "CompatibilityJudge$Type" 17 "CompatibilityJudge$Type" "members" "[LCompatibilityJudge$Member;" ∈ zG := zin 114 (by decide +kernel)
theorem lk_J_95 : Cond.fieldLink "CompatibilityJudge" 95 "CompatibilityJudge$Type" "members" "[LCompatibilityJudge$Member;" ∈ zG := zin 115 (by decide +kernel)
theorem lk_C_86 : Cond.fieldLink "CompatibilityJudge$Comparison" 86 "CompatibilityJudge$Type" "members" "[LCompatibilityJudge$Member;" ∈ zG := zin 116 (by decide +kernel)
theorem lk_T_42 : Cond.fieldLink "CompatibilityJudge$Type" 42 "CompatibilityJudge$Type" "memberCount" "I" ∈ zG := zin 117 (by decide +kernel)
theorem lk_B_30 : Cond.fieldLink "CompatibilityJudge$Baseline" 30 "CompatibilityJudge$Type" "memberCount" "I" ∈ zG := zin 118 (by decide +kernel)
theorem lk_J_73 : Cond.fieldLink "CompatibilityJudge" 73 "CompatibilityJudge$Type" "memberCount" "I" ∈ zG := zin 119 (by decide +kernel)
theorem lk_C_83 : Cond.fieldLink "CompatibilityJudge$Comparison" 83 "CompatibilityJudge$Type" "memberCount" "I" ∈ zG := zin 120 (by decide +kernel)
theorem lk_T_26 : Cond.fieldLink "CompatibilityJudge$Type" 26 "CompatibilityJudge$Type" "superclass" "I" ∈ zG := zin 121 (by decide +kernel)
theorem lk_B_41 : Cond.fieldLink "CompatibilityJudge$Baseline" 41 "CompatibilityJudge$Type" "superclass" "I" ∈ zG := zin 122 (by decide +kernel)
theorem lk_T_55 : Cond.fieldLink "CompatibilityJudge$Type" 55 "CompatibilityJudge$Type" "supertypes" "I" ∈ zG := zin 123 (by decide +kernel)
theorem lk_C_76 : Cond.fieldLink "CompatibilityJudge$Comparison" 76 "CompatibilityJudge$Type" "supertypes" "I" ∈ zG := zin 124 (by decide +kernel)
theorem lk_B_48 : Cond.fieldLink "CompatibilityJudge$Baseline" 48 "CompatibilityJudge$Type" "supertypes" "I" ∈ zG := zin 125 (by decide +kernel)
theorem lk_J_125 : Cond.fieldLink "CompatibilityJudge" 125 "CompatibilityJudge$Type" "supertypes" "I" ∈ zG := zin 126 (by decide +kernel)
theorem lk_B_11 : Cond.fieldLink "CompatibilityJudge$Baseline" 11 "CompatibilityJudge$Baseline" "types" "[LCompatibilityJudge$Type;" ∈ zG := zin 148 (by decide +kernel)
theorem lk_C_35 : Cond.fieldLink "CompatibilityJudge$Comparison" 35 "CompatibilityJudge$Baseline" "types" "[LCompatibilityJudge$Type;" ∈ zG := zin 149 (by decide +kernel)
theorem lk_J_34 : Cond.fieldLink "CompatibilityJudge" 34 "CompatibilityJudge$Baseline" "types" "[LCompatibilityJudge$Type;" ∈ zG := zin 150 (by decide +kernel)
theorem lk_B_18 : Cond.fieldLink "CompatibilityJudge$Baseline" 18 "CompatibilityJudge$Baseline" "fieldOwners" "[I" ∈ zG := zin 151 (by decide +kernel)
theorem lk_J_16 : Cond.classLink "CompatibilityJudge" 16 "CompatibilityJudge$Comparison" ∈ zG := zin 157 (by decide +kernel)
theorem lk_J_18 : Cond.methodLink "CompatibilityJudge" 18 y_C_init ∈ zG := zin 159 (by decide +kernel)
theorem lk_C_3 : Cond.methodLink "CompatibilityJudge$Comparison" 3 objectInit ∈ zG := zin 162 (by decide +kernel)
theorem lk_C_21 : Cond.classLink "CompatibilityJudge$Comparison" 21 "CompatibilityJudge$Member" ∈ zG := zin 163 (by decide +kernel)
theorem lk_C_9 : Cond.fieldLink "CompatibilityJudge$Comparison" 9 "CompatibilityJudge$Comparison" "rules" "[I" ∈ zG := zin 164 (by decide +kernel)
theorem lk_J_139 : Cond.fieldLink "CompatibilityJudge" 139 "CompatibilityJudge$Comparison" "rules" "[I" ∈ zG := zin 165 (by decide +kernel)
theorem lk_C_15 : Cond.fieldLink "CompatibilityJudge$Comparison" 15 "CompatibilityJudge$Comparison" "types" "[I" ∈ zG := zin 166 (by decide +kernel)
theorem lk_J_142 : Cond.fieldLink "CompatibilityJudge" 142 "CompatibilityJudge$Comparison" "types" "[I" ∈ zG := zin 167 (by decide +kernel)
theorem lk_C_18 : Cond.fieldLink "CompatibilityJudge$Comparison" 18 "CompatibilityJudge$Comparison" "details" "[I" ∈ zG := zin 168 (by decide +kernel)
theorem lk_J_144 : Cond.fieldLink "CompatibilityJudge" 144 "CompatibilityJudge$Comparison" "details" "[I" ∈ zG := zin 169 (by decide +kernel)
theorem lk_C_31 : Cond.fieldLink "CompatibilityJudge$Comparison" 31 "CompatibilityJudge$Comparison" "size" "I" ∈ zG := zin 170 (by decide +kernel)
theorem lk_J_136 : Cond.fieldLink "CompatibilityJudge" 136 "CompatibilityJudge$Comparison" "size" "I" ∈ zG := zin 171 (by decide +kernel)
theorem lk_C_27 : Cond.fieldLink "CompatibilityJudge$Comparison" 27 "CompatibilityJudge$Comparison" "stale" "Z" ∈ zG := zin 172 (by decide +kernel)
theorem lk_J_55 : Cond.fieldLink "CompatibilityJudge" 55 "CompatibilityJudge$Comparison" "stale" "Z" ∈ zG := zin 173 (by decide +kernel)
theorem lk_C_23 : Cond.fieldLink "CompatibilityJudge$Comparison" 23 "CompatibilityJudge$Comparison" "partners" "[LCompatibilityJudge$Member;" ∈ zG := zin 174 (by decide +kernel)
theorem lk_J_12 : Cond.fieldLink "CompatibilityJudge" 12 "CompatibilityJudge" "baselines" "[LCompatibilityJudge$Baseline;" ∈ zG := zin 188 (by decide +kernel)
theorem lk_J_19 : Cond.fieldLink "CompatibilityJudge" 19 "CompatibilityJudge" "comparison" "LCompatibilityJudge$Comparison;" ∈ zG := zin 189 (by decide +kernel)
theorem lk_J_23 : Cond.fieldLink "CompatibilityJudge" 23 "CompatibilityJudge" "suppressed" "[I" ∈ zG := zin 190 (by decide +kernel)
theorem lk_L_13 : Cond.methodLink "CompatibilityJudgeLaw" 13 y_J_type ∈ zG := zin 198 (by decide +kernel)
theorem lk_J_27 : Cond.methodLink "CompatibilityJudge" 27 y_J_isTypeOf ∈ zG := zin 202 (by decide +kernel)
theorem lk_J_31 : Cond.methodLink "CompatibilityJudge" 31 y_J_isWithin ∈ zG := zin 205 (by decide +kernel)
theorem lk_J_44 : Cond.methodLink "CompatibilityJudge" 44 y_J_isTypeAllowed ∈ zG := zin 208 (by decide +kernel)
theorem lk_J_48 : Cond.methodLink "CompatibilityJudge" 48 y_T_define ∈ zG := zin 211 (by decide +kernel)
theorem lk_J_52 : Cond.methodLink "CompatibilityJudge" 52 y_B_settle ∈ zG := zin 215 (by decide +kernel)
theorem lk_B_37 : Cond.methodLink "CompatibilityJudge$Baseline" 37 y_B_isClass ∈ zG := zin 219 (by decide +kernel)
theorem lk_B_60 : Cond.methodLinkNest "CompatibilityJudge$Baseline" 60 y_J_isWithin "CompatibilityJudge" ∈ lw_tbl := List.mem_of_getElem? (i := 223) (by decide +kernel)
theorem lk_B_44 : Cond.methodLink "CompatibilityJudge$Baseline" 44 y_B_gatherSupertypes ∈ zG := zin 224 (by decide +kernel)
theorem lk_B_57 : Cond.methodLink "CompatibilityJudge$Baseline" 57 y_B_isInterface ∈ zG := zin 228 (by decide +kernel)
theorem lk_L_18 : Cond.methodLink "CompatibilityJudgeLaw" 18 y_J_implement ∈ zG := zin 232 (by decide +kernel)
theorem lk_J_62 : Cond.methodLink "CompatibilityJudge" 62 y_T_names ∈ zG := zin 236 (by decide +kernel)
theorem lk_J_66 : Cond.methodLink "CompatibilityJudge" 66 y_T_addInterface ∈ zG := zin 240 (by decide +kernel)
theorem lk_L_23 : Cond.methodLink "CompatibilityJudgeLaw" 23 y_J_member ∈ zG := zin 244 (by decide +kernel)
theorem lk_J_70 : Cond.methodLink "CompatibilityJudge" 70 y_J_isKey ∈ zG := zin 248 (by decide +kernel)
theorem lk_J_170 : Cond.fieldLink "CompatibilityJudge" 170 "CompatibilityJudge" "KEY_LIMITS" "[I" ∈ zG := zin 251 (by decide +kernel)
theorem lk_J_76 : Cond.methodLink "CompatibilityJudge" 76 y_T_own ∈ zG := zin 253 (by decide +kernel)
theorem lk_J_80 : Cond.methodLink "CompatibilityJudge" 80 y_J_isMemberAllowed ∈ zG := zin 257 (by decide +kernel)
theorem lk_J_86 : Cond.methodLink "CompatibilityJudge" 86 y_J_isAllowedInInterface ∈ zG := zin 260 (by decide +kernel)
theorem lk_J_89 : Cond.methodLink "CompatibilityJudge" 89 y_T_addMember ∈ zG := zin 263 (by decide +kernel)
theorem lk_T_62 : Cond.methodLink "CompatibilityJudge$Type" 62 y_M_define ∈ zG := zin 267 (by decide +kernel)
theorem lk_L_27 : Cond.methodLink "CompatibilityJudgeLaw" 27 y_J_constant ∈ zG := zin 271 (by decide +kernel)
theorem lk_J_92 : Cond.methodLink "CompatibilityJudge" 92 y_J_isMemberOf ∈ zG := zin 275 (by decide +kernel)
theorem lk_L_32 : Cond.methodLink "CompatibilityJudgeLaw" 32 y_J_remove ∈ zG := zin 279 (by decide +kernel)
theorem lk_J_108 : Cond.methodLink "CompatibilityJudge" 108 y_T_clear ∈ zG := zin 283 (by decide +kernel)
theorem lk_L_37 : Cond.methodLink "CompatibilityJudgeLaw" 37 y_J_drop ∈ zG := zin 287 (by decide +kernel)
theorem lk_J_111 : Cond.methodLink "CompatibilityJudge" 111 y_T_takeOut ∈ zG := zin 291 (by decide +kernel)
theorem lk_T_51 : Cond.methodLink "CompatibilityJudge$Type" 51 y_M_become ∈ zG := zin 295 (by decide +kernel)
theorem lk_L_41 : Cond.methodLink "CompatibilityJudgeLaw" 41 y_J_copy ∈ zG := zin 299 (by decide +kernel)
theorem lk_J_114 : Cond.methodLink "CompatibilityJudge" 114 y_B_become ∈ zG := zin 303 (by decide +kernel)
theorem lk_B_22 : Cond.methodLink "CompatibilityJudge$Baseline" 22 y_T_become ∈ zG := zin 307 (by decide +kernel)
theorem lk_T_45 : Cond.methodLink "CompatibilityJudge$Type" 45 arraycopyName ∈ zG := zin 311 (by decide +kernel)
theorem lk_J_118 : Cond.methodLink "CompatibilityJudge" 118 y_B_typeCount ∈ zG := zin 314 (by decide +kernel)
theorem lk_L_46 : Cond.methodLink "CompatibilityJudgeLaw" 46 y_J_swap ∈ zG := zin 318 (by decide +kernel)
theorem lk_L_50 : Cond.methodLink "CompatibilityJudgeLaw" 50 y_J_suppress ∈ zG := zin 322 (by decide +kernel)
theorem lk_J_122 : Cond.methodLink "CompatibilityJudge" 122 y_J_isSuppressed ∈ zG := zin 326 (by decide +kernel)
theorem lk_J_161 : Cond.methodLink "CompatibilityJudge" 161 y_J_contains ∈ zG := zin 330 (by decide +kernel)
theorem lk_L_55 : Cond.methodLink "CompatibilityJudgeLaw" 55 y_J_supertypes ∈ zG := zin 333 (by decide +kernel)
theorem lk_L_59 : Cond.methodLink "CompatibilityJudgeLaw" 59 y_J_look ∈ zG := zin 337 (by decide +kernel)
theorem lk_J_128 : Cond.methodLink "CompatibilityJudge" 128 y_B_whereIs ∈ zG := zin 341 (by decide +kernel)
theorem lk_B_67 : Cond.methodLink "CompatibilityJudge$Baseline" 67 y_B_whereIsField ∈ zG := zin 345 (by decide +kernel)
theorem lk_B_78 : Cond.methodLinkNest "CompatibilityJudge$Baseline" 78 y_J_contains "CompatibilityJudge" ∈ lw_tbl := List.mem_of_getElem? (i := 349) (by decide +kernel)
theorem lk_B_81 : Cond.methodLink "CompatibilityJudge$Baseline" 81 y_B_fieldOwnerFor ∈ zG := zin 350 (by decide +kernel)
theorem lk_B_74 : Cond.methodLink "CompatibilityJudge$Baseline" 74 y_T_own ∈ zG := zin 354 (by decide +kernel)
theorem lk_B_71 : Cond.methodLink "CompatibilityJudge$Baseline" 71 y_B_whereIsMethod ∈ zG := zin 355 (by decide +kernel)
theorem lk_B_84 : Cond.methodLink "CompatibilityJudge$Baseline" 84 y_B_whereIsInterfaceMethod ∈ zG := zin 359 (by decide +kernel)
theorem lk_B_87 : Cond.methodLink "CompatibilityJudge$Baseline" 87 y_M_hasAny ∈ zG := zin 363 (by decide +kernel)
theorem lk_B_92 : Cond.methodLink "CompatibilityJudge$Baseline" 92 y_M_access ∈ zG := zin 367 (by decide +kernel)
theorem lk_L_63 : Cond.methodLink "CompatibilityJudgeLaw" 63 y_J_findings ∈ zG := zin 371 (by decide +kernel)
theorem lk_J_132 : Cond.methodLink "CompatibilityJudge" 132 y_C_bringUpToDate ∈ zG := zin 375 (by decide +kernel)
theorem lk_C_40 : Cond.methodLink "CompatibilityJudge$Comparison" 40 y_T_isPublic ∈ zG := zin 379 (by decide +kernel)
theorem lk_T_58 : Cond.methodLink "CompatibilityJudge$Type" 58 y_T_hasAny ∈ zG := zin 383 (by decide +kernel)
theorem lk_C_46 : Cond.methodLink "CompatibilityJudge$Comparison" 46 y_C_judgeType ∈ zG := zin 387 (by decide +kernel)
theorem lk_C_50 : Cond.methodLink "CompatibilityJudge$Comparison" 50 y_C_add ∈ zG := zin 391 (by decide +kernel)
theorem lk_C_57 : Cond.methodLink "CompatibilityJudge$Comparison" 57 y_C_judgeHeader ∈ zG := zin 395 (by decide +kernel)
theorem lk_C_72 : Cond.methodLink "CompatibilityJudge$Comparison" 72 y_T_hasAny ∈ zG := zin 399 (by decide +kernel)
theorem lk_C_79 : Cond.methodLinkNest "CompatibilityJudge$Comparison" 79 y_J_contains "CompatibilityJudge" ∈ lw_tbl := List.mem_of_getElem? (i := 400) (by decide +kernel)
theorem lk_C_61 : Cond.methodLink "CompatibilityJudge$Comparison" 61 y_C_findPartners ∈ zG := zin 401 (by decide +kernel)
theorem lk_C_108 : Cond.methodLink "CompatibilityJudge$Comparison" 108 y_B_whereIs ∈ zG := zin 405 (by decide +kernel)
theorem lk_C_100 : Cond.methodLink "CompatibilityJudge$Comparison" 100 y_T_own ∈ zG := zin 406 (by decide +kernel)
theorem lk_C_65 : Cond.methodLink "CompatibilityJudge$Comparison" 65 y_C_judgeOldMembers ∈ zG := zin 407 (by decide +kernel)
theorem lk_C_89 : Cond.methodLink "CompatibilityJudge$Comparison" 89 y_M_isOpen ∈ zG := zin 411 (by decide +kernel)
theorem lk_M_28 : Cond.methodLink "CompatibilityJudge$Member" 28 y_M_access ∈ zG := zin 415 (by decide +kernel)
theorem lk_C_92 : Cond.methodLink "CompatibilityJudge$Comparison" 92 y_C_breaksAsOld ∈ zG := zin 416 (by decide +kernel)
theorem lk_C_112 : Cond.methodLink "CompatibilityJudge$Comparison" 112 y_M_access ∈ zG := zin 419 (by decide +kernel)
theorem lk_C_116 : Cond.methodLink "CompatibilityJudge$Comparison" 116 y_M_hasAny ∈ zG := zin 420 (by decide +kernel)
theorem lk_C_120 : Cond.methodLink "CompatibilityJudge$Comparison" 120 y_M_hasConstantOf ∈ zG := zin 421 (by decide +kernel)
theorem lk_C_69 : Cond.methodLink "CompatibilityJudge$Comparison" 69 y_C_judgeNewMembers ∈ zG := zin 425 (by decide +kernel)
theorem lk_C_104 : Cond.methodLink "CompatibilityJudge$Comparison" 104 y_C_breaksAsNew ∈ zG := zin 429 (by decide +kernel)
theorem lk_L_67 : Cond.methodLink "CompatibilityJudgeLaw" 67 y_J_finding ∈ zG := zin 432 (by decide +kernel)
theorem lk_J_147 : Cond.fieldLink "CompatibilityJudge" 147 "CompatibilityJudge" "SEVERITIES" "[I" ∈ zG := zin 436 (by decide +kernel)
theorem lk_L_71 : Cond.methodLink "CompatibilityJudgeLaw" 71 y_J_verdict ∈ zG := zin 438 (by decide +kernel)
theorem lk_J_150 : Cond.methodLink "CompatibilityJudge" 150 Lib.Math.max.name ∈ zG := zin 442 (by decide +kernel)
theorem lk_L_75 : Cond.methodLink "CompatibilityJudgeLaw" 75 y_J_byRule ∈ zG := zin 445 (by decide +kernel)
theorem lk_L_80 : Cond.methodLink "CompatibilityJudgeLaw" 80 y_J_count ∈ zG := zin 449 (by decide +kernel)
theorem lk_J_156 : Cond.methodLink "CompatibilityJudge" 156 y_B_memberCount ∈ zG := zin 453 (by decide +kernel)
theorem lk_J_158 : Cond.methodLink "CompatibilityJudge" 158 y_J_suppressionCount ∈ zG := zin 457 (by decide +kernel)
theorem lk_J_164 : Cond.methodLink "CompatibilityJudge" 164 y_I_bitCount ∈ zG := zin 461 (by decide +kernel)
theorem lk_L_10 : Cond.classLink "CompatibilityJudgeLaw" 10 "CompatibilityJudgeModel" ∈ zG := zin 467 (by decide +kernel)
theorem lk_L_12 : Cond.methodLink "CompatibilityJudgeLaw" 12 y_R_init ∈ zG := zin 469 (by decide +kernel)
theorem lk_R_1 : Cond.methodLink "CompatibilityJudgeModel" 1 objectInit ∈ zG := zin 472 (by decide +kernel)
theorem lk_R_7 : Cond.fieldLink "CompatibilityJudgeModel" 7 "CompatibilityJudgeModel" "defined" "[Z" ∈ zG := zin 473 (by decide +kernel)
theorem lk_R_13 : Cond.fieldLink "CompatibilityJudgeModel" 13 "CompatibilityJudgeModel" "kind" "[I" ∈ zG := zin 474 (by decide +kernel)
theorem lk_R_17 : Cond.fieldLink "CompatibilityJudgeModel" 17 "CompatibilityJudgeModel" "flags" "[I" ∈ zG := zin 475 (by decide +kernel)
theorem lk_R_20 : Cond.fieldLink "CompatibilityJudgeModel" 20 "CompatibilityJudgeModel" "parent" "[I" ∈ zG := zin 476 (by decide +kernel)
theorem lk_R_23 : Cond.fieldLink "CompatibilityJudgeModel" 23 "CompatibilityJudgeModel" "faces" "[I" ∈ zG := zin 477 (by decide +kernel)
theorem lk_R_26 : Cond.fieldLink "CompatibilityJudgeModel" 26 "CompatibilityJudgeModel" "face" "[I" ∈ zG := zin 478 (by decide +kernel)
theorem lk_R_29 : Cond.fieldLink "CompatibilityJudgeModel" 29 "CompatibilityJudgeModel" "members" "[I" ∈ zG := zin 479 (by decide +kernel)
theorem lk_R_32 : Cond.fieldLink "CompatibilityJudgeModel" 32 "CompatibilityJudgeModel" "mKind" "[I" ∈ zG := zin 480 (by decide +kernel)
theorem lk_R_35 : Cond.fieldLink "CompatibilityJudgeModel" 35 "CompatibilityJudgeModel" "mKey" "[I" ∈ zG := zin 481 (by decide +kernel)
theorem lk_R_38 : Cond.fieldLink "CompatibilityJudgeModel" 38 "CompatibilityJudgeModel" "mFlags" "[I" ∈ zG := zin 482 (by decide +kernel)
theorem lk_R_41 : Cond.fieldLink "CompatibilityJudgeModel" 41 "CompatibilityJudgeModel" "mFixed" "[Z" ∈ zG := zin 483 (by decide +kernel)
theorem lk_R_44 : Cond.fieldLink "CompatibilityJudgeModel" 44 "CompatibilityJudgeModel" "mValue" "[I" ∈ zG := zin 484 (by decide +kernel)
theorem lk_R_47 : Cond.fieldLink "CompatibilityJudgeModel" 47 "CompatibilityJudgeModel" "hushed" "[Z" ∈ zG := zin 485 (by decide +kernel)
theorem lk_R_50 : Cond.fieldLink "CompatibilityJudgeModel" 50 "CompatibilityJudgeModel" "seen" "[Z" ∈ zG := zin 486 (by decide +kernel)
theorem lk_R_53 : Cond.fieldLink "CompatibilityJudgeModel" 53 "CompatibilityJudgeModel" "line" "[I" ∈ zG := zin 487 (by decide +kernel)
theorem lk_R_128 : Cond.fieldLink "CompatibilityJudgeModel" 128 "CompatibilityJudgeModel" "wanted" "I" ∈ zG := zin 488 (by decide +kernel)
theorem lk_R_124 : Cond.fieldLink "CompatibilityJudgeModel" 124 "CompatibilityJudgeModel" "found" "I" ∈ zG := zin 489 (by decide +kernel)
theorem lk_R_131 : Cond.fieldLink "CompatibilityJudgeModel" 131 "CompatibilityJudgeModel" "gotRule" "I" ∈ zG := zin 490 (by decide +kernel)
theorem lk_R_134 : Cond.fieldLink "CompatibilityJudgeModel" 134 "CompatibilityJudgeModel" "gotType" "I" ∈ zG := zin 491 (by decide +kernel)
theorem lk_R_137 : Cond.fieldLink "CompatibilityJudgeModel" 137 "CompatibilityJudgeModel" "gotDetail" "I" ∈ zG := zin 492 (by decide +kernel)
theorem lk_R_143 : Cond.fieldLink "CompatibilityJudgeModel" 143 "CompatibilityJudgeModel" "worst" "I" ∈ zG := zin 493 (by decide +kernel)
theorem lk_R_56 : Cond.fieldLink "CompatibilityJudgeModel" 56 "CompatibilityJudgeModel" "loud" "[I" ∈ zG := zin 494 (by decide +kernel)
theorem lk_L_17 : Cond.methodLink "CompatibilityJudgeLaw" 17 y_R_type ∈ zG := zin 541 (by decide +kernel)
theorem lk_R_63 : Cond.methodLink "CompatibilityJudgeModel" 63 y_R_bad ∈ zG := zin 545 (by decide +kernel)
theorem lk_R_59 : Cond.methodLink "CompatibilityJudgeModel" 59 y_R_out ∈ zG := zin 548 (by decide +kernel)
theorem lk_L_22 : Cond.methodLink "CompatibilityJudgeLaw" 22 y_R_implement ∈ zG := zin 551 (by decide +kernel)
theorem lk_L_26 : Cond.methodLink "CompatibilityJudgeLaw" 26 y_R_member ∈ zG := zin 555 (by decide +kernel)
theorem lk_R_69 : Cond.methodLink "CompatibilityJudgeModel" 69 y_R_badKey ∈ zG := zin 559 (by decide +kernel)
theorem lk_R_72 : Cond.methodLink "CompatibilityJudgeModel" 72 y_R_own ∈ zG := zin 562 (by decide +kernel)
theorem lk_R_76 : Cond.methodLink "CompatibilityJudgeModel" 76 y_R_badFlags ∈ zG := zin 566 (by decide +kernel)
theorem lk_R_66 : Cond.methodLink "CompatibilityJudgeModel" 66 y_R_has ∈ zG := zin 569 (by decide +kernel)
theorem lk_L_31 : Cond.methodLink "CompatibilityJudgeLaw" 31 y_R_constant ∈ zG := zin 572 (by decide +kernel)
theorem lk_R_80 : Cond.methodLink "CompatibilityJudgeModel" 80 y_R_cell ∈ zG := zin 576 (by decide +kernel)
theorem lk_L_36 : Cond.methodLink "CompatibilityJudgeLaw" 36 y_R_remove ∈ zG := zin 580 (by decide +kernel)
theorem lk_L_40 : Cond.methodLink "CompatibilityJudgeLaw" 40 y_R_drop ∈ zG := zin 584 (by decide +kernel)
theorem lk_R_83 : Cond.methodLink "CompatibilityJudgeModel" 83 y_R_copyCell ∈ zG := zin 588 (by decide +kernel)
theorem lk_L_45 : Cond.methodLink "CompatibilityJudgeLaw" 45 y_R_copy ∈ zG := zin 592 (by decide +kernel)
theorem lk_R_87 : Cond.methodLink "CompatibilityJudgeModel" 87 y_R_copyRow ∈ zG := zin 596 (by decide +kernel)
theorem lk_R_90 : Cond.methodLink "CompatibilityJudgeModel" 90 y_R_count ∈ zG := zin 600 (by decide +kernel)
theorem lk_L_49 : Cond.methodLink "CompatibilityJudgeLaw" 49 y_R_swap ∈ zG := zin 604 (by decide +kernel)
theorem lk_R_94 : Cond.methodLink "CompatibilityJudgeModel" 94 y_R_copyHead ∈ zG := zin 608 (by decide +kernel)
theorem lk_R_97 : Cond.methodLink "CompatibilityJudgeModel" 97 y_R_swapCell ∈ zG := zin 612 (by decide +kernel)
theorem lk_L_54 : Cond.methodLink "CompatibilityJudgeLaw" 54 y_R_suppress ∈ zG := zin 616 (by decide +kernel)
theorem lk_L_58 : Cond.methodLink "CompatibilityJudgeLaw" 58 y_R_supertypes ∈ zG := zin 620 (by decide +kernel)
theorem lk_R_100 : Cond.methodLink "CompatibilityJudgeModel" 100 y_R_set ∈ zG := zin 624 (by decide +kernel)
theorem lk_R_104 : Cond.methodLink "CompatibilityJudgeModel" 104 y_R_direct ∈ zG := zin 628 (by decide +kernel)
theorem lk_L_62 : Cond.methodLink "CompatibilityJudgeLaw" 62 y_R_look ∈ zG := zin 632 (by decide +kernel)
theorem lk_R_120 : Cond.methodLink "CompatibilityJudgeModel" 120 y_R_find ∈ zG := zin 636 (by decide +kernel)
theorem lk_R_114 : Cond.methodLink "CompatibilityJudgeModel" 114 y_R_field ∈ zG := zin 640 (by decide +kernel)
theorem lk_R_108 : Cond.methodLink "CompatibilityJudgeModel" 108 y_R_is ∈ zG := zin 644 (by decide +kernel)
theorem lk_R_117 : Cond.methodLink "CompatibilityJudgeModel" 117 y_R_method ∈ zG := zin 648 (by decide +kernel)
theorem lk_R_111 : Cond.methodLink "CompatibilityJudgeModel" 111 y_R_above ∈ zG := zin 652 (by decide +kernel)
theorem lk_L_66 : Cond.methodLink "CompatibilityJudgeLaw" 66 y_R_findings ∈ zG := zin 656 (by decide +kernel)
theorem lk_R_163 : Cond.methodLink "CompatibilityJudgeModel" 163 y_R_all ∈ zG := zin 660 (by decide +kernel)
theorem lk_R_159 : Cond.methodLink "CompatibilityJudgeModel" 159 y_R_judge ∈ zG := zin 664 (by decide +kernel)
theorem lk_R_150 : Cond.methodLink "CompatibilityJudgeModel" 150 y_R_tell ∈ zG := zin 668 (by decide +kernel)
theorem lk_R_140 : Cond.methodLink "CompatibilityJudgeModel" 140 y_R_severity ∈ zG := zin 672 (by decide +kernel)
theorem lk_R_154 : Cond.methodLink "CompatibilityJudgeModel" 154 y_R_members ∈ zG := zin 675 (by decide +kernel)
theorem lk_R_146 : Cond.methodLink "CompatibilityJudgeModel" 146 y_R_breaks ∈ zG := zin 679 (by decide +kernel)
theorem lk_R_156 : Cond.methodLink "CompatibilityJudgeModel" 156 y_R_added ∈ zG := zin 683 (by decide +kernel)
theorem lk_L_70 : Cond.methodLink "CompatibilityJudgeLaw" 70 y_R_finding ∈ zG := zin 687 (by decide +kernel)
theorem lk_L_74 : Cond.methodLink "CompatibilityJudgeLaw" 74 y_R_verdict ∈ zG := zin 691 (by decide +kernel)
theorem lk_L_79 : Cond.methodLink "CompatibilityJudgeLaw" 79 y_R_byRule ∈ zG := zin 695 (by decide +kernel)
theorem lk_L_83 : Cond.methodLink "CompatibilityJudgeLaw" 83 y_R_count ∈ zG := zin 699 (by decide +kernel)
def uT_J : u_T := fun k => match k with
  | 0 => ("CompatibilityJudge", "baselines", "[LCompatibilityJudge$Baseline;", true)
  | 1 => ("CompatibilityJudge", "comparison", "LCompatibilityJudge$Comparison;", true)
  | _ => ("CompatibilityJudge", "suppressed", "[I", true)
def uY_J : Nat → FieldType := fun k => match k with
  | 0 => .array (.object "CompatibilityJudge$Baseline")
  | 1 => .object "CompatibilityJudge$Comparison"
  | _ => .array .int
theorem nm_J : ∀ a, a < 3 → ∀ b, b < 3 → a ≠ b → (uT_J a).2.1 ≠ (uT_J b).2.1 := by decide +kernel
theorem tk_J : ∀ k, k < 3 → parseFieldDescriptor (uT_J k).2.2.1 = some (uY_J k) := by decide +kernel
theorem uw_J : ∀ w ∈ u_ws "CompatibilityJudge" uT_J 3, w ∈ zG := by decide +kernel
def uT_B : u_T := fun k => match k with
  | 0 => ("CompatibilityJudge$Baseline", "types", "[LCompatibilityJudge$Type;", true)
  | _ => ("CompatibilityJudge$Baseline", "fieldOwners", "[I", true)
def uY_B : Nat → FieldType := fun k => match k with
  | 0 => .array (.object "CompatibilityJudge$Type")
  | _ => .array .int
theorem nm_B : ∀ a, a < 2 → ∀ b, b < 2 → a ≠ b → (uT_B a).2.1 ≠ (uT_B b).2.1 := by decide +kernel
theorem tk_B : ∀ k, k < 2 → parseFieldDescriptor (uT_B k).2.2.1 = some (uY_B k) := by decide +kernel
theorem uw_B : ∀ w ∈ u_ws "CompatibilityJudge$Baseline" uT_B 2, w ∈ zG := by decide +kernel
def uT_C : u_T := fun k => match k with
  | 0 => ("CompatibilityJudge$Comparison", "rules", "[I", true)
  | 1 => ("CompatibilityJudge$Comparison", "types", "[I", true)
  | 2 => ("CompatibilityJudge$Comparison", "details", "[I", true)
  | 3 => ("CompatibilityJudge$Comparison", "size", "I", false)
  | 4 => ("CompatibilityJudge$Comparison", "stale", "Z", false)
  | _ => ("CompatibilityJudge$Comparison", "partners", "[LCompatibilityJudge$Member;", true)
def uY_C : Nat → FieldType := fun k => match k with
  | 0 => .array .int
  | 1 => .array .int
  | 2 => .array .int
  | 3 => .int
  | 4 => .boolean
  | _ => .array (.object "CompatibilityJudge$Member")
theorem nm_C : ∀ a, a < 6 → ∀ b, b < 6 → a ≠ b → (uT_C a).2.1 ≠ (uT_C b).2.1 := by decide +kernel
theorem tk_C : ∀ k, k < 6 → parseFieldDescriptor (uT_C k).2.2.1 = some (uY_C k) := by decide +kernel
theorem uw_C : ∀ w ∈ u_ws "CompatibilityJudge$Comparison" uT_C 6, w ∈ zG := by decide +kernel
def uT_T : u_T := fun k => match k with
  | 0 => ("CompatibilityJudge$Type", "defined", "Z", false)
  | 1 => ("CompatibilityJudge$Type", "kind", "I", false)
  | 2 => ("CompatibilityJudge$Type", "flags", "I", false)
  | 3 => ("CompatibilityJudge$Type", "parent", "I", false)
  | 4 => ("CompatibilityJudge$Type", "interfaces", "[I", true)
  | 5 => ("CompatibilityJudge$Type", "interfaceCount", "I", false)
  | 6 => ("CompatibilityJudge$Type", "members", "[LCompatibilityJudge$Member;", true)
  | 7 => ("CompatibilityJudge$Type", "memberCount", "I", false)
  | 8 => ("CompatibilityJudge$Type", "superclass", "I", false)
  | _ => ("CompatibilityJudge$Type", "supertypes", "I", false)
def uY_T : Nat → FieldType := fun k => match k with
  | 0 => .boolean
  | 1 => .int
  | 2 => .int
  | 3 => .int
  | 4 => .array .int
  | 5 => .int
  | 6 => .array (.object "CompatibilityJudge$Member")
  | 7 => .int
  | 8 => .int
  | _ => .int
theorem nm_T : ∀ a, a < 10 → ∀ b, b < 10 → a ≠ b → (uT_T a).2.1 ≠ (uT_T b).2.1 := by decide +kernel
theorem tk_T : ∀ k, k < 10 → parseFieldDescriptor (uT_T k).2.2.1 = some (uY_T k) := by decide +kernel
theorem uw_T : ∀ w ∈ u_ws "CompatibilityJudge$Type" uT_T 10, w ∈ zG := by decide +kernel
def uT_M : u_T := fun k => match k with
  | 0 => ("CompatibilityJudge$Member", "kind", "I", false)
  | 1 => ("CompatibilityJudge$Member", "key", "I", false)
  | 2 => ("CompatibilityJudge$Member", "flags", "I", false)
  | 3 => ("CompatibilityJudge$Member", "hasConstant", "Z", false)
  | _ => ("CompatibilityJudge$Member", "constant", "I", false)
def uY_M : Nat → FieldType := fun k => match k with
  | 0 => .int
  | 1 => .int
  | 2 => .int
  | 3 => .boolean
  | _ => .int
theorem nm_M : ∀ a, a < 5 → ∀ b, b < 5 → a ≠ b → (uT_M a).2.1 ≠ (uT_M b).2.1 := by decide +kernel
theorem tk_M : ∀ k, k < 5 → parseFieldDescriptor (uT_M k).2.2.1 = some (uY_M k) := by decide +kernel
theorem uw_M : ∀ w ∈ u_ws "CompatibilityJudge$Member" uT_M 5, w ∈ zG := by decide +kernel
def uT_R : u_T := fun k => match k with
  | 0 => ("CompatibilityJudgeModel", "defined", "[Z", true)
  | 1 => ("CompatibilityJudgeModel", "kind", "[I", true)
  | 2 => ("CompatibilityJudgeModel", "flags", "[I", true)
  | 3 => ("CompatibilityJudgeModel", "parent", "[I", true)
  | 4 => ("CompatibilityJudgeModel", "faces", "[I", true)
  | 5 => ("CompatibilityJudgeModel", "face", "[I", true)
  | 6 => ("CompatibilityJudgeModel", "members", "[I", true)
  | 7 => ("CompatibilityJudgeModel", "mKind", "[I", true)
  | 8 => ("CompatibilityJudgeModel", "mKey", "[I", true)
  | 9 => ("CompatibilityJudgeModel", "mFlags", "[I", true)
  | 10 => ("CompatibilityJudgeModel", "mFixed", "[Z", true)
  | 11 => ("CompatibilityJudgeModel", "mValue", "[I", true)
  | 12 => ("CompatibilityJudgeModel", "hushed", "[Z", true)
  | 13 => ("CompatibilityJudgeModel", "seen", "[Z", true)
  | 14 => ("CompatibilityJudgeModel", "line", "[I", true)
  | 15 => ("CompatibilityJudgeModel", "wanted", "I", false)
  | 16 => ("CompatibilityJudgeModel", "found", "I", false)
  | 17 => ("CompatibilityJudgeModel", "gotRule", "I", false)
  | 18 => ("CompatibilityJudgeModel", "gotType", "I", false)
  | 19 => ("CompatibilityJudgeModel", "gotDetail", "I", false)
  | 20 => ("CompatibilityJudgeModel", "worst", "I", false)
  | _ => ("CompatibilityJudgeModel", "loud", "[I", true)
def uY_R : Nat → FieldType := fun k => match k with
  | 0 => .array .boolean
  | 1 => .array .int
  | 2 => .array .int
  | 3 => .array .int
  | 4 => .array .int
  | 5 => .array .int
  | 6 => .array .int
  | 7 => .array .int
  | 8 => .array .int
  | 9 => .array .int
  | 10 => .array .boolean
  | 11 => .array .int
  | 12 => .array .boolean
  | 13 => .array .boolean
  | 14 => .array .int
  | 15 => .int
  | 16 => .int
  | 17 => .int
  | 18 => .int
  | 19 => .int
  | 20 => .int
  | _ => .array .int
theorem nm_R : ∀ a, a < 22 → ∀ b, b < 22 → a ≠ b → (uT_R a).2.1 ≠ (uT_R b).2.1 := by decide +kernel
theorem tk_R : ∀ k, k < 22 → parseFieldDescriptor (uT_R k).2.2.1 = some (uY_R k) := by decide +kernel
theorem uw_R : ∀ w ∈ u_ws "CompatibilityJudgeModel" uT_R 22, w ∈ zG := by decide +kernel
theorem pd_J_init : y_J_init.cls = "CompatibilityJudge" ∧ y_J_init.cls ≠ "java/lang/invoke/MethodHandle" ∧ y_J_init.cls ≠ "java/lang/invoke/VarHandle" ∧ (parseMethodDescriptor y_J_init.desc).map (fun d => d.parameters.length) = some 0 := by decide +kernel
theorem pd_B_init : y_B_init.cls = "CompatibilityJudge$Baseline" ∧ y_B_init.cls ≠ "java/lang/invoke/MethodHandle" ∧ y_B_init.cls ≠ "java/lang/invoke/VarHandle" ∧ (parseMethodDescriptor y_B_init.desc).map (fun d => d.parameters.length) = some 0 := by decide +kernel
theorem pd_T_init : y_T_init.cls = "CompatibilityJudge$Type" ∧ y_T_init.cls ≠ "java/lang/invoke/MethodHandle" ∧ y_T_init.cls ≠ "java/lang/invoke/VarHandle" ∧ (parseMethodDescriptor y_T_init.desc).map (fun d => d.parameters.length) = some 0 := by decide +kernel
theorem pd_M_init : y_M_init.cls = "CompatibilityJudge$Member" ∧ y_M_init.cls ≠ "java/lang/invoke/MethodHandle" ∧ y_M_init.cls ≠ "java/lang/invoke/VarHandle" ∧ (parseMethodDescriptor y_M_init.desc).map (fun d => d.parameters.length) = some 0 := by decide +kernel
theorem pd_C_init : y_C_init.cls = "CompatibilityJudge$Comparison" ∧ y_C_init.cls ≠ "java/lang/invoke/MethodHandle" ∧ y_C_init.cls ≠ "java/lang/invoke/VarHandle" ∧ (parseMethodDescriptor y_C_init.desc).map (fun d => d.parameters.length) = some 0 := by decide +kernel
theorem pd_J_type : y_J_type.cls = "CompatibilityJudge" ∧ y_J_type.cls ≠ "java/lang/invoke/MethodHandle" ∧ y_J_type.cls ≠ "java/lang/invoke/VarHandle" ∧ (parseMethodDescriptor y_J_type.desc).map (fun d => d.parameters.length) = some 5 := by decide +kernel
theorem pd_J_isTypeOf : y_J_isTypeOf.cls = "CompatibilityJudge" ∧ y_J_isTypeOf.cls ≠ "java/lang/invoke/MethodHandle" ∧ y_J_isTypeOf.cls ≠ "java/lang/invoke/VarHandle" ∧ (parseMethodDescriptor y_J_isTypeOf.desc).map (fun d => d.parameters.length) = some 2 := by decide +kernel
theorem pd_J_isWithin : y_J_isWithin.cls = "CompatibilityJudge" ∧ y_J_isWithin.cls ≠ "java/lang/invoke/MethodHandle" ∧ y_J_isWithin.cls ≠ "java/lang/invoke/VarHandle" ∧ (parseMethodDescriptor y_J_isWithin.desc).map (fun d => d.parameters.length) = some 2 := by decide +kernel
theorem pd_J_isTypeAllowed : y_J_isTypeAllowed.cls = "CompatibilityJudge" ∧ y_J_isTypeAllowed.cls ≠ "java/lang/invoke/MethodHandle" ∧ y_J_isTypeAllowed.cls ≠ "java/lang/invoke/VarHandle" ∧ (parseMethodDescriptor y_J_isTypeAllowed.desc).map (fun d => d.parameters.length) = some 3 := by decide +kernel
theorem pd_T_define : y_T_define.cls = "CompatibilityJudge$Type" ∧ y_T_define.cls ≠ "java/lang/invoke/MethodHandle" ∧ y_T_define.cls ≠ "java/lang/invoke/VarHandle" ∧ (parseMethodDescriptor y_T_define.desc).map (fun d => d.parameters.length) = some 3 := by decide +kernel
theorem pd_B_settle : y_B_settle.cls = "CompatibilityJudge$Baseline" ∧ y_B_settle.cls ≠ "java/lang/invoke/MethodHandle" ∧ y_B_settle.cls ≠ "java/lang/invoke/VarHandle" ∧ (parseMethodDescriptor y_B_settle.desc).map (fun d => d.parameters.length) = some 0 := by decide +kernel
theorem pd_B_isClass : y_B_isClass.cls = "CompatibilityJudge$Baseline" ∧ y_B_isClass.cls ≠ "java/lang/invoke/MethodHandle" ∧ y_B_isClass.cls ≠ "java/lang/invoke/VarHandle" ∧ (parseMethodDescriptor y_B_isClass.desc).map (fun d => d.parameters.length) = some 1 := by decide +kernel
theorem pd_B_gatherSupertypes : y_B_gatherSupertypes.cls = "CompatibilityJudge$Baseline" ∧ y_B_gatherSupertypes.cls ≠ "java/lang/invoke/MethodHandle" ∧ y_B_gatherSupertypes.cls ≠ "java/lang/invoke/VarHandle" ∧ (parseMethodDescriptor y_B_gatherSupertypes.desc).map (fun d => d.parameters.length) = some 1 := by decide +kernel
theorem pd_B_isInterface : y_B_isInterface.cls = "CompatibilityJudge$Baseline" ∧ y_B_isInterface.cls ≠ "java/lang/invoke/MethodHandle" ∧ y_B_isInterface.cls ≠ "java/lang/invoke/VarHandle" ∧ (parseMethodDescriptor y_B_isInterface.desc).map (fun d => d.parameters.length) = some 1 := by decide +kernel
theorem pd_J_implement : y_J_implement.cls = "CompatibilityJudge" ∧ y_J_implement.cls ≠ "java/lang/invoke/MethodHandle" ∧ y_J_implement.cls ≠ "java/lang/invoke/VarHandle" ∧ (parseMethodDescriptor y_J_implement.desc).map (fun d => d.parameters.length) = some 3 := by decide +kernel
theorem pd_T_names : y_T_names.cls = "CompatibilityJudge$Type" ∧ y_T_names.cls ≠ "java/lang/invoke/MethodHandle" ∧ y_T_names.cls ≠ "java/lang/invoke/VarHandle" ∧ (parseMethodDescriptor y_T_names.desc).map (fun d => d.parameters.length) = some 1 := by decide +kernel
theorem pd_T_addInterface : y_T_addInterface.cls = "CompatibilityJudge$Type" ∧ y_T_addInterface.cls ≠ "java/lang/invoke/MethodHandle" ∧ y_T_addInterface.cls ≠ "java/lang/invoke/VarHandle" ∧ (parseMethodDescriptor y_T_addInterface.desc).map (fun d => d.parameters.length) = some 1 := by decide +kernel
theorem pd_J_member : y_J_member.cls = "CompatibilityJudge" ∧ y_J_member.cls ≠ "java/lang/invoke/MethodHandle" ∧ y_J_member.cls ≠ "java/lang/invoke/VarHandle" ∧ (parseMethodDescriptor y_J_member.desc).map (fun d => d.parameters.length) = some 5 := by decide +kernel
theorem pd_J_isKey : y_J_isKey.cls = "CompatibilityJudge" ∧ y_J_isKey.cls ≠ "java/lang/invoke/MethodHandle" ∧ y_J_isKey.cls ≠ "java/lang/invoke/VarHandle" ∧ (parseMethodDescriptor y_J_isKey.desc).map (fun d => d.parameters.length) = some 2 := by decide +kernel
theorem pd_T_own : y_T_own.cls = "CompatibilityJudge$Type" ∧ y_T_own.cls ≠ "java/lang/invoke/MethodHandle" ∧ y_T_own.cls ≠ "java/lang/invoke/VarHandle" ∧ (parseMethodDescriptor y_T_own.desc).map (fun d => d.parameters.length) = some 2 := by decide +kernel
theorem pd_J_isMemberAllowed : y_J_isMemberAllowed.cls = "CompatibilityJudge" ∧ y_J_isMemberAllowed.cls ≠ "java/lang/invoke/MethodHandle" ∧ y_J_isMemberAllowed.cls ≠ "java/lang/invoke/VarHandle" ∧ (parseMethodDescriptor y_J_isMemberAllowed.desc).map (fun d => d.parameters.length) = some 2 := by decide +kernel
theorem pd_J_isAllowedInInterface : y_J_isAllowedInInterface.cls = "CompatibilityJudge" ∧ y_J_isAllowedInInterface.cls ≠ "java/lang/invoke/MethodHandle" ∧ y_J_isAllowedInInterface.cls ≠ "java/lang/invoke/VarHandle" ∧ (parseMethodDescriptor y_J_isAllowedInInterface.desc).map (fun d => d.parameters.length) = some 2 := by decide +kernel
theorem pd_T_addMember : y_T_addMember.cls = "CompatibilityJudge$Type" ∧ y_T_addMember.cls ≠ "java/lang/invoke/MethodHandle" ∧ y_T_addMember.cls ≠ "java/lang/invoke/VarHandle" ∧ (parseMethodDescriptor y_T_addMember.desc).map (fun d => d.parameters.length) = some 3 := by decide +kernel
theorem pd_M_define : y_M_define.cls = "CompatibilityJudge$Member" ∧ y_M_define.cls ≠ "java/lang/invoke/MethodHandle" ∧ y_M_define.cls ≠ "java/lang/invoke/VarHandle" ∧ (parseMethodDescriptor y_M_define.desc).map (fun d => d.parameters.length) = some 3 := by decide +kernel
theorem pd_J_constant : y_J_constant.cls = "CompatibilityJudge" ∧ y_J_constant.cls ≠ "java/lang/invoke/MethodHandle" ∧ y_J_constant.cls ≠ "java/lang/invoke/VarHandle" ∧ (parseMethodDescriptor y_J_constant.desc).map (fun d => d.parameters.length) = some 4 := by decide +kernel
theorem pd_J_isMemberOf : y_J_isMemberOf.cls = "CompatibilityJudge" ∧ y_J_isMemberOf.cls ≠ "java/lang/invoke/MethodHandle" ∧ y_J_isMemberOf.cls ≠ "java/lang/invoke/VarHandle" ∧ (parseMethodDescriptor y_J_isMemberOf.desc).map (fun d => d.parameters.length) = some 3 := by decide +kernel
theorem pd_J_remove : y_J_remove.cls = "CompatibilityJudge" ∧ y_J_remove.cls ≠ "java/lang/invoke/MethodHandle" ∧ y_J_remove.cls ≠ "java/lang/invoke/VarHandle" ∧ (parseMethodDescriptor y_J_remove.desc).map (fun d => d.parameters.length) = some 2 := by decide +kernel
theorem pd_T_clear : y_T_clear.cls = "CompatibilityJudge$Type" ∧ y_T_clear.cls ≠ "java/lang/invoke/MethodHandle" ∧ y_T_clear.cls ≠ "java/lang/invoke/VarHandle" ∧ (parseMethodDescriptor y_T_clear.desc).map (fun d => d.parameters.length) = some 0 := by decide +kernel
theorem pd_J_drop : y_J_drop.cls = "CompatibilityJudge" ∧ y_J_drop.cls ≠ "java/lang/invoke/MethodHandle" ∧ y_J_drop.cls ≠ "java/lang/invoke/VarHandle" ∧ (parseMethodDescriptor y_J_drop.desc).map (fun d => d.parameters.length) = some 3 := by decide +kernel
theorem pd_T_takeOut : y_T_takeOut.cls = "CompatibilityJudge$Type" ∧ y_T_takeOut.cls ≠ "java/lang/invoke/MethodHandle" ∧ y_T_takeOut.cls ≠ "java/lang/invoke/VarHandle" ∧ (parseMethodDescriptor y_T_takeOut.desc).map (fun d => d.parameters.length) = some 1 := by decide +kernel
theorem pd_M_become : y_M_become.cls = "CompatibilityJudge$Member" ∧ y_M_become.cls ≠ "java/lang/invoke/MethodHandle" ∧ y_M_become.cls ≠ "java/lang/invoke/VarHandle" ∧ (parseMethodDescriptor y_M_become.desc).map (fun d => d.parameters.length) = some 1 := by decide +kernel
theorem pd_J_copy : y_J_copy.cls = "CompatibilityJudge" ∧ y_J_copy.cls ≠ "java/lang/invoke/MethodHandle" ∧ y_J_copy.cls ≠ "java/lang/invoke/VarHandle" ∧ (parseMethodDescriptor y_J_copy.desc).map (fun d => d.parameters.length) = some 0 := by decide +kernel
theorem pd_B_become : y_B_become.cls = "CompatibilityJudge$Baseline" ∧ y_B_become.cls ≠ "java/lang/invoke/MethodHandle" ∧ y_B_become.cls ≠ "java/lang/invoke/VarHandle" ∧ (parseMethodDescriptor y_B_become.desc).map (fun d => d.parameters.length) = some 1 := by decide +kernel
theorem pd_T_become : y_T_become.cls = "CompatibilityJudge$Type" ∧ y_T_become.cls ≠ "java/lang/invoke/MethodHandle" ∧ y_T_become.cls ≠ "java/lang/invoke/VarHandle" ∧ (parseMethodDescriptor y_T_become.desc).map (fun d => d.parameters.length) = some 1 := by decide +kernel
theorem pd_B_typeCount : y_B_typeCount.cls = "CompatibilityJudge$Baseline" ∧ y_B_typeCount.cls ≠ "java/lang/invoke/MethodHandle" ∧ y_B_typeCount.cls ≠ "java/lang/invoke/VarHandle" ∧ (parseMethodDescriptor y_B_typeCount.desc).map (fun d => d.parameters.length) = some 0 := by decide +kernel
theorem pd_J_swap : y_J_swap.cls = "CompatibilityJudge" ∧ y_J_swap.cls ≠ "java/lang/invoke/MethodHandle" ∧ y_J_swap.cls ≠ "java/lang/invoke/VarHandle" ∧ (parseMethodDescriptor y_J_swap.desc).map (fun d => d.parameters.length) = some 0 := by decide +kernel
theorem pd_J_suppress : y_J_suppress.cls = "CompatibilityJudge" ∧ y_J_suppress.cls ≠ "java/lang/invoke/MethodHandle" ∧ y_J_suppress.cls ≠ "java/lang/invoke/VarHandle" ∧ (parseMethodDescriptor y_J_suppress.desc).map (fun d => d.parameters.length) = some 3 := by decide +kernel
theorem pd_J_isSuppressed : y_J_isSuppressed.cls = "CompatibilityJudge" ∧ y_J_isSuppressed.cls ≠ "java/lang/invoke/MethodHandle" ∧ y_J_isSuppressed.cls ≠ "java/lang/invoke/VarHandle" ∧ (parseMethodDescriptor y_J_isSuppressed.desc).map (fun d => d.parameters.length) = some 2 := by decide +kernel
theorem pd_J_contains : y_J_contains.cls = "CompatibilityJudge" ∧ y_J_contains.cls ≠ "java/lang/invoke/MethodHandle" ∧ y_J_contains.cls ≠ "java/lang/invoke/VarHandle" ∧ (parseMethodDescriptor y_J_contains.desc).map (fun d => d.parameters.length) = some 2 := by decide +kernel
theorem pd_J_supertypes : y_J_supertypes.cls = "CompatibilityJudge" ∧ y_J_supertypes.cls ≠ "java/lang/invoke/MethodHandle" ∧ y_J_supertypes.cls ≠ "java/lang/invoke/VarHandle" ∧ (parseMethodDescriptor y_J_supertypes.desc).map (fun d => d.parameters.length) = some 2 := by decide +kernel
theorem pd_J_look : y_J_look.cls = "CompatibilityJudge" ∧ y_J_look.cls ≠ "java/lang/invoke/MethodHandle" ∧ y_J_look.cls ≠ "java/lang/invoke/VarHandle" ∧ (parseMethodDescriptor y_J_look.desc).map (fun d => d.parameters.length) = some 4 := by decide +kernel
theorem pd_B_whereIs : y_B_whereIs.cls = "CompatibilityJudge$Baseline" ∧ y_B_whereIs.cls ≠ "java/lang/invoke/MethodHandle" ∧ y_B_whereIs.cls ≠ "java/lang/invoke/VarHandle" ∧ (parseMethodDescriptor y_B_whereIs.desc).map (fun d => d.parameters.length) = some 3 := by decide +kernel
theorem pd_B_whereIsField : y_B_whereIsField.cls = "CompatibilityJudge$Baseline" ∧ y_B_whereIsField.cls ≠ "java/lang/invoke/MethodHandle" ∧ y_B_whereIsField.cls ≠ "java/lang/invoke/VarHandle" ∧ (parseMethodDescriptor y_B_whereIsField.desc).map (fun d => d.parameters.length) = some 2 := by decide +kernel
theorem pd_B_fieldOwnerFor : y_B_fieldOwnerFor.cls = "CompatibilityJudge$Baseline" ∧ y_B_fieldOwnerFor.cls ≠ "java/lang/invoke/MethodHandle" ∧ y_B_fieldOwnerFor.cls ≠ "java/lang/invoke/VarHandle" ∧ (parseMethodDescriptor y_B_fieldOwnerFor.desc).map (fun d => d.parameters.length) = some 2 := by decide +kernel
theorem pd_B_whereIsMethod : y_B_whereIsMethod.cls = "CompatibilityJudge$Baseline" ∧ y_B_whereIsMethod.cls ≠ "java/lang/invoke/MethodHandle" ∧ y_B_whereIsMethod.cls ≠ "java/lang/invoke/VarHandle" ∧ (parseMethodDescriptor y_B_whereIsMethod.desc).map (fun d => d.parameters.length) = some 2 := by decide +kernel
theorem pd_B_whereIsInterfaceMethod : y_B_whereIsInterfaceMethod.cls = "CompatibilityJudge$Baseline" ∧ y_B_whereIsInterfaceMethod.cls ≠ "java/lang/invoke/MethodHandle" ∧ y_B_whereIsInterfaceMethod.cls ≠ "java/lang/invoke/VarHandle" ∧ (parseMethodDescriptor y_B_whereIsInterfaceMethod.desc).map (fun d => d.parameters.length) = some 2 := by decide +kernel
theorem pd_M_hasAny : y_M_hasAny.cls = "CompatibilityJudge$Member" ∧ y_M_hasAny.cls ≠ "java/lang/invoke/MethodHandle" ∧ y_M_hasAny.cls ≠ "java/lang/invoke/VarHandle" ∧ (parseMethodDescriptor y_M_hasAny.desc).map (fun d => d.parameters.length) = some 1 := by decide +kernel
theorem pd_M_access : y_M_access.cls = "CompatibilityJudge$Member" ∧ y_M_access.cls ≠ "java/lang/invoke/MethodHandle" ∧ y_M_access.cls ≠ "java/lang/invoke/VarHandle" ∧ (parseMethodDescriptor y_M_access.desc).map (fun d => d.parameters.length) = some 0 := by decide +kernel
theorem pd_J_findings : y_J_findings.cls = "CompatibilityJudge" ∧ y_J_findings.cls ≠ "java/lang/invoke/MethodHandle" ∧ y_J_findings.cls ≠ "java/lang/invoke/VarHandle" ∧ (parseMethodDescriptor y_J_findings.desc).map (fun d => d.parameters.length) = some 0 := by decide +kernel
theorem pd_C_bringUpToDate : y_C_bringUpToDate.cls = "CompatibilityJudge$Comparison" ∧ y_C_bringUpToDate.cls ≠ "java/lang/invoke/MethodHandle" ∧ y_C_bringUpToDate.cls ≠ "java/lang/invoke/VarHandle" ∧ (parseMethodDescriptor y_C_bringUpToDate.desc).map (fun d => d.parameters.length) = some 2 := by decide +kernel
theorem pd_T_isPublic : y_T_isPublic.cls = "CompatibilityJudge$Type" ∧ y_T_isPublic.cls ≠ "java/lang/invoke/MethodHandle" ∧ y_T_isPublic.cls ≠ "java/lang/invoke/VarHandle" ∧ (parseMethodDescriptor y_T_isPublic.desc).map (fun d => d.parameters.length) = some 0 := by decide +kernel
theorem pd_T_hasAny : y_T_hasAny.cls = "CompatibilityJudge$Type" ∧ y_T_hasAny.cls ≠ "java/lang/invoke/MethodHandle" ∧ y_T_hasAny.cls ≠ "java/lang/invoke/VarHandle" ∧ (parseMethodDescriptor y_T_hasAny.desc).map (fun d => d.parameters.length) = some 1 := by decide +kernel
theorem pd_C_judgeType : y_C_judgeType.cls = "CompatibilityJudge$Comparison" ∧ y_C_judgeType.cls ≠ "java/lang/invoke/MethodHandle" ∧ y_C_judgeType.cls ≠ "java/lang/invoke/VarHandle" ∧ (parseMethodDescriptor y_C_judgeType.desc).map (fun d => d.parameters.length) = some 3 := by decide +kernel
theorem pd_C_add : y_C_add.cls = "CompatibilityJudge$Comparison" ∧ y_C_add.cls ≠ "java/lang/invoke/MethodHandle" ∧ y_C_add.cls ≠ "java/lang/invoke/VarHandle" ∧ (parseMethodDescriptor y_C_add.desc).map (fun d => d.parameters.length) = some 3 := by decide +kernel
theorem pd_C_judgeHeader : y_C_judgeHeader.cls = "CompatibilityJudge$Comparison" ∧ y_C_judgeHeader.cls ≠ "java/lang/invoke/MethodHandle" ∧ y_C_judgeHeader.cls ≠ "java/lang/invoke/VarHandle" ∧ (parseMethodDescriptor y_C_judgeHeader.desc).map (fun d => d.parameters.length) = some 3 := by decide +kernel
theorem pd_C_findPartners : y_C_findPartners.cls = "CompatibilityJudge$Comparison" ∧ y_C_findPartners.cls ≠ "java/lang/invoke/MethodHandle" ∧ y_C_findPartners.cls ≠ "java/lang/invoke/VarHandle" ∧ (parseMethodDescriptor y_C_findPartners.desc).map (fun d => d.parameters.length) = some 3 := by decide +kernel
theorem pd_C_judgeOldMembers : y_C_judgeOldMembers.cls = "CompatibilityJudge$Comparison" ∧ y_C_judgeOldMembers.cls ≠ "java/lang/invoke/MethodHandle" ∧ y_C_judgeOldMembers.cls ≠ "java/lang/invoke/VarHandle" ∧ (parseMethodDescriptor y_C_judgeOldMembers.desc).map (fun d => d.parameters.length) = some 2 := by decide +kernel
theorem pd_M_isOpen : y_M_isOpen.cls = "CompatibilityJudge$Member" ∧ y_M_isOpen.cls ≠ "java/lang/invoke/MethodHandle" ∧ y_M_isOpen.cls ≠ "java/lang/invoke/VarHandle" ∧ (parseMethodDescriptor y_M_isOpen.desc).map (fun d => d.parameters.length) = some 0 := by decide +kernel
theorem pd_C_breaksAsOld : y_C_breaksAsOld.cls = "CompatibilityJudge$Comparison" ∧ y_C_breaksAsOld.cls ≠ "java/lang/invoke/MethodHandle" ∧ y_C_breaksAsOld.cls ≠ "java/lang/invoke/VarHandle" ∧ (parseMethodDescriptor y_C_breaksAsOld.desc).map (fun d => d.parameters.length) = some 4 := by decide +kernel
theorem pd_M_hasConstantOf : y_M_hasConstantOf.cls = "CompatibilityJudge$Member" ∧ y_M_hasConstantOf.cls ≠ "java/lang/invoke/MethodHandle" ∧ y_M_hasConstantOf.cls ≠ "java/lang/invoke/VarHandle" ∧ (parseMethodDescriptor y_M_hasConstantOf.desc).map (fun d => d.parameters.length) = some 1 := by decide +kernel
theorem pd_C_judgeNewMembers : y_C_judgeNewMembers.cls = "CompatibilityJudge$Comparison" ∧ y_C_judgeNewMembers.cls ≠ "java/lang/invoke/MethodHandle" ∧ y_C_judgeNewMembers.cls ≠ "java/lang/invoke/VarHandle" ∧ (parseMethodDescriptor y_C_judgeNewMembers.desc).map (fun d => d.parameters.length) = some 3 := by decide +kernel
theorem pd_C_breaksAsNew : y_C_breaksAsNew.cls = "CompatibilityJudge$Comparison" ∧ y_C_breaksAsNew.cls ≠ "java/lang/invoke/MethodHandle" ∧ y_C_breaksAsNew.cls ≠ "java/lang/invoke/VarHandle" ∧ (parseMethodDescriptor y_C_breaksAsNew.desc).map (fun d => d.parameters.length) = some 3 := by decide +kernel
theorem pd_J_finding : y_J_finding.cls = "CompatibilityJudge" ∧ y_J_finding.cls ≠ "java/lang/invoke/MethodHandle" ∧ y_J_finding.cls ≠ "java/lang/invoke/VarHandle" ∧ (parseMethodDescriptor y_J_finding.desc).map (fun d => d.parameters.length) = some 2 := by decide +kernel
theorem pd_J_verdict : y_J_verdict.cls = "CompatibilityJudge" ∧ y_J_verdict.cls ≠ "java/lang/invoke/MethodHandle" ∧ y_J_verdict.cls ≠ "java/lang/invoke/VarHandle" ∧ (parseMethodDescriptor y_J_verdict.desc).map (fun d => d.parameters.length) = some 0 := by decide +kernel
theorem pd_J_byRule : y_J_byRule.cls = "CompatibilityJudge" ∧ y_J_byRule.cls ≠ "java/lang/invoke/MethodHandle" ∧ y_J_byRule.cls ≠ "java/lang/invoke/VarHandle" ∧ (parseMethodDescriptor y_J_byRule.desc).map (fun d => d.parameters.length) = some 1 := by decide +kernel
theorem pd_J_count : y_J_count.cls = "CompatibilityJudge" ∧ y_J_count.cls ≠ "java/lang/invoke/MethodHandle" ∧ y_J_count.cls ≠ "java/lang/invoke/VarHandle" ∧ (parseMethodDescriptor y_J_count.desc).map (fun d => d.parameters.length) = some 1 := by decide +kernel
theorem pd_B_memberCount : y_B_memberCount.cls = "CompatibilityJudge$Baseline" ∧ y_B_memberCount.cls ≠ "java/lang/invoke/MethodHandle" ∧ y_B_memberCount.cls ≠ "java/lang/invoke/VarHandle" ∧ (parseMethodDescriptor y_B_memberCount.desc).map (fun d => d.parameters.length) = some 0 := by decide +kernel
theorem pd_J_suppressionCount : y_J_suppressionCount.cls = "CompatibilityJudge" ∧ y_J_suppressionCount.cls ≠ "java/lang/invoke/MethodHandle" ∧ y_J_suppressionCount.cls ≠ "java/lang/invoke/VarHandle" ∧ (parseMethodDescriptor y_J_suppressionCount.desc).map (fun d => d.parameters.length) = some 0 := by decide +kernel
theorem pd_I_bitCount : y_I_bitCount.cls = "java/lang/Integer" ∧ y_I_bitCount.cls ≠ "java/lang/invoke/MethodHandle" ∧ y_I_bitCount.cls ≠ "java/lang/invoke/VarHandle" ∧ (parseMethodDescriptor y_I_bitCount.desc).map (fun d => d.parameters.length) = some 1 := by decide +kernel
theorem pd_R_init : y_R_init.cls = "CompatibilityJudgeModel" ∧ y_R_init.cls ≠ "java/lang/invoke/MethodHandle" ∧ y_R_init.cls ≠ "java/lang/invoke/VarHandle" ∧ (parseMethodDescriptor y_R_init.desc).map (fun d => d.parameters.length) = some 0 := by decide +kernel
theorem pd_R_type : y_R_type.cls = "CompatibilityJudgeModel" ∧ y_R_type.cls ≠ "java/lang/invoke/MethodHandle" ∧ y_R_type.cls ≠ "java/lang/invoke/VarHandle" ∧ (parseMethodDescriptor y_R_type.desc).map (fun d => d.parameters.length) = some 5 := by decide +kernel
theorem pd_R_bad : y_R_bad.cls = "CompatibilityJudgeModel" ∧ y_R_bad.cls ≠ "java/lang/invoke/MethodHandle" ∧ y_R_bad.cls ≠ "java/lang/invoke/VarHandle" ∧ (parseMethodDescriptor y_R_bad.desc).map (fun d => d.parameters.length) = some 2 := by decide +kernel
theorem pd_R_out : y_R_out.cls = "CompatibilityJudgeModel" ∧ y_R_out.cls ≠ "java/lang/invoke/MethodHandle" ∧ y_R_out.cls ≠ "java/lang/invoke/VarHandle" ∧ (parseMethodDescriptor y_R_out.desc).map (fun d => d.parameters.length) = some 2 := by decide +kernel
theorem pd_R_implement : y_R_implement.cls = "CompatibilityJudgeModel" ∧ y_R_implement.cls ≠ "java/lang/invoke/MethodHandle" ∧ y_R_implement.cls ≠ "java/lang/invoke/VarHandle" ∧ (parseMethodDescriptor y_R_implement.desc).map (fun d => d.parameters.length) = some 3 := by decide +kernel
theorem pd_R_member : y_R_member.cls = "CompatibilityJudgeModel" ∧ y_R_member.cls ≠ "java/lang/invoke/MethodHandle" ∧ y_R_member.cls ≠ "java/lang/invoke/VarHandle" ∧ (parseMethodDescriptor y_R_member.desc).map (fun d => d.parameters.length) = some 5 := by decide +kernel
theorem pd_R_badKey : y_R_badKey.cls = "CompatibilityJudgeModel" ∧ y_R_badKey.cls ≠ "java/lang/invoke/MethodHandle" ∧ y_R_badKey.cls ≠ "java/lang/invoke/VarHandle" ∧ (parseMethodDescriptor y_R_badKey.desc).map (fun d => d.parameters.length) = some 2 := by decide +kernel
theorem pd_R_own : y_R_own.cls = "CompatibilityJudgeModel" ∧ y_R_own.cls ≠ "java/lang/invoke/MethodHandle" ∧ y_R_own.cls ≠ "java/lang/invoke/VarHandle" ∧ (parseMethodDescriptor y_R_own.desc).map (fun d => d.parameters.length) = some 3 := by decide +kernel
theorem pd_R_badFlags : y_R_badFlags.cls = "CompatibilityJudgeModel" ∧ y_R_badFlags.cls ≠ "java/lang/invoke/MethodHandle" ∧ y_R_badFlags.cls ≠ "java/lang/invoke/VarHandle" ∧ (parseMethodDescriptor y_R_badFlags.desc).map (fun d => d.parameters.length) = some 3 := by decide +kernel
theorem pd_R_has : y_R_has.cls = "CompatibilityJudgeModel" ∧ y_R_has.cls ≠ "java/lang/invoke/MethodHandle" ∧ y_R_has.cls ≠ "java/lang/invoke/VarHandle" ∧ (parseMethodDescriptor y_R_has.desc).map (fun d => d.parameters.length) = some 2 := by decide +kernel
theorem pd_R_constant : y_R_constant.cls = "CompatibilityJudgeModel" ∧ y_R_constant.cls ≠ "java/lang/invoke/MethodHandle" ∧ y_R_constant.cls ≠ "java/lang/invoke/VarHandle" ∧ (parseMethodDescriptor y_R_constant.desc).map (fun d => d.parameters.length) = some 4 := by decide +kernel
theorem pd_R_cell : y_R_cell.cls = "CompatibilityJudgeModel" ∧ y_R_cell.cls ≠ "java/lang/invoke/MethodHandle" ∧ y_R_cell.cls ≠ "java/lang/invoke/VarHandle" ∧ (parseMethodDescriptor y_R_cell.desc).map (fun d => d.parameters.length) = some 3 := by decide +kernel
theorem pd_R_remove : y_R_remove.cls = "CompatibilityJudgeModel" ∧ y_R_remove.cls ≠ "java/lang/invoke/MethodHandle" ∧ y_R_remove.cls ≠ "java/lang/invoke/VarHandle" ∧ (parseMethodDescriptor y_R_remove.desc).map (fun d => d.parameters.length) = some 2 := by decide +kernel
theorem pd_R_drop : y_R_drop.cls = "CompatibilityJudgeModel" ∧ y_R_drop.cls ≠ "java/lang/invoke/MethodHandle" ∧ y_R_drop.cls ≠ "java/lang/invoke/VarHandle" ∧ (parseMethodDescriptor y_R_drop.desc).map (fun d => d.parameters.length) = some 3 := by decide +kernel
theorem pd_R_copyCell : y_R_copyCell.cls = "CompatibilityJudgeModel" ∧ y_R_copyCell.cls ≠ "java/lang/invoke/MethodHandle" ∧ y_R_copyCell.cls ≠ "java/lang/invoke/VarHandle" ∧ (parseMethodDescriptor y_R_copyCell.desc).map (fun d => d.parameters.length) = some 2 := by decide +kernel
theorem pd_R_copy : y_R_copy.cls = "CompatibilityJudgeModel" ∧ y_R_copy.cls ≠ "java/lang/invoke/MethodHandle" ∧ y_R_copy.cls ≠ "java/lang/invoke/VarHandle" ∧ (parseMethodDescriptor y_R_copy.desc).map (fun d => d.parameters.length) = some 0 := by decide +kernel
theorem pd_R_copyRow : y_R_copyRow.cls = "CompatibilityJudgeModel" ∧ y_R_copyRow.cls ≠ "java/lang/invoke/MethodHandle" ∧ y_R_copyRow.cls ≠ "java/lang/invoke/VarHandle" ∧ (parseMethodDescriptor y_R_copyRow.desc).map (fun d => d.parameters.length) = some 2 := by decide +kernel
theorem pd_R_count : y_R_count.cls = "CompatibilityJudgeModel" ∧ y_R_count.cls ≠ "java/lang/invoke/MethodHandle" ∧ y_R_count.cls ≠ "java/lang/invoke/VarHandle" ∧ (parseMethodDescriptor y_R_count.desc).map (fun d => d.parameters.length) = some 1 := by decide +kernel
theorem pd_R_swap : y_R_swap.cls = "CompatibilityJudgeModel" ∧ y_R_swap.cls ≠ "java/lang/invoke/MethodHandle" ∧ y_R_swap.cls ≠ "java/lang/invoke/VarHandle" ∧ (parseMethodDescriptor y_R_swap.desc).map (fun d => d.parameters.length) = some 0 := by decide +kernel
theorem pd_R_copyHead : y_R_copyHead.cls = "CompatibilityJudgeModel" ∧ y_R_copyHead.cls ≠ "java/lang/invoke/MethodHandle" ∧ y_R_copyHead.cls ≠ "java/lang/invoke/VarHandle" ∧ (parseMethodDescriptor y_R_copyHead.desc).map (fun d => d.parameters.length) = some 2 := by decide +kernel
theorem pd_R_swapCell : y_R_swapCell.cls = "CompatibilityJudgeModel" ∧ y_R_swapCell.cls ≠ "java/lang/invoke/MethodHandle" ∧ y_R_swapCell.cls ≠ "java/lang/invoke/VarHandle" ∧ (parseMethodDescriptor y_R_swapCell.desc).map (fun d => d.parameters.length) = some 2 := by decide +kernel
theorem pd_R_suppress : y_R_suppress.cls = "CompatibilityJudgeModel" ∧ y_R_suppress.cls ≠ "java/lang/invoke/MethodHandle" ∧ y_R_suppress.cls ≠ "java/lang/invoke/VarHandle" ∧ (parseMethodDescriptor y_R_suppress.desc).map (fun d => d.parameters.length) = some 3 := by decide +kernel
theorem pd_R_supertypes : y_R_supertypes.cls = "CompatibilityJudgeModel" ∧ y_R_supertypes.cls ≠ "java/lang/invoke/MethodHandle" ∧ y_R_supertypes.cls ≠ "java/lang/invoke/VarHandle" ∧ (parseMethodDescriptor y_R_supertypes.desc).map (fun d => d.parameters.length) = some 2 := by decide +kernel
theorem pd_R_set : y_R_set.cls = "CompatibilityJudgeModel" ∧ y_R_set.cls ≠ "java/lang/invoke/MethodHandle" ∧ y_R_set.cls ≠ "java/lang/invoke/VarHandle" ∧ (parseMethodDescriptor y_R_set.desc).map (fun d => d.parameters.length) = some 2 := by decide +kernel
theorem pd_R_direct : y_R_direct.cls = "CompatibilityJudgeModel" ∧ y_R_direct.cls ≠ "java/lang/invoke/MethodHandle" ∧ y_R_direct.cls ≠ "java/lang/invoke/VarHandle" ∧ (parseMethodDescriptor y_R_direct.desc).map (fun d => d.parameters.length) = some 3 := by decide +kernel
theorem pd_R_look : y_R_look.cls = "CompatibilityJudgeModel" ∧ y_R_look.cls ≠ "java/lang/invoke/MethodHandle" ∧ y_R_look.cls ≠ "java/lang/invoke/VarHandle" ∧ (parseMethodDescriptor y_R_look.desc).map (fun d => d.parameters.length) = some 4 := by decide +kernel
theorem pd_R_find : y_R_find.cls = "CompatibilityJudgeModel" ∧ y_R_find.cls ≠ "java/lang/invoke/MethodHandle" ∧ y_R_find.cls ≠ "java/lang/invoke/VarHandle" ∧ (parseMethodDescriptor y_R_find.desc).map (fun d => d.parameters.length) = some 4 := by decide +kernel
theorem pd_R_field : y_R_field.cls = "CompatibilityJudgeModel" ∧ y_R_field.cls ≠ "java/lang/invoke/MethodHandle" ∧ y_R_field.cls ≠ "java/lang/invoke/VarHandle" ∧ (parseMethodDescriptor y_R_field.desc).map (fun d => d.parameters.length) = some 3 := by decide +kernel
theorem pd_R_is : y_R_is.cls = "CompatibilityJudgeModel" ∧ y_R_is.cls ≠ "java/lang/invoke/MethodHandle" ∧ y_R_is.cls ≠ "java/lang/invoke/VarHandle" ∧ (parseMethodDescriptor y_R_is.desc).map (fun d => d.parameters.length) = some 3 := by decide +kernel
theorem pd_R_method : y_R_method.cls = "CompatibilityJudgeModel" ∧ y_R_method.cls ≠ "java/lang/invoke/MethodHandle" ∧ y_R_method.cls ≠ "java/lang/invoke/VarHandle" ∧ (parseMethodDescriptor y_R_method.desc).map (fun d => d.parameters.length) = some 3 := by decide +kernel
theorem pd_R_above : y_R_above.cls = "CompatibilityJudgeModel" ∧ y_R_above.cls ≠ "java/lang/invoke/MethodHandle" ∧ y_R_above.cls ≠ "java/lang/invoke/VarHandle" ∧ (parseMethodDescriptor y_R_above.desc).map (fun d => d.parameters.length) = some 3 := by decide +kernel
theorem pd_R_findings : y_R_findings.cls = "CompatibilityJudgeModel" ∧ y_R_findings.cls ≠ "java/lang/invoke/MethodHandle" ∧ y_R_findings.cls ≠ "java/lang/invoke/VarHandle" ∧ (parseMethodDescriptor y_R_findings.desc).map (fun d => d.parameters.length) = some 0 := by decide +kernel
theorem pd_R_all : y_R_all.cls = "CompatibilityJudgeModel" ∧ y_R_all.cls ≠ "java/lang/invoke/MethodHandle" ∧ y_R_all.cls ≠ "java/lang/invoke/VarHandle" ∧ (parseMethodDescriptor y_R_all.desc).map (fun d => d.parameters.length) = some 1 := by decide +kernel
theorem pd_R_judge : y_R_judge.cls = "CompatibilityJudgeModel" ∧ y_R_judge.cls ≠ "java/lang/invoke/MethodHandle" ∧ y_R_judge.cls ≠ "java/lang/invoke/VarHandle" ∧ (parseMethodDescriptor y_R_judge.desc).map (fun d => d.parameters.length) = some 1 := by decide +kernel
theorem pd_R_tell : y_R_tell.cls = "CompatibilityJudgeModel" ∧ y_R_tell.cls ≠ "java/lang/invoke/MethodHandle" ∧ y_R_tell.cls ≠ "java/lang/invoke/VarHandle" ∧ (parseMethodDescriptor y_R_tell.desc).map (fun d => d.parameters.length) = some 3 := by decide +kernel
theorem pd_R_severity : y_R_severity.cls = "CompatibilityJudgeModel" ∧ y_R_severity.cls ≠ "java/lang/invoke/MethodHandle" ∧ y_R_severity.cls ≠ "java/lang/invoke/VarHandle" ∧ (parseMethodDescriptor y_R_severity.desc).map (fun d => d.parameters.length) = some 1 := by decide +kernel
theorem pd_R_members : y_R_members.cls = "CompatibilityJudgeModel" ∧ y_R_members.cls ≠ "java/lang/invoke/MethodHandle" ∧ y_R_members.cls ≠ "java/lang/invoke/VarHandle" ∧ (parseMethodDescriptor y_R_members.desc).map (fun d => d.parameters.length) = some 2 := by decide +kernel
theorem pd_R_breaks : y_R_breaks.cls = "CompatibilityJudgeModel" ∧ y_R_breaks.cls ≠ "java/lang/invoke/MethodHandle" ∧ y_R_breaks.cls ≠ "java/lang/invoke/VarHandle" ∧ (parseMethodDescriptor y_R_breaks.desc).map (fun d => d.parameters.length) = some 4 := by decide +kernel
theorem pd_R_added : y_R_added.cls = "CompatibilityJudgeModel" ∧ y_R_added.cls ≠ "java/lang/invoke/MethodHandle" ∧ y_R_added.cls ≠ "java/lang/invoke/VarHandle" ∧ (parseMethodDescriptor y_R_added.desc).map (fun d => d.parameters.length) = some 2 := by decide +kernel
theorem pd_R_finding : y_R_finding.cls = "CompatibilityJudgeModel" ∧ y_R_finding.cls ≠ "java/lang/invoke/MethodHandle" ∧ y_R_finding.cls ≠ "java/lang/invoke/VarHandle" ∧ (parseMethodDescriptor y_R_finding.desc).map (fun d => d.parameters.length) = some 2 := by decide +kernel
theorem pd_R_verdict : y_R_verdict.cls = "CompatibilityJudgeModel" ∧ y_R_verdict.cls ≠ "java/lang/invoke/MethodHandle" ∧ y_R_verdict.cls ≠ "java/lang/invoke/VarHandle" ∧ (parseMethodDescriptor y_R_verdict.desc).map (fun d => d.parameters.length) = some 0 := by decide +kernel
theorem pd_R_byRule : y_R_byRule.cls = "CompatibilityJudgeModel" ∧ y_R_byRule.cls ≠ "java/lang/invoke/MethodHandle" ∧ y_R_byRule.cls ≠ "java/lang/invoke/VarHandle" ∧ (parseMethodDescriptor y_R_byRule.desc).map (fun d => d.parameters.length) = some 1 := by decide +kernel
/-- the classes whose objects the memory holds -/
abbrev zCl : List vw_C := [("CompatibilityJudge", uT_J, 3), ("CompatibilityJudge$Baseline", uT_B, 2), ("CompatibilityJudge$Comparison", uT_C, 6), ("CompatibilityJudge$Type", uT_T, 10), ("CompatibilityJudge$Member", uT_M, 5), ("CompatibilityJudgeModel", uT_R, 22)]
end
section
/-! FLAT MEMORY. Every cell that the law's run makes has a NAME, a number: its address is base + name. A memory M gives each name's ints (M.1 name place) and references by name (M.2 name place); zSh says what kind of cell a name is. -/
abbrev fl_M : Type := (Nat → Nat → Int32) × (Nat → Nat → Option Nat)
abbrev fl_H : Type := (Nat × List Bool) ⊕ (Nat × Nat × Bool)
abbrev fl_W : Type := va_G × (Nat → ClassId) × Nat
def fl_v (b : Nat) (i : Int32) (r : Option Nat) (k : Bool) : Value := match k with
  | true => va_rf (r.map (fun n => b + n))
  | false => .int i
def fl_fs (b : Nat) (fi : Nat → Int32) (fr : Nat → Option Nat) : Nat → List Bool → List Value
  | _, [] => []
  | k, x :: xs => fl_v b (fi k) (fr k) x :: fl_fs b fi fr (k + 1) xs
theorem fl_fs_get (b : Nat) (fi : Nat → Int32) (fr : Nat → Option Nat) : ∀ (bs : List Bool) (k j : Nat), (fl_fs b fi fr k bs)[j]? = (bs[j]?).map (fun x => fl_v b (fi (k + j)) (fr (k + j)) x) := by
  intro bs
  induction bs with
  | nil => intro k j; simp [fl_fs]
  | cons x xs ih =>
    intro k j
    cases j with
    | zero => simp [fl_fs]
    | succ j =>
      simp only [fl_fs, List.getElem?_cons_succ]
      rw [ih (k + 1) j, show k + 1 + j = k + (j + 1) by omega]
theorem fl_fs_len (b : Nat) (fi : Nat → Int32) (fr : Nat → Option Nat) : ∀ (bs : List Bool) (k : Nat), (fl_fs b fi fr k bs).length = bs.length := by
  intro bs
  induction bs with
  | nil => intro k; rfl
  | cons x xs ih => intro k; simp [fl_fs, ih]
theorem fl_fs_set {b : Nat} {fi fi' : Nat → Int32} {fr fr' : Nat → Option Nat} {bs : List Bool} {j : Nat} {v : Value} (h : ∀ i, i ≠ j → fi' i = fi i ∧ fr' i = fr i) (hv : ∀ x, bs[j]? = some x → fl_v b (fi' j) (fr' j) x = v) : (fl_fs b fi fr 0 bs).set j v = fl_fs b fi' fr' 0 bs := by
  apply List.ext_getElem?
  intro i
  rw [List.getElem?_set, fl_fs_len, fl_fs_get, fl_fs_get]
  simp only [Nat.zero_add]
  by_cases h1 : j = i
  · subst h1
    rw [if_pos rfl]
    by_cases h2 : j < bs.length
    · rw [if_pos h2, List.getElem?_eq_getElem h2]
      simp only [Option.map_some]
      rw [hv _ (List.getElem?_eq_getElem h2)]
    · rw [if_neg h2, List.getElem?_eq_none (by omega)]
      rfl
  · rw [if_neg h1, (h i (Ne.symm h1)).1, (h i (Ne.symm h1)).2]
def fl_c (w : fl_W) (sh : fl_H) (fi : Nat → Int32) (fr : Nat → Option Nat) : va_E := match sh with
  | .inl (ci, bs) => .inr (ci, fl_fs w.2.2 fi fr 0 bs)
  | .inr (t, n, false) => .inl (w.2.1 t, n, .inl fi)
  | .inr (t, n, true) => .inl (w.2.1 t, n, .inr (.inr (.inr (.inr (fun i => (fr i).map (fun n => w.2.2 + n))))))
def fl_ws (sh : Nat → fl_H) (w : fl_W) (N : Nat) (M : fl_M) : va_W := (List.range N).map (fun n => (w.2.2 + n, fl_c w (sh n) (M.1 n) (M.2 n)))
theorem fl_ws_len {sh : Nat → fl_H} {w : fl_W} {N : Nat} {M : fl_M} : (fl_ws sh w N M).length = N := by simp [fl_ws]
theorem fl_ws_get {sh : Nat → fl_H} {w : fl_W} {N n : Nat} {M : fl_M} (h : n < N) : (fl_ws sh w N M)[n]? = some (w.2.2 + n, fl_c w (sh n) (M.1 n) (M.2 n)) := by
  simp [fl_ws, h]
theorem fl_ws_at {sh : Nat → fl_H} {w : fl_W} {N n : Nat} {M : fl_M} {q : Nat × va_E} (h : (fl_ws sh w N M)[n]? = some q) : n < N ∧ q = (w.2.2 + n, fl_c w (sh n) (M.1 n) (M.2 n)) := by
  have hl := (List.getElem?_eq_some_iff.mp h).1
  rw [fl_ws_len] at hl
  rw [fl_ws_get hl] at h
  exact ⟨hl, (Option.some.inj h).symm⟩
theorem fl_ws_set {sh : Nat → fl_H} {w : fl_W} {N n : Nat} {M M' : fl_M} {e : va_E} (ho : ∀ k, k ≠ n → M'.1 k = M.1 k ∧ M'.2 k = M.2 k) (he : e = fl_c w (sh n) (M'.1 n) (M'.2 n)) : (fl_ws sh w N M).set n (w.2.2 + n, e) = fl_ws sh w N M' := by
  apply List.ext_getElem?
  intro i
  rw [List.getElem?_set, fl_ws_len]
  by_cases h1 : n = i
  · subst h1
    rw [if_pos rfl]
    by_cases h2 : n < N
    · rw [if_pos h2, fl_ws_get h2, he]
    · rw [if_neg h2, List.getElem?_eq_none (by rw [fl_ws_len]; omega)]
  · rw [if_neg h1]
    by_cases h2 : i < N
    · rw [fl_ws_get h2, fl_ws_get h2, (ho i (Ne.symm h1)).1, (ho i (Ne.symm h1)).2]
    · rw [List.getElem?_eq_none (by rw [fl_ws_len]; omega), List.getElem?_eq_none (by rw [fl_ws_len]; omega)]
theorem fl_ws_D {sh : Nat → fl_H} {w : fl_W} {N : Nat} {M : fl_M} : va_D (fun q : Nat => w.2.2 ≤ q) (fl_ws sh w N M) := by
  refine ⟨fun i j p q hp hq hpq => ?_, fun k q hq => ?_⟩
  · rw [(fl_ws_at hp).2, (fl_ws_at hq).2] at hpq
    dsimp only at hpq
    omega
  · rw [(fl_ws_at hq).2]
    show w.2.2 ≤ w.2.2 + k
    omega
/-- stores -/
def fl_u {α : Type} (f : Nat → Nat → α) (n k : Nat) (v : α) : Nat → Nat → α := fun a b => if a = n ∧ b = k then v else f a b
def wI (M : fl_M) (n k : Nat) (v : Int32) : fl_M := (fl_u M.1 n k v, M.2)
def wR (M : fl_M) (n k : Nat) (r : Option Nat) : fl_M := (M.1, fl_u M.2 n k r)
theorem fl_u_self {α : Type} {f : Nat → Nat → α} {n k : Nat} {v : α} : fl_u f n k v n k = v := if_pos ⟨rfl, rfl⟩
theorem fl_u_row {α : Type} {f : Nat → Nat → α} {n k a : Nat} {v : α} (h : a ≠ n) : fl_u f n k v a = f a := by
  funext b
  exact if_neg fun q => h q.1
theorem fl_u_col {α : Type} {f : Nat → Nat → α} {n k a b : Nat} {v : α} (h : b ≠ k) : fl_u f n k v a b = f a b := if_neg fun q => h q.2
end
section
/-! THE STATE'S SHAPE: which name is which cell. Judge 0, its array of baselines 1, baselines 2 and 137 (their array of types +1, type t at +2 + 11 t with interfaces, members' array and 8 members behind it, the field owners +134), comparison 272 .. 276, suppressed 277; the reference 278, its arrays 279 .. 294. -/
abbrev zsJ : fl_H := .inl (0, [true, true, true])
abbrev zsB : fl_H := .inl (1, [true, true])
abbrev zsC : fl_H := .inl (2, [true, true, true, false, false, true])
abbrev zsT : fl_H := .inl (3, [false, false, false, false, true, false, true, false, false, false])
abbrev zsM : fl_H := .inl (4, [false, false, false, false, false])
abbrev zsR : fl_H := .inl (5, [true, true, true, true, true, true, true, true, true, true, true, true, true, true, true, false, false, false, false, false, false, true])
abbrev zaI (n : Nat) : fl_H := .inr (0, n, false)
abbrev zaZ (n : Nat) : fl_H := .inr (1, n, false)
abbrev zaB : fl_H := .inr (2, 2, true)
abbrev zaT : fl_H := .inr (3, 12, true)
abbrev zaM : fl_H := .inr (4, 8, true)
def zlT : List fl_H := [zsT, zaI 3, zaM, zsM, zsM, zsM, zsM, zsM, zsM, zsM, zsM]
def zlB : List fl_H := [zsB, zaT] ++ (zlT ++ zlT ++ zlT ++ zlT ++ zlT ++ zlT ++ zlT ++ zlT ++ zlT ++ zlT ++ zlT ++ zlT) ++ [zaI 12]
def zlR : List fl_H := [zsR, zaZ 24, zaI 24, zaI 24, zaI 24, zaI 24, zaI 72, zaI 24, zaI 192, zaI 192, zaI 192, zaZ 192, zaI 192, zaZ 168, zaZ 12, zaI 48, zaI 14]
def zlA : List fl_H := [zsJ, zaB] ++ zlB ++ zlB ++ [zsC, zaI 636, zaI 636, zaI 636, zaM, zaI 14] ++ zlR
def zSh (n : Nat) : fl_H := zlA.getD n (.inl (9, []))
abbrev zN : Nat := 295
theorem zlA_len : zlA.length = 295 := by decide +kernel
theorem zSh_lt {n : Nat} (h : zSh n ≠ .inl (9, [])) : n < zN := by
  rcases Nat.lt_or_ge n 295 with q | q
  · exact q
  · exact absurd (by unfold zSh; rw [List.getD_eq_getElem?_getD, List.getElem?_eq_none (by rw [zlA_len]; exact q)]; rfl) h
abbrev zTy (w : fl_W) : List (ClassId × FieldType) := [(w.2.1 0, .int), (w.2.1 1, .boolean), (w.2.1 2, .object "CompatibilityJudge$Baseline"), (w.2.1 3, .object "CompatibilityJudge$Type"), (w.2.1 4, .object "CompatibilityJudge$Member")]
/-- the class's two constant arrays -/
def zKL (j : Nat) : Int32 := [64, 512, 8].getD j 0
def zSV (j : Nat) : Int32 := [3, 3, 2, 2, 3, 3, 3, 3, 2, 1, 3, 2, 2, 1].getD j 0
def zS1 (w : fl_W) (U : State) (H : Heap) : Prop := ∃ t1 t2 : Nat, va_Z "CompatibilityJudge" "KEY_LIMITS" "[I" (.ref t1) (fun q : Nat => w.2.2 ≤ q) U H ∧ va_T .int t1 3 (fun j => .int (zKL j)) (fun q : Nat => w.2.2 ≤ q) U H ∧ va_Z "CompatibilityJudge" "SEVERITIES" "[I" (.ref t2) (fun q : Nat => w.2.2 ≤ q) U H ∧ va_T .int t2 14 (fun j => .int (zSV j)) (fun q : Nat => w.2.2 ≤ q) U H
/-- the words that the tables keep in another way: calls of nest mates, arrays of objects -/
def zS2 (U : State) : Prop := (va_Nw (.methodLinkNest "CompatibilityJudge$Type" 21 y_M_init "CompatibilityJudge") U ∧ va_Nw (.methodLinkNest "CompatibilityJudge$Baseline" 60 y_J_isWithin "CompatibilityJudge") U ∧ va_Nw (.methodLinkNest "CompatibilityJudge$Baseline" 78 y_J_contains "CompatibilityJudge") U ∧ va_Nw (.methodLinkNest "CompatibilityJudge$Comparison" 79 y_J_contains "CompatibilityJudge") U) ∧ va_AO "CompatibilityJudge$Baseline" U ∧ va_AO "CompatibilityJudge$Type" U ∧ va_AO "CompatibilityJudge$Member" U
def zS (w : fl_W) (U : State) (H : Heap) : Prop := zS1 w U H ∧ zS2 U
theorem zS.warm {w : fl_W} {u U : State} {H : Heap} (hW : u.WarmedH U.vm) (h : zS w u H) : zS w U H := by
  obtain ⟨⟨t1, t2, a, b, c, d⟩, ⟨n1, n2, n3, n4⟩, a1, a2, a3⟩ := h
  exact ⟨⟨t1, t2, a.moved hW.alike, b.moved hW.alike, c.moved hW.alike, d.moved hW.alike⟩, ⟨n1.warmM hW, n2.warmM hW, n3.warmM hW, n4.warmM hW⟩, a1.moved hW.alike, a2.moved hW.alike, a3.moved hW.alike⟩
theorem zS.same {w : fl_W} {u U : State} {H : Heap} (hv : u.vm = U.vm) (h : zS w u H) : zS w U H := by
  obtain ⟨⟨t1, t2, a, b, c, d⟩, ⟨n1, n2, n3, n4⟩, a1, a2, a3⟩ := h
  have hA : u.vm.Alike U.vm := by rw [hv]; exact Vm.Alike.refl _
  exact ⟨⟨t1, t2, a.moved hA, b.moved hA, c.moved hA, d.moved hA⟩, ⟨va_tabs rfl hv n1, va_tabs rfl hv n2, va_tabs rfl hv n3, va_tabs rfl hv n4⟩, a1.moved hA, a2.moved hA, a3.moved hA⟩
theorem zS.kept {w : fl_W} {U : State} {H H1 : Heap} (h : zS w U H) (hq : ∀ a : Nat, a < H.size → ¬ w.2.2 ≤ a → H1[a]? = H[a]?) : zS w U H1 := by
  obtain ⟨⟨t1, t2, a, b, c, d⟩, h2⟩ := h
  exact ⟨⟨t1, t2, a.kept hq, b.kept hq, c.kept hq, d.kept hq⟩, h2⟩
/-- truth as an int -/
def bI (P : Prop) [Decidable P] : Int32 := if P then 1 else 0
theorem bI_t {P : Prop} [Decidable P] (h : P) : bI P = 1 := if_pos h
theorem bI_f {P : Prop} [Decidable P] (h : ¬ P) : bI P = 0 := if_neg h
theorem bI_e {P : Prop} [Decidable P] : bI P = 0 ↔ ¬ P := by
  unfold bI
  by_cases h : P
  · simp [h]
  · simp [h]
theorem bI_n {P : Prop} [Decidable P] : narrow .boolean (.int (bI P)) = .int (bI P) := by
  unfold bI
  by_cases h : P
  · rw [if_pos h]; rfl
  · rw [if_neg h]; rfl
theorem bI_ft {P : Prop} [Decidable P] : fits .boolean (.int (bI P)) = true := by
  unfold bI
  by_cases h : P
  · rw [if_pos h]; rfl
  · rw [if_neg h]; rfl
theorem bI_c {P Q : Prop} [Decidable P] [Decidable Q] (h : P ↔ Q) : bI P = bI Q := by
  unfold bI
  by_cases p : P
  · rw [if_pos p, if_pos (h.mp p)]
  · rw [if_neg p, if_neg (fun q => p (h.mpr q))]
/-- a truth that is kept -/
def isZ (x : Int32) : Prop := x = 0 ∨ x = 1
theorem isZ_n {x : Int32} (h : isZ x) : narrow .boolean (.int x) = .int x := by rcases h with rfl | rfl <;> rfl
theorem isZ_ft {x : Int32} (h : isZ x) : fits .boolean (.int x) = true := by rcases h with rfl | rfl <;> rfl
theorem isZ_v {x : Int32} (h : isZ x) : vp_nar .boolean x = x := by rcases h with rfl | rfl <;> rfl
theorem isZ_b {P : Prop} [Decidable P] : isZ (bI P) := by
  unfold bI
  by_cases h : P
  · rw [if_pos h]; exact Or.inr rfl
  · rw [if_neg h]; exact Or.inl rfl
end
section
/-! THE ROWS OVER THE FLAT MEMORY. XC: what holds all through a method; XW: the kit's W for every heap that holds the memory M, every array of locals that has lv. -/
def XC (p : Program) (s : State) (m : MethodId) (args : Array Value) (meth : Method) (c : Code) (cc : ByteArray) (nL : Nat) (ret : Option FieldType) (Ts : List Cond) (own : String) (w : fl_W) : Prop :=
  p.tables.exec = Jvm.exec ∧ c.code = cc ∧ c.maxLocals = nL ∧ s.vm.findClass own = some m.cls ∧ (∀ t ∈ Ts, t.before args s = true) ∧ va_K w.1 zCl (zTy w) s ∧ meth.locks = false ∧ meth.sig.returnType = ret ∧ zS w s s.heap
def XW (p : Program) (l : Launch) (e : Env) (R : Room) (s : State) (m : MethodId) (args : Array Value) (below : List Frame) (meth : Method) (c : Code) (nL cells slots : Nat) (Q : State → Prop) (w : fl_W) (N : Nat) (M : fl_M) (pc : Nat) (lv : List (Nat × Value)) (st : List Value) : Prop :=
  ∀ (H : Heap) (locs : List Loc) (ls : Array Slot), va_P w.1 zCl (fl_ws zSh w N M) H → va_S (fun q : Nat => w.2.2 ≤ q) s.heap H locs → lv_has ls nL lv → W p l e R s m args below meth c H locs cells slots Q (F0 m pc ls st)
section XR
variable {p : Program} {l : Launch} {e : Env} {R : Room} {s : State} {m : MethodId} {args : Array Value} {below : List Frame} {meth : Method} {c : Code} {nL cells slots : Nat} {Q : State → Prop} {cc : ByteArray} {ret : Option FieldType} {Ts : List Cond} {own : String} {w : fl_W} {N : Nat} {M M' : fl_M} {pc : Nat} {lv lv' : List (Nat × Value)} {st : List Value}
theorem XC.x (K : XC p s m args meth c cc nL ret Ts own w) : p.tables.exec = Jvm.exec := K.1
theorem XC.b (K : XC p s m args meth c cc nL ret Ts own w) : c.code = cc := K.2.1
theorem XC.ml (K : XC p s m args meth c cc nL ret Ts own w) : c.maxLocals = nL := K.2.2.1
theorem XC.o (K : XC p s m args meth c cc nL ret Ts own w) : s.vm.findClass own = some m.cls := K.2.2.2.1
theorem XC.ts (K : XC p s m args meth c cc nL ret Ts own w) : ∀ t ∈ Ts, t.before args s = true := K.2.2.2.2.1
theorem XC.K (K : XC p s m args meth c cc nL ret Ts own w) : va_K w.1 zCl (zTy w) s := K.2.2.2.2.2.1
theorem XC.lk (K : XC p s m args meth c cc nL ret Ts own w) : meth.locks = false := K.2.2.2.2.2.2.1
theorem XC.rt (K : XC p s m args meth c cc nL ret Ts own w) : meth.sig.returnType = ret := K.2.2.2.2.2.2.2.1
theorem XC.S (K : XC p s m args meth c cc nL ret Ts own w) : zS w s s.heap := K.2.2.2.2.2.2.2.2
theorem x_iconst (K : XC p s m args meth c cc nL ret Ts own w) {n : Int} {v : Int32} (hd : decode cc pc = .ok (.iconst n, 1)) (hv : Int32.ofInt n = v) (kk : XW p l e R s m args below meth c nL cells slots Q w N M (pc + 1) lv (.int v :: st)) : XW p l e R s m args below meth c nL cells slots Q w N M (pc) lv (st) := fun H locs ls hP hS hl => lv_iconst K.x K.b hd hv (kk H locs ls hP hS hl)
theorem x_bipush (K : XC p s m args meth c cc nL ret Ts own w) {n : Int} {v : Int32} (hd : decode cc pc = .ok (.bipush n, 2)) (hv : (Int8.ofInt n).toInt32 = v) (kk : XW p l e R s m args below meth c nL cells slots Q w N M (pc + 2) lv (.int v :: st)) : XW p l e R s m args below meth c nL cells slots Q w N M (pc) lv (st) := fun H locs ls hP hS hl => lv_bipush K.x K.b hd hv (kk H locs ls hP hS hl)
theorem x_sipush (K : XC p s m args meth c cc nL ret Ts own w) {n : Int} {v : Int32} (hd : decode cc pc = .ok (.sipush n, 3)) (hv : (Int16.ofInt n).toInt32 = v) (kk : XW p l e R s m args below meth c nL cells slots Q w N M (pc + 3) lv (.int v :: st)) : XW p l e R s m args below meth c nL cells slots Q w N M (pc) lv (st) := fun H locs ls hP hS hl => lv_sipush K.x K.b hd hv (kk H locs ls hP hS hl)
theorem x_null (K : XC p s m args meth c cc nL ret Ts own w)  (hd : decode cc pc = .ok (.aconst_null, 1)) (kk : XW p l e R s m args below meth c nL cells slots Q w N M (pc + 1) lv (.null :: st)) : XW p l e R s m args below meth c nL cells slots Q w N M (pc) lv (st) := fun H locs ls hP hS hl => lv_null K.x K.b hd (kk H locs ls hP hS hl)
theorem x_iload_n (K : XC p s m args meth c cc nL ret Ts own w) {k : Fin 4} {x : Int32} (j : Nat) (hd : decode cc pc = .ok (.iload_n k, 1)) (hj : lv[j]? = some ((k : Nat), .int x)) (kk : XW p l e R s m args below meth c nL cells slots Q w N M (pc + 1) lv (.int x :: st)) : XW p l e R s m args below meth c nL cells slots Q w N M (pc) lv (st) := fun H locs ls hP hS hl => lv_iload_n K.x K.b hd rfl (lv_at hl j hj) (kk H locs ls hP hS hl)
theorem x_iload (K : XC p s m args meth c cc nL ret Ts own w) {k : Nat} {x : Int32} (j : Nat) (hd : decode cc pc = .ok (.iload k, 2)) (hj : lv[j]? = some (k, .int x)) (kk : XW p l e R s m args below meth c nL cells slots Q w N M (pc + 2) lv (.int x :: st)) : XW p l e R s m args below meth c nL cells slots Q w N M (pc) lv (st) := fun H locs ls hP hS hl => lv_iload K.x K.b hd (lv_at hl j hj) (kk H locs ls hP hS hl)
theorem x_aload_n (K : XC p s m args meth c cc nL ret Ts own w) {k : Fin 4} {x : Nat} (j : Nat) (hd : decode cc pc = .ok (.aload_n k, 1)) (hj : lv[j]? = some ((k : Nat), .ref x)) (kk : XW p l e R s m args below meth c nL cells slots Q w N M (pc + 1) lv (.ref x :: st)) : XW p l e R s m args below meth c nL cells slots Q w N M (pc) lv (st) := fun H locs ls hP hS hl => lv_aload_n K.x K.b hd rfl (lv_at hl j hj) (kk H locs ls hP hS hl)
theorem x_aload (K : XC p s m args meth c cc nL ret Ts own w) {k : Nat} {x : Nat} (j : Nat) (hd : decode cc pc = .ok (.aload k, 2)) (hj : lv[j]? = some (k, .ref x)) (kk : XW p l e R s m args below meth c nL cells slots Q w N M (pc + 2) lv (.ref x :: st)) : XW p l e R s m args below meth c nL cells slots Q w N M (pc) lv (st) := fun H locs ls hP hS hl => lv_aload K.x K.b hd (lv_at hl j hj) (kk H locs ls hP hS hl)
theorem x_aload_nN (K : XC p s m args meth c cc nL ret Ts own w) {k : Fin 4} (j : Nat) (hd : decode cc pc = .ok (.aload_n k, 1)) (hj : lv[j]? = some ((k : Nat), .null)) (kk : XW p l e R s m args below meth c nL cells slots Q w N M (pc + 1) lv (.null :: st)) : XW p l e R s m args below meth c nL cells slots Q w N M (pc) lv (st) := fun H locs ls hP hS hl => lv_aload_nN K.x K.b hd rfl (lv_at hl j hj) (kk H locs ls hP hS hl)
theorem x_aloadN (K : XC p s m args meth c cc nL ret Ts own w) {k : Nat} (j : Nat) (hd : decode cc pc = .ok (.aload k, 2)) (hj : lv[j]? = some (k, .null)) (kk : XW p l e R s m args below meth c nL cells slots Q w N M (pc + 2) lv (.null :: st)) : XW p l e R s m args below meth c nL cells slots Q w N M (pc) lv (st) := fun H locs ls hP hS hl => lv_aloadN K.x K.b hd (lv_at hl j hj) (kk H locs ls hP hS hl)
theorem x_istore_n (K : XC p s m args meth c cc nL ret Ts own w) {k : Fin 4} {x : Int32} (hd : decode cc pc = .ok (.istore_n k, 1)) (hn : (k : Nat) < nL) (hl9 : ((k : Nat), Value.int x) :: lv.filter (fun q => !(q.1 == (k : Nat)) && !(q.1 + 1 == (k : Nat) && q.2.category == 2)) = lv') (kk : XW p l e R s m args below meth c nL cells slots Q w N M (pc + 1) lv' (st)) : XW p l e R s m args below meth c nL cells slots Q w N M (pc) lv (Value.int x :: st) := fun H locs ls hP hS hl => lv_istore_n K.x K.b hd rfl hl hn hl9 (fun ls9 h9 => kk H locs ls9 hP hS h9)
theorem x_istore (K : XC p s m args meth c cc nL ret Ts own w) {k : Nat} {x : Int32} (hd : decode cc pc = .ok (.istore k, 2)) (hn : k < nL) (hl9 : (k, Value.int x) :: lv.filter (fun q => !(q.1 == k) && !(q.1 + 1 == k && q.2.category == 2)) = lv') (kk : XW p l e R s m args below meth c nL cells slots Q w N M (pc + 2) lv' (st)) : XW p l e R s m args below meth c nL cells slots Q w N M (pc) lv (Value.int x :: st) := fun H locs ls hP hS hl => lv_istore K.x K.b hd hl hn hl9 (fun ls9 h9 => kk H locs ls9 hP hS h9)
theorem x_astore_n (K : XC p s m args meth c cc nL ret Ts own w) {k : Fin 4} {x : Nat} (hd : decode cc pc = .ok (.astore_n k, 1)) (hn : (k : Nat) < nL) (hl9 : ((k : Nat), Value.ref x) :: lv.filter (fun q => !(q.1 == (k : Nat)) && !(q.1 + 1 == (k : Nat) && q.2.category == 2)) = lv') (kk : XW p l e R s m args below meth c nL cells slots Q w N M (pc + 1) lv' (st)) : XW p l e R s m args below meth c nL cells slots Q w N M (pc) lv (Value.ref x :: st) := fun H locs ls hP hS hl => lv_astore_n K.x K.b hd rfl hl hn hl9 (fun ls9 h9 => kk H locs ls9 hP hS h9)
theorem x_astore (K : XC p s m args meth c cc nL ret Ts own w) {k : Nat} {x : Nat} (hd : decode cc pc = .ok (.astore k, 2)) (hn : k < nL) (hl9 : (k, Value.ref x) :: lv.filter (fun q => !(q.1 == k) && !(q.1 + 1 == k && q.2.category == 2)) = lv') (kk : XW p l e R s m args below meth c nL cells slots Q w N M (pc + 2) lv' (st)) : XW p l e R s m args below meth c nL cells slots Q w N M (pc) lv (Value.ref x :: st) := fun H locs ls hP hS hl => lv_astore K.x K.b hd hl hn hl9 (fun ls9 h9 => kk H locs ls9 hP hS h9)
theorem x_astore_nN (K : XC p s m args meth c cc nL ret Ts own w) {k : Fin 4} (hd : decode cc pc = .ok (.astore_n k, 1)) (hn : (k : Nat) < nL) (hl9 : ((k : Nat), Value.null) :: lv.filter (fun q => !(q.1 == (k : Nat)) && !(q.1 + 1 == (k : Nat) && q.2.category == 2)) = lv') (kk : XW p l e R s m args below meth c nL cells slots Q w N M (pc + 1) lv' (st)) : XW p l e R s m args below meth c nL cells slots Q w N M (pc) lv (Value.null :: st) := fun H locs ls hP hS hl => lv_astore_nN K.x K.b hd rfl hl hn hl9 (fun ls9 h9 => kk H locs ls9 hP hS h9)
theorem x_astoreN (K : XC p s m args meth c cc nL ret Ts own w) {k : Nat} (hd : decode cc pc = .ok (.astore k, 2)) (hn : k < nL) (hl9 : (k, Value.null) :: lv.filter (fun q => !(q.1 == k) && !(q.1 + 1 == k && q.2.category == 2)) = lv') (kk : XW p l e R s m args below meth c nL cells slots Q w N M (pc + 2) lv' (st)) : XW p l e R s m args below meth c nL cells slots Q w N M (pc) lv (Value.null :: st) := fun H locs ls hP hS hl => lv_astoreN K.x K.b hd hl hn hl9 (fun ls9 h9 => kk H locs ls9 hP hS h9)
theorem x_iinc (K : XC p s m args meth c cc nL ret Ts own w) {i : Nat} {n : Int} {x v : Int32} (j : Nat) (hd : decode cc pc = .ok (.iinc i n, 3)) (hj : lv[j]? = some (i, .int x)) (hv : x + Int32.ofInt n = v) (hn : i < nL) (hl9 : (i, Value.int v) :: lv.filter (fun q => !(q.1 == i) && !(q.1 + 1 == i && q.2.category == 2)) = lv') (kk : XW p l e R s m args below meth c nL cells slots Q w N M (pc + 3) lv' (st)) : XW p l e R s m args below meth c nL cells slots Q w N M (pc) lv (st) := fun H locs ls hP hS hl => lv_iinc K.x K.b hd hl hj hv hn hl9 (fun ls9 h9 => kk H locs ls9 hP hS h9)
theorem x_iadd (K : XC p s m args meth c cc nL ret Ts own w) {x y : Int32} (hd : decode cc pc = .ok (.iadd, 1)) (kk : XW p l e R s m args below meth c nL cells slots Q w N M (pc + 1) lv (.int (x + y) :: st)) : XW p l e R s m args below meth c nL cells slots Q w N M (pc) lv (.int y :: .int x :: st) := fun H locs ls hP hS hl => lv_iadd K.x K.b hd (kk H locs ls hP hS hl)
theorem x_isub (K : XC p s m args meth c cc nL ret Ts own w) {x y : Int32} (hd : decode cc pc = .ok (.isub, 1)) (kk : XW p l e R s m args below meth c nL cells slots Q w N M (pc + 1) lv (.int (x - y) :: st)) : XW p l e R s m args below meth c nL cells slots Q w N M (pc) lv (.int y :: .int x :: st) := fun H locs ls hP hS hl => lv_isub K.x K.b hd (kk H locs ls hP hS hl)
theorem x_imul (K : XC p s m args meth c cc nL ret Ts own w) {x y : Int32} (hd : decode cc pc = .ok (.imul, 1)) (kk : XW p l e R s m args below meth c nL cells slots Q w N M (pc + 1) lv (.int (x * y) :: st)) : XW p l e R s m args below meth c nL cells slots Q w N M (pc) lv (.int y :: .int x :: st) := fun H locs ls hP hS hl => lv_imul K.x K.b hd (kk H locs ls hP hS hl)
theorem x_iand (K : XC p s m args meth c cc nL ret Ts own w) {x y : Int32} (hd : decode cc pc = .ok (.iand, 1)) (kk : XW p l e R s m args below meth c nL cells slots Q w N M (pc + 1) lv (.int (x &&& y) :: st)) : XW p l e R s m args below meth c nL cells slots Q w N M (pc) lv (.int y :: .int x :: st) := fun H locs ls hP hS hl => lv_iand K.x K.b hd (kk H locs ls hP hS hl)
theorem x_ior (K : XC p s m args meth c cc nL ret Ts own w) {x y : Int32} (hd : decode cc pc = .ok (.ior, 1)) (kk : XW p l e R s m args below meth c nL cells slots Q w N M (pc + 1) lv (.int (x ||| y) :: st)) : XW p l e R s m args below meth c nL cells slots Q w N M (pc) lv (.int y :: .int x :: st) := fun H locs ls hP hS hl => lv_ior K.x K.b hd (kk H locs ls hP hS hl)
theorem x_ixor (K : XC p s m args meth c cc nL ret Ts own w) {x y : Int32} (hd : decode cc pc = .ok (.ixor, 1)) (kk : XW p l e R s m args below meth c nL cells slots Q w N M (pc + 1) lv (.int (x ^^^ y) :: st)) : XW p l e R s m args below meth c nL cells slots Q w N M (pc) lv (.int y :: .int x :: st) := fun H locs ls hP hS hl => lv_ixor K.x K.b hd (kk H locs ls hP hS hl)
theorem x_ishl (K : XC p s m args meth c cc nL ret Ts own w) {x y : Int32} (hd : decode cc pc = .ok (.ishl, 1)) (kk : XW p l e R s m args below meth c nL cells slots Q w N M (pc + 1) lv (.int (x <<< (y &&& 31)) :: st)) : XW p l e R s m args below meth c nL cells slots Q w N M (pc) lv (.int y :: .int x :: st) := fun H locs ls hP hS hl => lv_ishl K.x K.b hd (kk H locs ls hP hS hl)
theorem x_ishr (K : XC p s m args meth c cc nL ret Ts own w) {x y : Int32} (hd : decode cc pc = .ok (.ishr, 1)) (kk : XW p l e R s m args below meth c nL cells slots Q w N M (pc + 1) lv (.int (x >>> (y &&& 31)) :: st)) : XW p l e R s m args below meth c nL cells slots Q w N M (pc) lv (.int y :: .int x :: st) := fun H locs ls hP hS hl => lv_ishr K.x K.b hd (kk H locs ls hP hS hl)
theorem x_dup (K : XC p s m args meth c cc nL ret Ts own w) {v : Value} (hd : decode cc pc = .ok (.dup, 1)) (hv : v.category = 1) (kk : XW p l e R s m args below meth c nL cells slots Q w N M (pc + 1) lv (v :: v :: st)) : XW p l e R s m args below meth c nL cells slots Q w N M (pc) lv (v :: st) := fun H locs ls hP hS hl => lv_dup K.x K.b hd hv (kk H locs ls hP hS hl)
theorem x_dup_x1 (K : XC p s m args meth c cc nL ret Ts own w) {v u : Value} (hd : decode cc pc = .ok (.dup_x1, 1)) (hv : v.category = 1) (hu : u.category = 1) (kk : XW p l e R s m args below meth c nL cells slots Q w N M (pc + 1) lv (v :: u :: v :: st)) : XW p l e R s m args below meth c nL cells slots Q w N M (pc) lv (v :: u :: st) := fun H locs ls hP hS hl => lv_dup_x1 K.x K.b hd hv hu (kk H locs ls hP hS hl)
theorem x_dup2 (K : XC p s m args meth c cc nL ret Ts own w) {v u : Value} (hd : decode cc pc = .ok (.dup2, 1)) (hv : v.category = 1) (hu : u.category = 1) (kk : XW p l e R s m args below meth c nL cells slots Q w N M (pc + 1) lv (v :: u :: v :: u :: st)) : XW p l e R s m args below meth c nL cells slots Q w N M (pc) lv (v :: u :: st) := fun H locs ls hP hS hl => lv_dup2_11 K.x K.b hd hv hu (kk H locs ls hP hS hl)
theorem x_pop (K : XC p s m args meth c cc nL ret Ts own w) {v : Value} (hd : decode cc pc = .ok (.pop, 1)) (hv : v.category = 1) (kk : XW p l e R s m args below meth c nL cells slots Q w N M (pc + 1) lv (st)) : XW p l e R s m args below meth c nL cells slots Q w N M (pc) lv (v :: st) := fun H locs ls hP hS hl => lv_pop K.x K.b hd hv (kk H locs ls hP hS hl)
theorem x_goto (K : XC p s m args meth c cc nL ret Ts own w) {off : Int} {tgt : Nat} (hd : decode cc pc = .ok (.goto off, 3)) (ht : (pc : Int) + off = (tgt : Int)) (kk : XW p l e R s m args below meth c nL cells slots Q w N M (tgt) lv (st)) : XW p l e R s m args below meth c nL cells slots Q w N M (pc) lv (st) := fun H locs ls hP hS hl => lv_goto K.x K.b hd ht (kk H locs ls hP hS hl)
theorem x_if_eq (K : XC p s m args meth c cc nL ret Ts own w) {x : Int32} {off : Int} {tgt : Nat} (hd : decode cc pc = .ok (.ifCond .eq off, 3)) (ht : (pc : Int) + off = (tgt : Int)) (kt : x = 0 → XW p l e R s m args below meth c nL cells slots Q w N M (tgt) lv (st)) (kf : ¬ x = 0 → XW p l e R s m args below meth c nL cells slots Q w N M (pc + 3) lv (st)) : XW p l e R s m args below meth c nL cells slots Q w N M (pc) lv (.int x :: st) := fun H locs ls hP hS hl => lv_if_eq K.x K.b hd ht (fun h9 => kt h9 H locs ls hP hS hl) (fun h9 => kf h9 H locs ls hP hS hl)
theorem x_icmp_eq (K : XC p s m args meth c cc nL ret Ts own w) {x y : Int32} {off : Int} {tgt : Nat} (hd : decode cc pc = .ok (.if_icmp .eq off, 3)) (ht : (pc : Int) + off = (tgt : Int)) (kt : x = y → XW p l e R s m args below meth c nL cells slots Q w N M (tgt) lv (st)) (kf : ¬ x = y → XW p l e R s m args below meth c nL cells slots Q w N M (pc + 3) lv (st)) : XW p l e R s m args below meth c nL cells slots Q w N M (pc) lv (.int y :: .int x :: st) := fun H locs ls hP hS hl => lv_icmp_eq K.x K.b hd ht (fun h9 => kt h9 H locs ls hP hS hl) (fun h9 => kf h9 H locs ls hP hS hl)
theorem x_if_ne (K : XC p s m args meth c cc nL ret Ts own w) {x : Int32} {off : Int} {tgt : Nat} (hd : decode cc pc = .ok (.ifCond .ne off, 3)) (ht : (pc : Int) + off = (tgt : Int)) (kt : ¬ x = 0 → XW p l e R s m args below meth c nL cells slots Q w N M (tgt) lv (st)) (kf : x = 0 → XW p l e R s m args below meth c nL cells slots Q w N M (pc + 3) lv (st)) : XW p l e R s m args below meth c nL cells slots Q w N M (pc) lv (.int x :: st) := fun H locs ls hP hS hl => lv_if_ne K.x K.b hd ht (fun h9 => kt h9 H locs ls hP hS hl) (fun h9 => kf h9 H locs ls hP hS hl)
theorem x_icmp_ne (K : XC p s m args meth c cc nL ret Ts own w) {x y : Int32} {off : Int} {tgt : Nat} (hd : decode cc pc = .ok (.if_icmp .ne off, 3)) (ht : (pc : Int) + off = (tgt : Int)) (kt : ¬ x = y → XW p l e R s m args below meth c nL cells slots Q w N M (tgt) lv (st)) (kf : x = y → XW p l e R s m args below meth c nL cells slots Q w N M (pc + 3) lv (st)) : XW p l e R s m args below meth c nL cells slots Q w N M (pc) lv (.int y :: .int x :: st) := fun H locs ls hP hS hl => lv_icmp_ne K.x K.b hd ht (fun h9 => kt h9 H locs ls hP hS hl) (fun h9 => kf h9 H locs ls hP hS hl)
theorem x_if_lt (K : XC p s m args meth c cc nL ret Ts own w) {x : Int32} {off : Int} {tgt : Nat} (hd : decode cc pc = .ok (.ifCond .lt off, 3)) (ht : (pc : Int) + off = (tgt : Int)) (kt : x < 0 → XW p l e R s m args below meth c nL cells slots Q w N M (tgt) lv (st)) (kf : ¬ x < 0 → XW p l e R s m args below meth c nL cells slots Q w N M (pc + 3) lv (st)) : XW p l e R s m args below meth c nL cells slots Q w N M (pc) lv (.int x :: st) := fun H locs ls hP hS hl => lv_if_lt K.x K.b hd ht (fun h9 => kt h9 H locs ls hP hS hl) (fun h9 => kf h9 H locs ls hP hS hl)
theorem x_icmp_lt (K : XC p s m args meth c cc nL ret Ts own w) {x y : Int32} {off : Int} {tgt : Nat} (hd : decode cc pc = .ok (.if_icmp .lt off, 3)) (ht : (pc : Int) + off = (tgt : Int)) (kt : x < y → XW p l e R s m args below meth c nL cells slots Q w N M (tgt) lv (st)) (kf : ¬ x < y → XW p l e R s m args below meth c nL cells slots Q w N M (pc + 3) lv (st)) : XW p l e R s m args below meth c nL cells slots Q w N M (pc) lv (.int y :: .int x :: st) := fun H locs ls hP hS hl => lv_icmp_lt K.x K.b hd ht (fun h9 => kt h9 H locs ls hP hS hl) (fun h9 => kf h9 H locs ls hP hS hl)
theorem x_if_ge (K : XC p s m args meth c cc nL ret Ts own w) {x : Int32} {off : Int} {tgt : Nat} (hd : decode cc pc = .ok (.ifCond .ge off, 3)) (ht : (pc : Int) + off = (tgt : Int)) (kt : 0 ≤ x → XW p l e R s m args below meth c nL cells slots Q w N M (tgt) lv (st)) (kf : ¬ 0 ≤ x → XW p l e R s m args below meth c nL cells slots Q w N M (pc + 3) lv (st)) : XW p l e R s m args below meth c nL cells slots Q w N M (pc) lv (.int x :: st) := fun H locs ls hP hS hl => lv_if_ge K.x K.b hd ht (fun h9 => kt h9 H locs ls hP hS hl) (fun h9 => kf h9 H locs ls hP hS hl)
theorem x_icmp_ge (K : XC p s m args meth c cc nL ret Ts own w) {x y : Int32} {off : Int} {tgt : Nat} (hd : decode cc pc = .ok (.if_icmp .ge off, 3)) (ht : (pc : Int) + off = (tgt : Int)) (kt : y ≤ x → XW p l e R s m args below meth c nL cells slots Q w N M (tgt) lv (st)) (kf : ¬ y ≤ x → XW p l e R s m args below meth c nL cells slots Q w N M (pc + 3) lv (st)) : XW p l e R s m args below meth c nL cells slots Q w N M (pc) lv (.int y :: .int x :: st) := fun H locs ls hP hS hl => lv_icmp_ge K.x K.b hd ht (fun h9 => kt h9 H locs ls hP hS hl) (fun h9 => kf h9 H locs ls hP hS hl)
theorem x_if_gt (K : XC p s m args meth c cc nL ret Ts own w) {x : Int32} {off : Int} {tgt : Nat} (hd : decode cc pc = .ok (.ifCond .gt off, 3)) (ht : (pc : Int) + off = (tgt : Int)) (kt : 0 < x → XW p l e R s m args below meth c nL cells slots Q w N M (tgt) lv (st)) (kf : ¬ 0 < x → XW p l e R s m args below meth c nL cells slots Q w N M (pc + 3) lv (st)) : XW p l e R s m args below meth c nL cells slots Q w N M (pc) lv (.int x :: st) := fun H locs ls hP hS hl => lv_if_gt K.x K.b hd ht (fun h9 => kt h9 H locs ls hP hS hl) (fun h9 => kf h9 H locs ls hP hS hl)
theorem x_icmp_gt (K : XC p s m args meth c cc nL ret Ts own w) {x y : Int32} {off : Int} {tgt : Nat} (hd : decode cc pc = .ok (.if_icmp .gt off, 3)) (ht : (pc : Int) + off = (tgt : Int)) (kt : y < x → XW p l e R s m args below meth c nL cells slots Q w N M (tgt) lv (st)) (kf : ¬ y < x → XW p l e R s m args below meth c nL cells slots Q w N M (pc + 3) lv (st)) : XW p l e R s m args below meth c nL cells slots Q w N M (pc) lv (.int y :: .int x :: st) := fun H locs ls hP hS hl => lv_icmp_gt K.x K.b hd ht (fun h9 => kt h9 H locs ls hP hS hl) (fun h9 => kf h9 H locs ls hP hS hl)
theorem x_if_le (K : XC p s m args meth c cc nL ret Ts own w) {x : Int32} {off : Int} {tgt : Nat} (hd : decode cc pc = .ok (.ifCond .le off, 3)) (ht : (pc : Int) + off = (tgt : Int)) (kt : x ≤ 0 → XW p l e R s m args below meth c nL cells slots Q w N M (tgt) lv (st)) (kf : ¬ x ≤ 0 → XW p l e R s m args below meth c nL cells slots Q w N M (pc + 3) lv (st)) : XW p l e R s m args below meth c nL cells slots Q w N M (pc) lv (.int x :: st) := fun H locs ls hP hS hl => lv_if_le K.x K.b hd ht (fun h9 => kt h9 H locs ls hP hS hl) (fun h9 => kf h9 H locs ls hP hS hl)
theorem x_icmp_le (K : XC p s m args meth c cc nL ret Ts own w) {x y : Int32} {off : Int} {tgt : Nat} (hd : decode cc pc = .ok (.if_icmp .le off, 3)) (ht : (pc : Int) + off = (tgt : Int)) (kt : x ≤ y → XW p l e R s m args below meth c nL cells slots Q w N M (tgt) lv (st)) (kf : ¬ x ≤ y → XW p l e R s m args below meth c nL cells slots Q w N M (pc + 3) lv (st)) : XW p l e R s m args below meth c nL cells slots Q w N M (pc) lv (.int y :: .int x :: st) := fun H locs ls hP hS hl => lv_icmp_le K.x K.b hd ht (fun h9 => kt h9 H locs ls hP hS hl) (fun h9 => kf h9 H locs ls hP hS hl)
theorem x_ifnull (K : XC p s m args meth c cc nL ret Ts own w) {x : Nat} {off : Int} (hd : decode cc pc = .ok (.ifnull off, 3)) (kk : XW p l e R s m args below meth c nL cells slots Q w N M (pc + 3) lv (st)) : XW p l e R s m args below meth c nL cells slots Q w N M (pc) lv (.ref x :: st) := fun H locs ls hP hS hl => lv_ifnull K.x K.b hd (kk H locs ls hP hS hl)
theorem x_ifnonnull (K : XC p s m args meth c cc nL ret Ts own w) {x : Nat} {off : Int} {tgt : Nat} (hd : decode cc pc = .ok (.ifnonnull off, 3)) (ht : (pc : Int) + off = (tgt : Int)) (kk : XW p l e R s m args below meth c nL cells slots Q w N M (tgt) lv (st)) : XW p l e R s m args below meth c nL cells slots Q w N M (pc) lv (.ref x :: st) := fun H locs ls hP hS hl => lv_ifnonnull K.x K.b hd ht (kk H locs ls hP hS hl)
theorem x_ifnullN (K : XC p s m args meth c cc nL ret Ts own w) {off : Int} {tgt : Nat} (hd : decode cc pc = .ok (.ifnull off, 3)) (ht : (pc : Int) + off = (tgt : Int)) (kk : XW p l e R s m args below meth c nL cells slots Q w N M (tgt) lv (st)) : XW p l e R s m args below meth c nL cells slots Q w N M (pc) lv (.null :: st) := fun H locs ls hP hS hl => lv_ifnullN K.x K.b hd ht (kk H locs ls hP hS hl)
theorem x_ifnonnullN (K : XC p s m args meth c cc nL ret Ts own w) {off : Int} (hd : decode cc pc = .ok (.ifnonnull off, 3)) (kk : XW p l e R s m args below meth c nL cells slots Q w N M (pc + 3) lv (st)) : XW p l e R s m args below meth c nL cells slots Q w N M (pc) lv (.null :: st) := fun H locs ls hP hS hl => lv_ifnonnullN K.x K.b hd (kk H locs ls hP hS hl)
theorem x_tableIn (K : XC p s m args meth c cc nL ret Ts own w) {dflt lo hi : Int} {offs : Array Int} {len : Nat} {x : Int32} {off : Int} {tgt : Nat} (hd : decode cc pc = .ok (.tableswitch dflt lo hi offs, len)) (h1 : ¬ x.toInt < lo) (h2 : ¬ hi < x.toInt) (ho : offs[(x.toInt - lo).toNat]? = some off) (ht : (pc : Int) + off = (tgt : Int)) (kk : XW p l e R s m args below meth c nL cells slots Q w N M (tgt) lv (st)) : XW p l e R s m args below meth c nL cells slots Q w N M (pc) lv (.int x :: st) := fun H locs ls hP hS hl => lv_tableIn K.x K.b hd h1 h2 ho ht (kk H locs ls hP hS hl)
theorem x_tableOut (K : XC p s m args meth c cc nL ret Ts own w) {dflt lo hi : Int} {offs : Array Int} {len : Nat} {x : Int32} {tgt : Nat} (hd : decode cc pc = .ok (.tableswitch dflt lo hi offs, len)) (h1 : x.toInt < lo ∨ hi < x.toInt) (ht : (pc : Int) + dflt = (tgt : Int)) (kk : XW p l e R s m args below meth c nL cells slots Q w N M (tgt) lv (st)) : XW p l e R s m args below meth c nL cells slots Q w N M (pc) lv (.int x :: st) := fun H locs ls hP hS hl => lv_tableOut K.x K.b hd h1 ht (kk H locs ls hP hS hl)
theorem x_topi {x : Int32} (k : ∀ y : Int32, y = x → XW p l e R s m args below meth c nL cells slots Q w N M (pc) lv (.int y :: st)) : XW p l e R s m args below meth c nL cells slots Q w N M (pc) lv (.int x :: st) := k x rfl
theorem x_eqi {x y : Int32} (h : x = y) (k : XW p l e R s m args below meth c nL cells slots Q w N M (pc) lv (.int y :: st)) : XW p l e R s m args below meth c nL cells slots Q w N M (pc) lv (.int x :: st) := h ▸ k
theorem x_lv (ks : List Nat) (h : lv_pick lv ks = lv') (k : XW p l e R s m args below meth c nL cells slots Q w N M (pc) lv' (st)) : XW p l e R s m args below meth c nL cells slots Q w N M (pc) lv (st) := fun H locs ls hP hS hl => k H locs ls hP hS (lv_sub hl ks h)
theorem x_geti (K : XC p s m args meth c cc nL ret Ts own w) {n ci k index Nf : Nat} {bs : List Bool} {C : String} {T : u_T} (hn : n < N) (hsh : zSh n = .inl (ci, bs)) (hk : bs[k]? = some false) (hc : zCl[ci]? = some (C, T, Nf)) (hkN : k < Nf) (hin : ∀ t ∈ u_ws C T Nf, t ∈ Ts) (hlk : Cond.fieldLink own index (T k).1 (T k).2.1 (T k).2.2.1 ∈ Ts) (hd : decode cc pc = .ok (.getfield index, 3)) (kk : XW p l e R s m args below meth c nL cells slots Q w N M (pc + 3) lv (.int (M.1 n k) :: st)) : XW p l e R s m args below meth c nL cells slots Q w N M (pc) lv (.ref (w.2.2 + n) :: st) := by
  intro H locs ls hP hS hl
  have he := fl_ws_get (sh := zSh) (w := w) (M := M) hn
  rw [hsh] at he
  exact va_get (v := .int (M.1 n k)) K.x K.b K.ts hin K.o K.K hP n he hc k hkN (K.ts _ hlk) (fun _ h9 => h9) (by rw [fl_fs_get, hk]; simp [fl_v]) hd (kk H locs ls hP hS hl)
theorem x_getr (K : XC p s m args meth c cc nL ret Ts own w) {n n' ci k index Nf : Nat} {bs : List Bool} {C : String} {T : u_T} (hn : n < N) (hsh : zSh n = .inl (ci, bs)) (hk : bs[k]? = some true) (hr : M.2 n k = some n') (hc : zCl[ci]? = some (C, T, Nf)) (hkN : k < Nf) (hin : ∀ t ∈ u_ws C T Nf, t ∈ Ts) (hlk : Cond.fieldLink own index (T k).1 (T k).2.1 (T k).2.2.1 ∈ Ts) (hd : decode cc pc = .ok (.getfield index, 3)) (kk : XW p l e R s m args below meth c nL cells slots Q w N M (pc + 3) lv (.ref (w.2.2 + n') :: st)) : XW p l e R s m args below meth c nL cells slots Q w N M (pc) lv (.ref (w.2.2 + n) :: st) := by
  intro H locs ls hP hS hl
  have he := fl_ws_get (sh := zSh) (w := w) (M := M) hn
  rw [hsh] at he
  exact va_get (v := .ref (w.2.2 + n')) K.x K.b K.ts hin K.o K.K hP n he hc k hkN (K.ts _ hlk) (fun _ h9 => h9) (by rw [fl_fs_get, hk]; simp [fl_v, hr, va_rf]) hd (kk H locs ls hP hS hl)
theorem x_puti (K : XC p s m args meth c cc nL ret Ts own w) {n ci k index Nf : Nat} {x : Int32} {bs : List Bool} {C : String} {T : u_T} (ty0 : Nat → FieldType) (hty : ∀ k, k < Nf → parseFieldDescriptor (T k).2.2.1 = some (ty0 k)) (hnm : ∀ a, a < Nf → ∀ b, b < Nf → a ≠ b → (T a).2.1 ≠ (T b).2.1) (hn : n < N) (hsh : zSh n = .inl (ci, bs)) (hk : bs[k]? = some false) (hc : zCl[ci]? = some (C, T, Nf)) (hkN : k < Nf) (hin : ∀ t ∈ u_ws C T Nf, t ∈ Ts) (hlk : Cond.fieldLink own index (T k).1 (T k).2.1 (T k).2.2.1 ∈ Ts) (hfin : (T k).2.2.2 = false) (hnr : narrow (ty0 k) (.int x) = .int x) (hft : fits (ty0 k) (.int x) = true) (hd : decode cc pc = .ok (.putfield index, 3)) (kk : XW p l e R s m args below meth c nL cells slots Q w N (wI M n k x) (pc + 3) lv (st)) : XW p l e R s m args below meth c nL cells slots Q w N M (pc) lv (.int x :: .ref (w.2.2 + n) :: st) := by
  intro H locs ls hP hS hl
  have he := fl_ws_get (sh := zSh) (w := w) (M := M) hn
  have hE : fl_c w (zSh n) (M.1 n) (M.2 n) = .inr (ci, fl_fs w.2.2 (M.1 n) (M.2 n) 0 bs) := by rw [hsh]; rfl
  rw [hE] at he
  have hset : (fl_ws zSh w N M).set n (w.2.2 + n, .inr (ci, (fl_fs w.2.2 (M.1 n) (M.2 n) 0 bs).set k (.int x))) = fl_ws zSh w N (wI M n k x) := by
    refine fl_ws_set (fun a ha => ⟨fl_u_row ha, rfl⟩) ?_
    rw [hsh]
    show Sum.inr (ci, _) = Sum.inr (ci, _)
    rw [fl_fs_set (fi := M.1 n) (fr := M.2 n) (fi' := (wI M n k x).1 n) (fr' := (wI M n k x).2 n) (fun i hi => ⟨fl_u_col hi, rfl⟩) (fun x9 h9 => by rw [hk] at h9; cases h9; show Value.int ((wI M n k x).1 n k) = _; rw [show (wI M n k x).1 n k = x from fl_u_self])]
  refine va_put (v := .int x) (ty := ty0 k) K.x K.b K.ts hin ty0 hty hnm K.o K.K hP fl_ws_D hS n he hc k hkN (K.ts _ hlk) (fun _ h9 => h9) hfin (hty k hkN) hnr hft (by rw [fl_fs_len]; exact (List.getElem?_eq_some_iff.mp hk).1) hd (fun H1 locs1 hP1 _ hS1 => ?_)
  rw [hset] at hP1
  exact kk H1 locs1 ls hP1 hS1 hl
theorem x_iald (K : XC p s m args meth c cc nL ret Ts own w) {n t len j : Nat} {i : Int32} (hi : i = nI j) (hj : j < len) (hn : n < N) (hsh : zSh n = .inr (t, len, false)) (ht : (zTy w)[t]? = some (w.2.1 t, .int)) (hlen : len < 2 ^ 31) (hd : decode cc pc = .ok (.iaload, 1)) (kk : XW p l e R s m args below meth c nL cells slots Q w N M (pc + 1) lv (.int (M.1 n j) :: st)) : XW p l e R s m args below meth c nL cells slots Q w N M (pc) lv (.int i :: .ref (w.2.2 + n) :: st) := by
  intro H locs ls hP hS hl
  subst hi
  have he := fl_ws_get (sh := zSh) (w := w) (M := M) hn
  rw [hsh] at he
  refine va_iald K.x K.b K.K hP n t he ht (vp_in_nI hj hlen) hd ?_
  rw [nI_clamp (Nat.lt_trans hj hlen)]
  exact kk H locs ls hP hS hl
theorem fl_iset {n j len t : Nat} {x : Int32} (hsh : zSh n = .inr (t, len, false)) : (fl_ws zSh w N M).set n (w.2.2 + n, .inl (w.2.1 t, len, .inl (upd (M.1 n) j x))) = fl_ws zSh w N (wI M n j x) := by
  refine fl_ws_set (fun a ha => ⟨fl_u_row ha, rfl⟩) ?_
  rw [hsh]
  show Sum.inl (_, _, Sum.inl _) = Sum.inl (_, _, Sum.inl _)
  have e9 : upd (M.1 n) j x = (wI M n j x).1 n := by
    funext q
    by_cases hq : q = j
    · subst hq; rw [pk_us]; exact fl_u_self.symm
    · rw [pk_un hq]; exact (fl_u_col hq).symm
  rw [e9]
theorem x_iast (K : XC p s m args meth c cc nL ret Ts own w) {n t len j : Nat} {i x : Int32} (hi : i = nI j) (hj : j < len) (hn : n < N) (hsh : zSh n = .inr (t, len, false)) (ht : (zTy w)[t]? = some (w.2.1 t, .int)) (hlen : len < 2 ^ 31) (hd : decode cc pc = .ok (.iastore, 1)) (kk : XW p l e R s m args below meth c nL cells slots Q w N (wI M n j x) (pc + 1) lv (st)) : XW p l e R s m args below meth c nL cells slots Q w N M (pc) lv (.int x :: .int i :: .ref (w.2.2 + n) :: st) := by
  intro H locs ls hP hS hl
  subst hi
  have he := fl_ws_get (sh := zSh) (w := w) (M := M) hn
  have hE : fl_c w (zSh n) (M.1 n) (M.2 n) = .inl (w.2.1 t, len, .inl (M.1 n)) := by rw [hsh]; rfl
  rw [hE] at he
  refine va_iast K.x K.b K.K hP fl_ws_D hS n t he ht (vp_in_nI hj hlen) hd (fun H1 locs1 hP1 _ hS1 => ?_)
  rw [nI_clamp (Nat.lt_trans hj hlen), fl_iset hsh] at hP1
  exact kk H1 locs1 ls hP1 hS1 hl
theorem x_aald (K : XC p s m args meth c cc nL ret Ts own w) {n n' t len j : Nat} {C : String} {i : Int32} (hi : i = nI j) (hj : j < len) (hr : M.2 n j = some n') (hn : n < N) (hsh : zSh n = .inr (t, len, true)) (ht : (zTy w)[t]? = some (w.2.1 t, .object C)) (hlen : len < 2 ^ 31) (hd : decode cc pc = .ok (.aaload, 1)) (kk : XW p l e R s m args below meth c nL cells slots Q w N M (pc + 1) lv (.ref (w.2.2 + n') :: st)) : XW p l e R s m args below meth c nL cells slots Q w N M (pc) lv (.int i :: .ref (w.2.2 + n) :: st) := by
  intro H locs ls hP hS hl
  subst hi
  have he := fl_ws_get (sh := zSh) (w := w) (M := M) hn
  rw [hsh] at he
  refine va_aldq K.x K.b K.K hP n t he ht (vp_in_nI hj hlen) hd ?_
  rw [nI_clamp (Nat.lt_trans hj hlen), hr]
  exact kk H locs ls hP hS hl
theorem x_aaldN (K : XC p s m args meth c cc nL ret Ts own w) {n t len j : Nat} {C : String} {i : Int32} (hi : i = nI j) (hj : j < len) (hr : M.2 n j = none) (hn : n < N) (hsh : zSh n = .inr (t, len, true)) (ht : (zTy w)[t]? = some (w.2.1 t, .object C)) (hlen : len < 2 ^ 31) (hd : decode cc pc = .ok (.aaload, 1)) (kk : XW p l e R s m args below meth c nL cells slots Q w N M (pc + 1) lv (.null :: st)) : XW p l e R s m args below meth c nL cells slots Q w N M (pc) lv (.int i :: .ref (w.2.2 + n) :: st) := by
  intro H locs ls hP hS hl
  subst hi
  have he := fl_ws_get (sh := zSh) (w := w) (M := M) hn
  rw [hsh] at he
  refine va_aldq K.x K.b K.K hP n t he ht (vp_in_nI hj hlen) hd ?_
  rw [nI_clamp (Nat.lt_trans hj hlen), hr]
  exact kk H locs ls hP hS hl
theorem fl_qset {n j len t : Nat} {r : Option Nat} (hsh : zSh n = .inr (t, len, true)) : (fl_ws zSh w N M).set n (w.2.2 + n, .inl (w.2.1 t, len, .inr (.inr (.inr (.inr (va_up (fun i => (M.2 n i).map (fun n => w.2.2 + n)) j (r.map (fun n => w.2.2 + n)))))))) = fl_ws zSh w N (wR M n j r) := by
  refine fl_ws_set (fun a ha => ⟨rfl, fl_u_row ha⟩) ?_
  rw [hsh]
  show Sum.inl (_, _, Sum.inr (Sum.inr (Sum.inr (Sum.inr _)))) = Sum.inl (_, _, Sum.inr (Sum.inr (Sum.inr (Sum.inr _))))
  have e9 : va_up (fun i => (M.2 n i).map (fun n => w.2.2 + n)) j (r.map (fun n => w.2.2 + n)) = fun i => ((wR M n j r).2 n i).map (fun n => w.2.2 + n) := by
    funext q
    by_cases hq : q = j
    · subst hq
      rw [va_up_self, show (wR M n q r).2 n q = r from fl_u_self]
    · rw [va_up_ne _ _ hq, show (wR M n j r).2 n q = M.2 n q from fl_u_col hq]
  rw [e9]
theorem x_aast (K : XC p s m args meth c cc nL ret Ts own w) {n n' t len j ci : Nat} {bs : List Bool} {r : vw_C} {i : Int32} (hi : i = nI j) (hj : j < len) (hn : n < N) (hsh : zSh n = .inr (t, len, true)) (ht : (zTy w)[t]? = some (w.2.1 t, .object r.1)) (hn' : n' < N) (hsh' : zSh n' = .inl (ci, bs)) (hc : zCl[ci]? = some r) (hlen : len < 2 ^ 31) (hd : decode cc pc = .ok (.aastore, 1)) (kk : XW p l e R s m args below meth c nL cells slots Q w N (wR M n j (some n')) (pc + 1) lv (st)) : XW p l e R s m args below meth c nL cells slots Q w N M (pc) lv (.ref (w.2.2 + n') :: .int i :: .ref (w.2.2 + n) :: st) := by
  intro H locs ls hP hS hl
  subst hi
  have he := fl_ws_get (sh := zSh) (w := w) (M := M) hn
  have hE : fl_c w (zSh n) (M.1 n) (M.2 n) = .inl (w.2.1 t, len, .inr (.inr (.inr (.inr (fun i => (M.2 n i).map (fun n => w.2.2 + n)))))) := by rw [hsh]; rfl
  rw [hE] at he
  have he' := fl_ws_get (sh := zSh) (w := w) (M := M) hn'
  rw [hsh'] at he'
  refine va_astq K.x K.b K.K hP fl_ws_D hS n t n' ci he ht he' hc (vp_in_nI hj hlen) hd (fun H1 locs1 hP1 _ hS1 => ?_)
  rw [nI_clamp (Nat.lt_trans hj hlen)] at hP1
  rw [show some (w.2.2 + n') = (some n').map (fun n => w.2.2 + n) from rfl, fl_qset hsh] at hP1
  exact kk H1 locs1 ls hP1 hS1 hl
theorem x_aastN (K : XC p s m args meth c cc nL ret Ts own w) {n t len j : Nat} {C : String} {i : Int32} (hi : i = nI j) (hj : j < len) (hn : n < N) (hsh : zSh n = .inr (t, len, true)) (ht : (zTy w)[t]? = some (w.2.1 t, .object C)) (hlen : len < 2 ^ 31) (hd : decode cc pc = .ok (.aastore, 1)) (kk : XW p l e R s m args below meth c nL cells slots Q w N (wR M n j none) (pc + 1) lv (st)) : XW p l e R s m args below meth c nL cells slots Q w N M (pc) lv (.null :: .int i :: .ref (w.2.2 + n) :: st) := by
  intro H locs ls hP hS hl
  subst hi
  have he := fl_ws_get (sh := zSh) (w := w) (M := M) hn
  have hE : fl_c w (zSh n) (M.1 n) (M.2 n) = .inl (w.2.1 t, len, .inr (.inr (.inr (.inr (fun i => (M.2 n i).map (fun n => w.2.2 + n)))))) := by rw [hsh]; rfl
  rw [hE] at he
  refine va_astqN K.x K.b K.K hP fl_ws_D hS n t he ht (vp_in_nI hj hlen) hd (fun H1 locs1 hP1 _ hS1 => ?_)
  rw [nI_clamp (Nat.lt_trans hj hlen)] at hP1
  rw [show (none : Option Nat) = (none : Option Nat).map (fun n => w.2.2 + n) from rfl, fl_qset hsh] at hP1
  exact kk H1 locs1 ls hP1 hS1 hl
theorem x_idiv (K : XC p s m args meth c cc nL ret Ts own w) {x y : Int32} (hd : decode cc pc = .ok (.idiv, 1)) (hne : ¬ y = 0) (kk : XW p l e R s m args below meth c nL cells slots Q w N M (pc + 1) lv (.int (x / y) :: st)) : XW p l e R s m args below meth c nL cells slots Q w N M (pc) lv (.int y :: .int x :: st) := fun H locs ls hP hS hl => lv_idiv K.x K.b hd hne (kk H locs ls hP hS hl)
theorem x_irem (K : XC p s m args meth c cc nL ret Ts own w) {x y : Int32} (hd : decode cc pc = .ok (.irem, 1)) (hne : ¬ y = 0) (kk : XW p l e R s m args below meth c nL cells slots Q w N M (pc + 1) lv (.int (x - x / y * y) :: st)) : XW p l e R s m args below meth c nL cells slots Q w N M (pc) lv (.int y :: .int x :: st) := fun H locs ls hP hS hl => lv_irem K.x K.b hd hne (kk H locs ls hP hS hl)
theorem x_iushr (K : XC p s m args meth c cc nL ret Ts own w) {x y v : Int32} (hd : decode cc pc = .ok (.iushr, 1)) (hv : (x.toUInt32 >>> (y.toUInt32 &&& Int32.toUInt32 31)).toInt32 = v) (kk : XW p l e R s m args below meth c nL cells slots Q w N M (pc + 1) lv (.int v :: st)) : XW p l e R s m args below meth c nL cells slots Q w N M (pc) lv (.int y :: .int x :: st) := fun H locs ls hP hS hl => lv_iushr K.x K.b hd hv (kk H locs ls hP hS hl)
theorem x_ldcw (K : XC p s m args meth c cc nL ret Ts own w) {v : Int32} {index : Nat} (hd : decode cc pc = .ok (.ldc_w index, 3)) (hc : Cond.constant own index v ∈ Ts) (kk : XW p l e R s m args below meth c nL cells slots Q w N M (pc + 3) lv (.int v :: st)) : XW p l e R s m args below meth c nL cells slots Q w N M (pc) lv (st) := fun H locs ls hP hS hl => lv_ldcw K.x K.b K.o (K.ts _ hc) hd (kk H locs ls hP hS hl)
theorem x_ifeqB (K : XC p s m args meth c cc nL ret Ts own w) {P : Prop} [Decidable P] {off : Int} {tgt : Nat} (hd : decode cc pc = .ok (.ifCond .eq off, 3)) (ht : (pc : Int) + off = (tgt : Int)) (kt : ¬ P → XW p l e R s m args below meth c nL cells slots Q w N M (tgt) lv (st)) (kf : P → XW p l e R s m args below meth c nL cells slots Q w N M (pc + 3) lv (st)) : XW p l e R s m args below meth c nL cells slots Q w N M (pc) lv (.int (bI P) :: st) := fun H locs ls hP hS hl => lv_if_eq K.x K.b hd ht (fun h9 => kt (bI_e.mp h9) H locs ls hP hS hl) (fun h9 => kf (Decidable.not_not.mp (fun q => h9 (bI_e.mpr q))) H locs ls hP hS hl)
theorem x_ifneB (K : XC p s m args meth c cc nL ret Ts own w) {P : Prop} [Decidable P] {off : Int} {tgt : Nat} (hd : decode cc pc = .ok (.ifCond .ne off, 3)) (ht : (pc : Int) + off = (tgt : Int)) (kt : P → XW p l e R s m args below meth c nL cells slots Q w N M (tgt) lv (st)) (kf : ¬ P → XW p l e R s m args below meth c nL cells slots Q w N M (pc + 3) lv (st)) : XW p l e R s m args below meth c nL cells slots Q w N M (pc) lv (.int (bI P) :: st) := fun H locs ls hP hS hl => lv_if_ne K.x K.b hd ht (fun h9 => kt (Decidable.not_not.mp (fun q => h9 (bI_e.mpr q))) H locs ls hP hS hl) (fun h9 => kf (bI_e.mp h9) H locs ls hP hS hl)
theorem x_zald (K : XC p s m args meth c cc nL ret Ts own w) {n t len j : Nat} {i : Int32} (hi : i = nI j) (hj : j < len) (hn : n < N) (hsh : zSh n = .inr (t, len, false)) (ht : (zTy w)[t]? = some (w.2.1 t, .boolean)) (hlen : len < 2 ^ 31) (hd : decode cc pc = .ok (.baload, 1)) (kk : XW p l e R s m args below meth c nL cells slots Q w N M (pc + 1) lv (.int (M.1 n j) :: st)) : XW p l e R s m args below meth c nL cells slots Q w N M (pc) lv (.int i :: .ref (w.2.2 + n) :: st) := by
  intro H locs ls hP hS hl
  subst hi
  have he := fl_ws_get (sh := zSh) (w := w) (M := M) hn
  rw [hsh] at he
  refine va_zald K.x K.b K.K hP n t he ht (vp_in_nI hj hlen) hd ?_
  rw [nI_clamp (Nat.lt_trans hj hlen)]
  exact kk H locs ls hP hS hl
theorem x_zast (K : XC p s m args meth c cc nL ret Ts own w) {n t len j : Nat} {i x : Int32} (hz : isZ x) (hi : i = nI j) (hj : j < len) (hn : n < N) (hsh : zSh n = .inr (t, len, false)) (ht : (zTy w)[t]? = some (w.2.1 t, .boolean)) (hlen : len < 2 ^ 31) (hd : decode cc pc = .ok (.bastore, 1)) (kk : XW p l e R s m args below meth c nL cells slots Q w N (wI M n j x) (pc + 1) lv (st)) : XW p l e R s m args below meth c nL cells slots Q w N M (pc) lv (.int x :: .int i :: .ref (w.2.2 + n) :: st) := by
  intro H locs ls hP hS hl
  subst hi
  have he := fl_ws_get (sh := zSh) (w := w) (M := M) hn
  have hE : fl_c w (zSh n) (M.1 n) (M.2 n) = .inl (w.2.1 t, len, .inl (M.1 n)) := by rw [hsh]; rfl
  rw [hE] at he
  refine va_zast K.x K.b K.K hP fl_ws_D hS n t he ht (vp_in_nI hj hlen) hd (fun H1 locs1 hP1 _ hS1 => ?_)
  rw [nI_clamp (Nat.lt_trans hj hlen), isZ_v hz, fl_iset hsh] at hP1
  exact kk H1 locs1 ls hP1 hS1 hl
/-- the class's constant arrays: read through the static field -/
theorem x_KL (K : XC p s m args meth c cc nL ret Ts own w) {index : Nat} (ho : own = "CompatibilityJudge") (hlk : Cond.fieldLink own index "CompatibilityJudge" "KEY_LIMITS" "[I" ∈ Ts) (hd : decode cc pc = .ok (.getstatic index, 3)) (kk : ∀ t1 : Nat, va_T .int t1 3 (fun j => .int (zKL j)) (fun q : Nat => w.2.2 ≤ q) s s.heap → XW p l e R s m args below meth c nL cells slots Q w N M (pc + 3) lv (.ref t1 :: st)) : XW p l e R s m args below meth c nL cells slots Q w N M (pc) lv (st) := by
  intro H locs ls hP hS hl
  obtain ⟨⟨t1, t2, a, b, -, -⟩, -⟩ := K.S
  exact va_gets K.x K.b a hS K.o (K.ts _ hlk) (fun _ h9 => h9) hd (kk t1 b H locs ls hP hS hl)
theorem x_SV (K : XC p s m args meth c cc nL ret Ts own w) {index : Nat} (ho : own = "CompatibilityJudge") (hlk : Cond.fieldLink own index "CompatibilityJudge" "SEVERITIES" "[I" ∈ Ts) (hd : decode cc pc = .ok (.getstatic index, 3)) (kk : ∀ t1 : Nat, va_T .int t1 14 (fun j => .int (zSV j)) (fun q : Nat => w.2.2 ≤ q) s s.heap → XW p l e R s m args below meth c nL cells slots Q w N M (pc + 3) lv (.ref t1 :: st)) : XW p l e R s m args below meth c nL cells slots Q w N M (pc) lv (st) := by
  intro H locs ls hP hS hl
  obtain ⟨⟨t1, t2, -, -, a, b⟩, -⟩ := K.S
  exact va_gets K.x K.b a hS K.o (K.ts _ hlk) (fun _ h9 => h9) hd (kk t2 b H locs ls hP hS hl)
theorem x_tald (K : XC p s m args meth c cc nL ret Ts own w) {t1 L j : Nat} {f : Nat → Int32} {i : Int32} (hT : va_T .int t1 L (fun j => .int (f j)) (fun q : Nat => w.2.2 ≤ q) s s.heap) (hi : i = nI j) (hj : j < L) (hL : L < 2 ^ 31) (hd : decode cc pc = .ok (.iaload, 1)) (kk : XW p l e R s m args below meth c nL cells slots Q w N M (pc + 1) lv (.int (f j) :: st)) : XW p l e R s m args below meth c nL cells slots Q w N M (pc) lv (.int i :: .ref t1 :: st) := by
  intro H locs ls hP hS hl
  subst hi
  refine va_ti K.x K.b hT hS (vp_in_nI hj hL) rfl hd ?_
  rw [nI_clamp (Nat.lt_trans hj hL)]
  exact kk H locs ls hP hS hl
/-- where a method ends in the flat world: answer r, memory M' of N names -/
def CQ (w : fl_W) (N : Nat) (r : Option Value) (M' : fl_M) : Array Value → State → Outcome → State → Prop := fun _ st oc t => oc = .returned r ∧ va_P w.1 zCl (fl_ws zSh w N M') t.heap ∧ va_F (fun q : Nat => w.2.2 ≤ q) st t
/-- where it begins -/
def CB (w : fl_W) (N : Nat) (M : fl_M) (U : State) : Prop := va_P w.1 zCl (fl_ws zSh w N M) U.heap ∧ va_K w.1 zCl (zTy w) U ∧ zS w U U.heap
/-- A CONTRACT: with the arguments av and the memory M the method answers r and leaves M' -/
def CT (l : Launch) (y : MethodName) (ws : List Cond) (rm : Room) (w : fl_W) (N : Nat) (av : List Value) (M : fl_M) (r : Option Value) (M' : fl_M) : Prop :=
  Met l y ws rm (va_Pc av (CB w N M)) (CQ w N r M') 0 0 (fun q : Nat => w.2.2 ≤ q)
theorem CT.of {y : MethodName} {ws ws' : List Cond} {rm : Room} {av : List Value} {r : Option Value} {maxL : Nat} (hy : plainName y.cls = true) (hw : ws = Cond.code y cc maxL ret :: ws') (hown : y.cls = own) (hav : (lg_sl av).length ≤ maxL)
    (body : ∀ (p : Program) (e : Env) (s : State) (m : MethodId) (args : Array Value) (below : List Frame) (meth : Method) (c : Code), XC p s m args meth c cc maxL ret ws own w → XW p l e rm s m args below meth c maxL 0 0 (MQ below (CQ w N r M') args s 0 0 (fun q : Nat => w.2.2 ≤ q)) w N M 0 (lv_args 0 av) []) : CT l y ws rm w N av M r M' := by
  refine Met.ofW (cc := cc) (maxL := maxL) (ret := ret) hy hw ?_
  intro p e s m args below meth c s₁ B hml hv
  obtain ⟨rfl, hP, hK, hZ⟩ := hv
  have hl := lv_entry av (n := maxL) hav
  rw [lg_entry_eq]
  exact body p e s m _ below meth c ⟨B.exec, B.bytes, hml, by rw [← hown]; exact findClass_of_methodNamed B.named, atoms_spec (ws := ws) B.pre, hK, B.notSynchronized, B.returns, hZ⟩ s.heap [] _ hP va_S.rf hl
theorem x_iret {v : Int32} (K : XC p s m args meth c cc nL (some .int) Ts own w) {r : Option Value} (hr : some (.int v) = r) (hM : M = M') (hd : decode cc pc = .ok (.ireturn, 1)) : XW p l e R s m args below meth c nL cells slots (MQ below (CQ w N r M') args s cells slots (fun q : Nat => w.2.2 ≤ q)) w N M pc lv [.int v] := by
  intro H locs ls hP hS hl
  subst hr; subst hM
  exact W.iret K.x K.b K.rt (fun t ht _ => ⟨rfl, by rw [ht]; exact hP, hS.F ht⟩) hS.2.2 hd K.lk
theorem x_zret {v : Int32} (K : XC p s m args meth c cc nL (some .boolean) Ts own w) {r : Option Value} (hr : some (.int v) = r) (hM : M = M') (hn : narrow .boolean (.int v) = .int v) (hd : decode cc pc = .ok (.ireturn, 1)) : XW p l e R s m args below meth c nL cells slots (MQ below (CQ w N r M') args s cells slots (fun q : Nat => w.2.2 ≤ q)) w N M pc lv [.int v] := by
  intro H locs ls hP hS hl
  subst hr; subst hM
  exact W.zret K.x K.b K.rt hn (fun t ht _ => ⟨rfl, by rw [ht]; exact hP, hS.F ht⟩) hS.2.2 hd K.lk
theorem x_vret  (K : XC p s m args meth c cc nL none Ts own w) {r : Option Value} (hr : none = r) (hM : M = M') (hd : decode cc pc = .ok (.return_, 1)) : XW p l e R s m args below meth c nL cells slots (MQ below (CQ w N r M') args s cells slots (fun q : Nat => w.2.2 ≤ q)) w N M pc lv [] := by
  intro H locs ls hP hS hl
  subst hr; subst hM
  exact W.vret K.x K.b K.rt (fun t ht _ => ⟨rfl, by rw [ht]; exact hP, hS.F ht⟩) hS.2.2 hd K.lk
theorem x_aret {C : String} {v : Nat} (K : XC p s m args meth c cc nL (some (.object C)) Ts own w) {r : Option Value} (hr : some (.ref v) = r) (hM : M = M') (hd : decode cc pc = .ok (.areturn, 1)) : XW p l e R s m args below meth c nL cells slots (MQ below (CQ w N r M') args s cells slots (fun q : Nat => w.2.2 ≤ q)) w N M pc lv [.ref v] := by
  intro H locs ls hP hS hl
  subst hr; subst hM
  exact W.aret K.x K.b K.rt (Or.inl ⟨_, rfl⟩) (Or.inr ⟨_, rfl⟩) (fun t ht _ => ⟨rfl, by rw [ht]; exact hP, hS.F ht⟩) hS.2.2 hd K.lk
theorem x_aretN {C : String} (K : XC p s m args meth c cc nL (some (.object C)) Ts own w) {r : Option Value} (hr : some .null = r) (hM : M = M') (hd : decode cc pc = .ok (.areturn, 1)) : XW p l e R s m args below meth c nL cells slots (MQ below (CQ w N r M') args s cells slots (fun q : Nat => w.2.2 ≤ q)) w N M pc lv [.null] := by
  intro H locs ls hP hS hl
  subst hr; subst hM
  exact W.aret K.x K.b K.rt (Or.inl ⟨_, rfl⟩) (Or.inl rfl) (fun t ht _ => ⟨rfl, by rw [ht]; exact hP, hS.F ht⟩) hS.2.2 hd K.lk
theorem cq_blind {av : List Value} : FrameBlind (va_Pc av (CB w N M)) := fun a U g mk q => by
  obtain ⟨q0, qP, qK, qZ⟩ := q
  exact ⟨q0, qP, va_K.moved (u := U) (U := U.calling g mk a) (Vm.Alike.refl U.vm) qK, zS.same (u := U) (U := U.calling g mk a) rfl qZ⟩
theorem cq_pre {H : Heap} {locs : List Loc} {av : List Value} (K : XC p s m args meth c cc nL ret Ts own w) (hP : va_P w.1 zCl (fl_ws zSh w N M) H) (hS : va_S (fun q : Nat => w.2.2 ≤ q) s.heap H locs) : ∀ U : State, U.heap = H → s.WarmedH U.vm → va_Pc av (CB w N M) av.toArray U := fun U hU hW => ⟨rfl, by rw [hU]; exact hP, va_K.moved hW.alike K.K, by rw [hU]; exact (zS.warm hW K.S).kept (fun a h1 h2 => hS.2.1 a h1 h2)⟩
theorem x_goes {H : Heap} {locs : List Loc} {ls : Array Slot} {rest st0 : List Value} {r : Option Value} {a : Array Value} (hr : va_Run p l e R s m args below meth c H locs cells slots 0 0 (F0 m pc ls st0) rest (CQ w N r M' a) (fun q : Nat => w.2.2 ≤ q)) (hS : va_S (fun q : Nat => w.2.2 ≤ q) s.heap H locs) (hl : lv_has ls nL lv) (kk : XW p l e R s m args below meth c nL cells slots Q w N M' (pc + 3) lv (r.toList ++ rest)) : W p l e R s m args below meth c H locs cells slots Q (F0 m pc ls st0) := by
  intro T hT X
  obtain ⟨v, st₀, t, T', L, h0, X', hL, e1, e2, ⟨hv, hP1, hz, hk⟩, st⟩ := hr T hT X
  cases hv
  have hS1 : va_S (fun q : Nat => w.2.2 ≤ q) s.heap t.heap (locs ++ L) := ⟨Nat.le_trans hS.1 (by rw [← h0]; exact hz), fun q h1 h2 => (hk q (by rw [h0]; exact Nat.lt_of_lt_of_le h1 hS.1) h2).trans (by rw [h0]; exact hS.2.1 q h1 h2), t_lL hS.2.2 hL⟩
  obtain ⟨t2, a1, b1⟩ := kk t.heap (locs ++ L) ls hP1 hS1 hl T' e1 X'
  exact ⟨t2, st t2 a1, b1⟩
theorem x_recv {H : Heap} (K : XC p s m args meth c cc nL ret Ts own w) {n0 ci Nf : Nat} {bs : List Bool} {C : String} {T : u_T} (hP : va_P w.1 zCl (fl_ws zSh w N M) H) (hn0 : n0 < N) (hsh : zSh n0 = .inl (ci, bs)) (hc : zCl[ci]? = some (C, T, Nf)) : ∃ cell : Cell, H[w.2.2 + n0]? = some cell ∧ cell.vm.isStatics = false ∧ s.vm.findClass C = some cell.cls := by
  have he := fl_ws_get (sh := zSh) (w := w) (M := M) hn0
  rw [hsh] at he
  exact va_recv K.K hP hc he
theorem x_callV (K : XC p s m args meth c cc nL ret Ts own w) {C : String} {v : Value} {y : MethodName} {bytes : ByteArray} {maxL n index : Nat} {ret9 : Option FieldType} {ws : List Cond} {rm : Room} {As rest : List Value} {n0 ci Nf : Nat} {bs : List Bool} {T : u_T} (hM : CT l y ws rm w N (.ref (w.2.2 + n0) :: As) M (some v) M') (cw : CallW R s args own C index y bytes maxL ret9 ws rm 0 0 n) (hn0 : n0 < N) (hsh : zSh n0 = .inl (ci, bs)) (hc : zCl[ci]? = some (C, T, Nf)) (hn : As.length = n) (hst : st = As.reverse ++ .ref (w.2.2 + n0) :: rest) (hW : (rest.map fun v => v.category).sum ≤ 8) (hcs : cells ≤ R.cells ∧ slots ≤ R.slots) (hd : decode cc pc = .ok (.invokevirtual index, 3)) (kk : XW p l e R s m args below meth c nL cells slots Q w N M' (pc + 3) lv (v :: rest)) : XW p l e R s m args below meth c nL cells slots Q w N M (pc) lv (st) := fun H locs ls hP hS hl =>
  x_goes (va_runV ⟨K.x, K.b, K.ml, K.o, K.ts⟩ hM cw ⟨cq_blind, x_recv K hP hn0 hsh hc, cq_pre K hP hS⟩ rfl hn hl.1 hst (lv_room hW) hd hcs) hS hl kk
theorem x_callVN (K : XC p s m args meth c cc nL ret Ts own w) {C host : String} {v : Value} {y : MethodName} {bytes : ByteArray} {maxL n index : Nat} {ret9 : Option FieldType} {ws : List Cond} {rm : Room} {As rest : List Value} {n0 ci Nf : Nat} {bs : List Bool} {T : u_T} (hM : CT l y ws rm w N (.ref (w.2.2 + n0) :: As) M (some v) M') (cw : va_CN R s args own index y host bytes maxL ret9 ws rm 0 0 n ∧ (Cond.instanceMethod y).before args s = true ∧ (Cond.selects C y y).before args s = true) (hn0 : n0 < N) (hsh : zSh n0 = .inl (ci, bs)) (hc : zCl[ci]? = some (C, T, Nf)) (hn : As.length = n) (hst : st = As.reverse ++ .ref (w.2.2 + n0) :: rest) (hW : (rest.map fun v => v.category).sum ≤ 8) (hcs : cells ≤ R.cells ∧ slots ≤ R.slots) (hd : decode cc pc = .ok (.invokevirtual index, 3)) (kk : XW p l e R s m args below meth c nL cells slots Q w N M' (pc + 3) lv (v :: rest)) : XW p l e R s m args below meth c nL cells slots Q w N M (pc) lv (st) := fun H locs ls hP hS hl =>
  x_goes (va_runVN ⟨K.x, K.b, K.ml, K.o, K.ts⟩ hM cw ⟨cq_blind, x_recv K hP hn0 hsh hc, cq_pre K hP hS⟩ rfl hn hl.1 hst (lv_room hW) hd hcs) hS hl kk
theorem x_callS (K : XC p s m args meth c cc nL ret Ts own w) {v : Value} {y : MethodName} {bytes : ByteArray} {maxL n index : Nat} {ret9 : Option FieldType} {ws : List Cond} {rm : Room} {As rest : List Value} (hM : CT l y ws rm w N (As) M (some v) M') (cw : CallB R s args own index y bytes maxL ret9 ws rm 0 0 n ∧ (Cond.static y).before args s = true) (hn : As.length = n) (hst : st = As.reverse ++ rest) (hW : (rest.map fun v => v.category).sum ≤ 8) (hcs : cells ≤ R.cells ∧ slots ≤ R.slots) (hd : decode cc pc = .ok (.invokestatic index, 3)) (kk : XW p l e R s m args below meth c nL cells slots Q w N M' (pc + 3) lv (v :: rest)) : XW p l e R s m args below meth c nL cells slots Q w N M (pc) lv (st) := fun H locs ls hP hS hl =>
  x_goes (va_runS ⟨K.x, K.b, K.ml, K.o, K.ts⟩ hM cw ⟨cq_blind, cq_pre K hP hS⟩ rfl hn hl.1 hst (lv_room hW) hd hcs) hS hl kk
theorem x_callSN (K : XC p s m args meth c cc nL ret Ts own w) {host : String} {v : Value} {y : MethodName} {bytes : ByteArray} {maxL n index : Nat} {ret9 : Option FieldType} {ws : List Cond} {rm : Room} {As rest : List Value} (hM : CT l y ws rm w N (As) M (some v) M') (cw : va_CN R s args own index y host bytes maxL ret9 ws rm 0 0 n ∧ (Cond.static y).before args s = true ∧ True) (hn : As.length = n) (hst : st = As.reverse ++ rest) (hW : (rest.map fun v => v.category).sum ≤ 8) (hcs : cells ≤ R.cells ∧ slots ≤ R.slots) (hd : decode cc pc = .ok (.invokestatic index, 3)) (kk : XW p l e R s m args below meth c nL cells slots Q w N M' (pc + 3) lv (v :: rest)) : XW p l e R s m args below meth c nL cells slots Q w N M (pc) lv (st) := fun H locs ls hP hS hl =>
  x_goes (va_runSN ⟨K.x, K.b, K.ml, K.o, K.ts⟩ hM cw ⟨cq_blind, cq_pre K hP hS⟩ rfl hn hl.1 hst (lv_room hW) hd hcs) hS hl kk
theorem x_callVv (K : XC p s m args meth c cc nL ret Ts own w) {C : String} {y : MethodName} {bytes : ByteArray} {maxL n index : Nat} {ret9 : Option FieldType} {ws : List Cond} {rm : Room} {As rest : List Value} {n0 ci Nf : Nat} {bs : List Bool} {T : u_T} (hM : CT l y ws rm w N (.ref (w.2.2 + n0) :: As) M none M') (cw : CallW R s args own C index y bytes maxL ret9 ws rm 0 0 n) (hn0 : n0 < N) (hsh : zSh n0 = .inl (ci, bs)) (hc : zCl[ci]? = some (C, T, Nf)) (hn : As.length = n) (hst : st = As.reverse ++ .ref (w.2.2 + n0) :: rest) (hW : (rest.map fun v => v.category).sum ≤ 8) (hcs : cells ≤ R.cells ∧ slots ≤ R.slots) (hd : decode cc pc = .ok (.invokevirtual index, 3)) (kk : XW p l e R s m args below meth c nL cells slots Q w N M' (pc + 3) lv (rest)) : XW p l e R s m args below meth c nL cells slots Q w N M (pc) lv (st) := fun H locs ls hP hS hl =>
  x_goes (va_runV ⟨K.x, K.b, K.ml, K.o, K.ts⟩ hM cw ⟨cq_blind, x_recv K hP hn0 hsh hc, cq_pre K hP hS⟩ rfl hn hl.1 hst (lv_room hW) hd hcs) hS hl kk
theorem x_callVNv (K : XC p s m args meth c cc nL ret Ts own w) {C host : String} {y : MethodName} {bytes : ByteArray} {maxL n index : Nat} {ret9 : Option FieldType} {ws : List Cond} {rm : Room} {As rest : List Value} {n0 ci Nf : Nat} {bs : List Bool} {T : u_T} (hM : CT l y ws rm w N (.ref (w.2.2 + n0) :: As) M none M') (cw : va_CN R s args own index y host bytes maxL ret9 ws rm 0 0 n ∧ (Cond.instanceMethod y).before args s = true ∧ (Cond.selects C y y).before args s = true) (hn0 : n0 < N) (hsh : zSh n0 = .inl (ci, bs)) (hc : zCl[ci]? = some (C, T, Nf)) (hn : As.length = n) (hst : st = As.reverse ++ .ref (w.2.2 + n0) :: rest) (hW : (rest.map fun v => v.category).sum ≤ 8) (hcs : cells ≤ R.cells ∧ slots ≤ R.slots) (hd : decode cc pc = .ok (.invokevirtual index, 3)) (kk : XW p l e R s m args below meth c nL cells slots Q w N M' (pc + 3) lv (rest)) : XW p l e R s m args below meth c nL cells slots Q w N M (pc) lv (st) := fun H locs ls hP hS hl =>
  x_goes (va_runVN ⟨K.x, K.b, K.ml, K.o, K.ts⟩ hM cw ⟨cq_blind, x_recv K hP hn0 hsh hc, cq_pre K hP hS⟩ rfl hn hl.1 hst (lv_room hW) hd hcs) hS hl kk
theorem x_callSv (K : XC p s m args meth c cc nL ret Ts own w) {y : MethodName} {bytes : ByteArray} {maxL n index : Nat} {ret9 : Option FieldType} {ws : List Cond} {rm : Room} {As rest : List Value} (hM : CT l y ws rm w N (As) M none M') (cw : CallB R s args own index y bytes maxL ret9 ws rm 0 0 n ∧ (Cond.static y).before args s = true) (hn : As.length = n) (hst : st = As.reverse ++ rest) (hW : (rest.map fun v => v.category).sum ≤ 8) (hcs : cells ≤ R.cells ∧ slots ≤ R.slots) (hd : decode cc pc = .ok (.invokestatic index, 3)) (kk : XW p l e R s m args below meth c nL cells slots Q w N M' (pc + 3) lv (rest)) : XW p l e R s m args below meth c nL cells slots Q w N M (pc) lv (st) := fun H locs ls hP hS hl =>
  x_goes (va_runS ⟨K.x, K.b, K.ml, K.o, K.ts⟩ hM cw ⟨cq_blind, cq_pre K hP hS⟩ rfl hn hl.1 hst (lv_room hW) hd hcs) hS hl kk
theorem x_callSNv (K : XC p s m args meth c cc nL ret Ts own w) {host : String} {y : MethodName} {bytes : ByteArray} {maxL n index : Nat} {ret9 : Option FieldType} {ws : List Cond} {rm : Room} {As rest : List Value} (hM : CT l y ws rm w N (As) M none M') (cw : va_CN R s args own index y host bytes maxL ret9 ws rm 0 0 n ∧ (Cond.static y).before args s = true ∧ True) (hn : As.length = n) (hst : st = As.reverse ++ rest) (hW : (rest.map fun v => v.category).sum ≤ 8) (hcs : cells ≤ R.cells ∧ slots ≤ R.slots) (hd : decode cc pc = .ok (.invokestatic index, 3)) (kk : XW p l e R s m args below meth c nL cells slots Q w N M' (pc + 3) lv (rest)) : XW p l e R s m args below meth c nL cells slots Q w N M (pc) lv (st) := fun H locs ls hP hS hl =>
  x_goes (va_runSN ⟨K.x, K.b, K.ml, K.o, K.ts⟩ hM cw ⟨cq_blind, cq_pre K hP hS⟩ rfl hn hl.1 hst (lv_room hW) hd hcs) hS hl kk
theorem zgood_in {a : Cond} {ws : List Cond} (h : ∀ w ∈ ws, w ∈ zG) : GoodIn (a :: zG) ws := fun w hw => ⟨List.mem_cons_of_mem _ (h w hw), zgood (h w hw)⟩
theorem zcwV {a : Cond} {C : String} {y : MethodName} {bytes : ByteArray} {maxL index n : Nat} {ret9 : Option FieldType} {rm : Room} (hts : ∀ t ∈ a :: zG, t.before args s = true) (hl : Cond.methodLink own index y ∈ zG) (hi : Cond.instanceMethod y ∈ zG) (hs : Cond.selects C y y ∈ zG) (hin : Cond.initialized C ∈ zG) (hco : Cond.code y bytes maxL ret9 ∈ zG) (hd : y.cls = C ∧ y.cls ≠ "java/lang/invoke/MethodHandle" ∧ y.cls ≠ "java/lang/invoke/VarHandle" ∧ (parseMethodDescriptor y.desc).map (fun d => d.parameters.length) = some n) (hrc : rm.cells = 0 ∧ rm.slots = 0) (hR : rm.frames + 1 ≤ R.frames ∧ 8 + (maxL + 11) + rm.locals ≤ R.locals) : CallW R s args own C index y bytes maxL ret9 (.code y bytes maxL ret9 :: zG) rm 0 0 n := by
  refine cwV n hts (zgood_in ?_) rfl hrc.1 hrc.2 hd hR
  intro q hq
  simp only [wsV, List.cons_append, List.nil_append, List.mem_cons] at hq
  rcases hq with rfl | rfl | rfl | rfl | rfl | hq
  · exact hl
  · exact hi
  · exact hs
  · exact hin
  · exact hco
  · exact hq
theorem zcwS {a : Cond} {y : MethodName} {bytes : ByteArray} {maxL index n : Nat} {C : String} {ret9 : Option FieldType} {rm : Room} (hts : ∀ t ∈ a :: zG, t.before args s = true) (hl : Cond.methodLink own index y ∈ zG) (hi : Cond.static y ∈ zG) (hin : Cond.initialized C ∈ zG) (hco : Cond.code y bytes maxL ret9 ∈ zG) (hd : y.cls = C ∧ y.cls ≠ "java/lang/invoke/MethodHandle" ∧ y.cls ≠ "java/lang/invoke/VarHandle" ∧ (parseMethodDescriptor y.desc).map (fun d => d.parameters.length) = some n) (hrc : rm.cells = 0 ∧ rm.slots = 0) (hR : rm.frames + 1 ≤ R.frames ∧ 8 + (maxL + 11) + rm.locals ≤ R.locals) : CallB R s args own index y bytes maxL ret9 (.code y bytes maxL ret9 :: zG) rm 0 0 n ∧ (Cond.static y).before args s = true := by
  refine va_cwS n hts (zgood_in ?_) rfl hrc.1 hrc.2 hd.2 hR
  intro q hq
  simp only [va_wsS, List.cons_append, List.nil_append, List.mem_cons] at hq
  rcases hq with rfl | rfl | rfl | rfl | hq
  · exact hl
  · exact hi
  · rw [hd.1]; exact hin
  · exact hco
  · exact hq
theorem zcwSN {a : Cond} {y : MethodName} {bytes : ByteArray} {maxL index n : Nat} {C host : String} {ret9 : Option FieldType} {rm : Room} (hts : ∀ t ∈ a :: zG, t.before args s = true) (hl : va_Nw (.methodLinkNest own index y host) s) (hi : Cond.static y ∈ zG) (hin : Cond.initialized C ∈ zG) (hco : Cond.code y bytes maxL ret9 ∈ zG) (hd : y.cls = C ∧ y.cls ≠ "java/lang/invoke/MethodHandle" ∧ y.cls ≠ "java/lang/invoke/VarHandle" ∧ (parseMethodDescriptor y.desc).map (fun d => d.parameters.length) = some n) (hrc : rm.cells = 0 ∧ rm.slots = 0) (hR : rm.frames + 1 ≤ R.frames ∧ 8 + (maxL + 11) + rm.locals ≤ R.locals) : va_CN R s args own index y host bytes maxL ret9 (.code y bytes maxL ret9 :: zG) rm 0 0 n ∧ (Cond.static y).before args s = true ∧ True :=
  ⟨va_cnB n hts (zsub hco) rfl hrc.1 hrc.2 hl (hts _ (by rw [hd.1]; exact zmem hin)) hd.2 hR, hts _ (zmem hi), trivial⟩
theorem zlt {n : Nat} {a : fl_H} (h : zSh n = a) (ha : a ≠ .inl (9, []) := by decide) : n < zN := zSh_lt (by rw [h]; exact ha)
theorem rT {P : Prop} [Decidable P] (h : P) : some (Value.int 1) = some (.int (bI P)) := by rw [bI_t h]
theorem rF {P : Prop} [Decidable P] (h : ¬ P) : some (Value.int 0) = some (.int (bI P)) := by rw [bI_f h]
end XR
end
