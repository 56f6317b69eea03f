section
/-- a private method of a class that the tables say can be made, by its rows of tables_1 -/
def lw_okq (q : MethodName × Nat) : Prop := (q.1.cls ≠ "java/lang/invoke/MethodHandle" ∧ q.1.cls ≠ "java/lang/invoke/VarHandle") ∧ Cond.instantiable q.1.cls q.2 ∈ tables_1 ∧ Cond.privateMethod q.1 ∈ tables_1 ∧ Cond.instanceMethod q.1 ∈ tables_1
theorem lw_p0 : lw_okq (⟨"CompatibilityJudge$Baseline", "isClass", "(I)Z"⟩, 2) := ⟨⟨by decide +kernel, by decide +kernel⟩, List.mem_of_getElem? (i := 20) (by decide +kernel), List.mem_of_getElem? (i := 185) (by decide +kernel), List.mem_of_getElem? (i := 186) (by decide +kernel)⟩
theorem lw_p1 : lw_okq (⟨"CompatibilityJudge$Baseline", "gatherSupertypes", "(LCompatibilityJudge$Type;)I"⟩, 2) := ⟨⟨by decide +kernel, by decide +kernel⟩, List.mem_of_getElem? (i := 20) (by decide +kernel), List.mem_of_getElem? (i := 190) (by decide +kernel), List.mem_of_getElem? (i := 191) (by decide +kernel)⟩
theorem lw_p2 : lw_okq (⟨"CompatibilityJudge$Baseline", "isInterface", "(I)Z"⟩, 2) := ⟨⟨by decide +kernel, by decide +kernel⟩, List.mem_of_getElem? (i := 20) (by decide +kernel), List.mem_of_getElem? (i := 194) (by decide +kernel), List.mem_of_getElem? (i := 195) (by decide +kernel)⟩
theorem lw_p3 : lw_okq (⟨"CompatibilityJudge", "isMemberOf", "(III)Z"⟩, 3) := ⟨⟨by decide +kernel, by decide +kernel⟩, List.mem_of_getElem? (i := 11) (by decide +kernel), List.mem_of_getElem? (i := 241) (by decide +kernel), List.mem_of_getElem? (i := 242) (by decide +kernel)⟩
theorem lw_p4 : lw_okq (⟨"CompatibilityJudge", "isSuppressed", "(II)Z"⟩, 3) := ⟨⟨by decide +kernel, by decide +kernel⟩, List.mem_of_getElem? (i := 11) (by decide +kernel), List.mem_of_getElem? (i := 292) (by decide +kernel), List.mem_of_getElem? (i := 293) (by decide +kernel)⟩
theorem lw_p5 : lw_okq (⟨"CompatibilityJudge$Baseline", "whereIsField", "(II)I"⟩, 2) := ⟨⟨by decide +kernel, by decide +kernel⟩, List.mem_of_getElem? (i := 20) (by decide +kernel), List.mem_of_getElem? (i := 311) (by decide +kernel), List.mem_of_getElem? (i := 312) (by decide +kernel)⟩
theorem lw_p6 : lw_okq (⟨"CompatibilityJudge$Baseline", "fieldOwnerFor", "(II)I"⟩, 2) := ⟨⟨by decide +kernel, by decide +kernel⟩, List.mem_of_getElem? (i := 20) (by decide +kernel), List.mem_of_getElem? (i := 316) (by decide +kernel), List.mem_of_getElem? (i := 317) (by decide +kernel)⟩
theorem lw_p7 : lw_okq (⟨"CompatibilityJudge$Baseline", "whereIsMethod", "(II)I"⟩, 2) := ⟨⟨by decide +kernel, by decide +kernel⟩, List.mem_of_getElem? (i := 20) (by decide +kernel), List.mem_of_getElem? (i := 321) (by decide +kernel), List.mem_of_getElem? (i := 322) (by decide +kernel)⟩
theorem lw_p8 : lw_okq (⟨"CompatibilityJudge$Baseline", "whereIsInterfaceMethod", "(II)I"⟩, 2) := ⟨⟨by decide +kernel, by decide +kernel⟩, List.mem_of_getElem? (i := 20) (by decide +kernel), List.mem_of_getElem? (i := 325) (by decide +kernel), List.mem_of_getElem? (i := 326) (by decide +kernel)⟩
theorem lw_p9 : lw_okq (⟨"CompatibilityJudge$Comparison", "judgeType", "(LCompatibilityJudge$Baseline;LCompatibilityJudge$Baseline;I)V"⟩, 6) := ⟨⟨by decide +kernel, by decide +kernel⟩, List.mem_of_getElem? (i := 123) (by decide +kernel), List.mem_of_getElem? (i := 353) (by decide +kernel), List.mem_of_getElem? (i := 354) (by decide +kernel)⟩
theorem lw_p10 : lw_okq (⟨"CompatibilityJudge$Comparison", "add", "(III)V"⟩, 6) := ⟨⟨by decide +kernel, by decide +kernel⟩, List.mem_of_getElem? (i := 123) (by decide +kernel), List.mem_of_getElem? (i := 357) (by decide +kernel), List.mem_of_getElem? (i := 358) (by decide +kernel)⟩
theorem lw_p11 : lw_okq (⟨"CompatibilityJudge$Comparison", "judgeHeader", "(LCompatibilityJudge$Type;LCompatibilityJudge$Type;I)V"⟩, 6) := ⟨⟨by decide +kernel, by decide +kernel⟩, List.mem_of_getElem? (i := 123) (by decide +kernel), List.mem_of_getElem? (i := 361) (by decide +kernel), List.mem_of_getElem? (i := 362) (by decide +kernel)⟩
theorem lw_p12 : lw_okq (⟨"CompatibilityJudge$Comparison", "findPartners", "(LCompatibilityJudge$Type;LCompatibilityJudge$Baseline;I)V"⟩, 6) := ⟨⟨by decide +kernel, by decide +kernel⟩, List.mem_of_getElem? (i := 123) (by decide +kernel), List.mem_of_getElem? (i := 367) (by decide +kernel), List.mem_of_getElem? (i := 368) (by decide +kernel)⟩
theorem lw_p13 : lw_okq (⟨"CompatibilityJudge$Comparison", "judgeOldMembers", "(LCompatibilityJudge$Type;I)V"⟩, 6) := ⟨⟨by decide +kernel, by decide +kernel⟩, List.mem_of_getElem? (i := 123) (by decide +kernel), List.mem_of_getElem? (i := 373) (by decide +kernel), List.mem_of_getElem? (i := 374) (by decide +kernel)⟩
theorem lw_p14 : lw_okq (⟨"CompatibilityJudge$Comparison", "judgeNewMembers", "(LCompatibilityJudge$Type;LCompatibilityJudge$Type;I)V"⟩, 6) := ⟨⟨by decide +kernel, by decide +kernel⟩, List.mem_of_getElem? (i := 123) (by decide +kernel), List.mem_of_getElem? (i := 391) (by decide +kernel), List.mem_of_getElem? (i := 392) (by decide +kernel)⟩
theorem lw_p15 : lw_okq (⟨"CompatibilityJudge", "suppressionCount", "()I"⟩, 3) := ⟨⟨by decide +kernel, by decide +kernel⟩, List.mem_of_getElem? (i := 11) (by decide +kernel), List.mem_of_getElem? (i := 423) (by decide +kernel), List.mem_of_getElem? (i := 424) (by decide +kernel)⟩
def lw_privs_1 : List (MethodName × Nat) := [(⟨"CompatibilityJudge$Baseline", "isClass", "(I)Z"⟩, 2), (⟨"CompatibilityJudge$Baseline", "gatherSupertypes", "(LCompatibilityJudge$Type;)I"⟩, 2), (⟨"CompatibilityJudge$Baseline", "isInterface", "(I)Z"⟩, 2), (⟨"CompatibilityJudge", "isMemberOf", "(III)Z"⟩, 3), (⟨"CompatibilityJudge", "isSuppressed", "(II)Z"⟩, 3), (⟨"CompatibilityJudge$Baseline", "whereIsField", "(II)I"⟩, 2), (⟨"CompatibilityJudge$Baseline", "fieldOwnerFor", "(II)I"⟩, 2), (⟨"CompatibilityJudge$Baseline", "whereIsMethod", "(II)I"⟩, 2), (⟨"CompatibilityJudge$Baseline", "whereIsInterfaceMethod", "(II)I"⟩, 2), (⟨"CompatibilityJudge$Comparison", "judgeType", "(LCompatibilityJudge$Baseline;LCompatibilityJudge$Baseline;I)V"⟩, 6), (⟨"CompatibilityJudge$Comparison", "add", "(III)V"⟩, 6), (⟨"CompatibilityJudge$Comparison", "judgeHeader", "(LCompatibilityJudge$Type;LCompatibilityJudge$Type;I)V"⟩, 6), (⟨"CompatibilityJudge$Comparison", "findPartners", "(LCompatibilityJudge$Type;LCompatibilityJudge$Baseline;I)V"⟩, 6), (⟨"CompatibilityJudge$Comparison", "judgeOldMembers", "(LCompatibilityJudge$Type;I)V"⟩, 6), (⟨"CompatibilityJudge$Comparison", "judgeNewMembers", "(LCompatibilityJudge$Type;LCompatibilityJudge$Type;I)V"⟩, 6), (⟨"CompatibilityJudge", "suppressionCount", "()I"⟩, 3)]
theorem lw_r1 : ∀ q ∈ lw_privs_1, lw_okq q := List.forall_mem_cons.mpr ⟨lw_p0, List.forall_mem_cons.mpr ⟨lw_p1, List.forall_mem_cons.mpr ⟨lw_p2, List.forall_mem_cons.mpr ⟨lw_p3, List.forall_mem_cons.mpr ⟨lw_p4, List.forall_mem_cons.mpr ⟨lw_p5, List.forall_mem_cons.mpr ⟨lw_p6, List.forall_mem_cons.mpr ⟨lw_p7, List.forall_mem_cons.mpr ⟨lw_p8, List.forall_mem_cons.mpr ⟨lw_p9, List.forall_mem_cons.mpr ⟨lw_p10, List.forall_mem_cons.mpr ⟨lw_p11, List.forall_mem_cons.mpr ⟨lw_p12, List.forall_mem_cons.mpr ⟨lw_p13, List.forall_mem_cons.mpr ⟨lw_p14, List.forall_mem_cons.mpr ⟨lw_p15, fun _ h => absurd h List.not_mem_nil⟩⟩⟩⟩⟩⟩⟩⟩⟩⟩⟩⟩⟩⟩⟩⟩
theorem lw_p16 : lw_okq (⟨"CompatibilityJudgeModel", "own", "(III)I"⟩, 22) := ⟨⟨by decide +kernel, by decide +kernel⟩, List.mem_of_getElem? (i := 433) (by decide +kernel), List.mem_of_getElem? (i := 528) (by decide +kernel), List.mem_of_getElem? (i := 529) (by decide +kernel)⟩
theorem lw_p17 : lw_okq (⟨"CompatibilityJudgeModel", "cell", "(III)I"⟩, 22) := ⟨⟨by decide +kernel, by decide +kernel⟩, List.mem_of_getElem? (i := 433) (by decide +kernel), List.mem_of_getElem? (i := 542) (by decide +kernel), List.mem_of_getElem? (i := 543) (by decide +kernel)⟩
theorem lw_p18 : lw_okq (⟨"CompatibilityJudgeModel", "copyCell", "(II)V"⟩, 22) := ⟨⟨by decide +kernel, by decide +kernel⟩, List.mem_of_getElem? (i := 433) (by decide +kernel), List.mem_of_getElem? (i := 554) (by decide +kernel), List.mem_of_getElem? (i := 555) (by decide +kernel)⟩
theorem lw_p19 : lw_okq (⟨"CompatibilityJudgeModel", "copyRow", "(II)V"⟩, 22) := ⟨⟨by decide +kernel, by decide +kernel⟩, List.mem_of_getElem? (i := 433) (by decide +kernel), List.mem_of_getElem? (i := 562) (by decide +kernel), List.mem_of_getElem? (i := 563) (by decide +kernel)⟩
theorem lw_p20 : lw_okq (⟨"CompatibilityJudgeModel", "copyHead", "(II)V"⟩, 22) := ⟨⟨by decide +kernel, by decide +kernel⟩, List.mem_of_getElem? (i := 433) (by decide +kernel), List.mem_of_getElem? (i := 574) (by decide +kernel), List.mem_of_getElem? (i := 575) (by decide +kernel)⟩
theorem lw_p21 : lw_okq (⟨"CompatibilityJudgeModel", "swapCell", "(II)V"⟩, 22) := ⟨⟨by decide +kernel, by decide +kernel⟩, List.mem_of_getElem? (i := 433) (by decide +kernel), List.mem_of_getElem? (i := 578) (by decide +kernel), List.mem_of_getElem? (i := 579) (by decide +kernel)⟩
theorem lw_p22 : lw_okq (⟨"CompatibilityJudgeModel", "set", "(II)I"⟩, 22) := ⟨⟨by decide +kernel, by decide +kernel⟩, List.mem_of_getElem? (i := 433) (by decide +kernel), List.mem_of_getElem? (i := 590) (by decide +kernel), List.mem_of_getElem? (i := 591) (by decide +kernel)⟩
theorem lw_p23 : lw_okq (⟨"CompatibilityJudgeModel", "direct", "(III)Z"⟩, 22) := ⟨⟨by decide +kernel, by decide +kernel⟩, List.mem_of_getElem? (i := 433) (by decide +kernel), List.mem_of_getElem? (i := 594) (by decide +kernel), List.mem_of_getElem? (i := 595) (by decide +kernel)⟩
theorem lw_p24 : lw_okq (⟨"CompatibilityJudgeModel", "find", "(IIII)I"⟩, 22) := ⟨⟨by decide +kernel, by decide +kernel⟩, List.mem_of_getElem? (i := 433) (by decide +kernel), List.mem_of_getElem? (i := 602) (by decide +kernel), List.mem_of_getElem? (i := 603) (by decide +kernel)⟩
theorem lw_p25 : lw_okq (⟨"CompatibilityJudgeModel", "field", "(III)I"⟩, 22) := ⟨⟨by decide +kernel, by decide +kernel⟩, List.mem_of_getElem? (i := 433) (by decide +kernel), List.mem_of_getElem? (i := 606) (by decide +kernel), List.mem_of_getElem? (i := 607) (by decide +kernel)⟩
theorem lw_p26 : lw_okq (⟨"CompatibilityJudgeModel", "is", "(III)Z"⟩, 22) := ⟨⟨by decide +kernel, by decide +kernel⟩, List.mem_of_getElem? (i := 433) (by decide +kernel), List.mem_of_getElem? (i := 610) (by decide +kernel), List.mem_of_getElem? (i := 611) (by decide +kernel)⟩
theorem lw_p27 : lw_okq (⟨"CompatibilityJudgeModel", "method", "(III)I"⟩, 22) := ⟨⟨by decide +kernel, by decide +kernel⟩, List.mem_of_getElem? (i := 433) (by decide +kernel), List.mem_of_getElem? (i := 614) (by decide +kernel), List.mem_of_getElem? (i := 615) (by decide +kernel)⟩
theorem lw_p28 : lw_okq (⟨"CompatibilityJudgeModel", "above", "(III)Z"⟩, 22) := ⟨⟨by decide +kernel, by decide +kernel⟩, List.mem_of_getElem? (i := 433) (by decide +kernel), List.mem_of_getElem? (i := 618) (by decide +kernel), List.mem_of_getElem? (i := 619) (by decide +kernel)⟩
theorem lw_p29 : lw_okq (⟨"CompatibilityJudgeModel", "all", "(I)V"⟩, 22) := ⟨⟨by decide +kernel, by decide +kernel⟩, List.mem_of_getElem? (i := 433) (by decide +kernel), List.mem_of_getElem? (i := 626) (by decide +kernel), List.mem_of_getElem? (i := 627) (by decide +kernel)⟩
theorem lw_p30 : lw_okq (⟨"CompatibilityJudgeModel", "judge", "(I)V"⟩, 22) := ⟨⟨by decide +kernel, by decide +kernel⟩, List.mem_of_getElem? (i := 433) (by decide +kernel), List.mem_of_getElem? (i := 630) (by decide +kernel), List.mem_of_getElem? (i := 631) (by decide +kernel)⟩
theorem lw_p31 : lw_okq (⟨"CompatibilityJudgeModel", "tell", "(III)V"⟩, 22) := ⟨⟨by decide +kernel, by decide +kernel⟩, List.mem_of_getElem? (i := 433) (by decide +kernel), List.mem_of_getElem? (i := 634) (by decide +kernel), List.mem_of_getElem? (i := 635) (by decide +kernel)⟩
def lw_privs_2 : List (MethodName × Nat) := [(⟨"CompatibilityJudgeModel", "own", "(III)I"⟩, 22), (⟨"CompatibilityJudgeModel", "cell", "(III)I"⟩, 22), (⟨"CompatibilityJudgeModel", "copyCell", "(II)V"⟩, 22), (⟨"CompatibilityJudgeModel", "copyRow", "(II)V"⟩, 22), (⟨"CompatibilityJudgeModel", "copyHead", "(II)V"⟩, 22), (⟨"CompatibilityJudgeModel", "swapCell", "(II)V"⟩, 22), (⟨"CompatibilityJudgeModel", "set", "(II)I"⟩, 22), (⟨"CompatibilityJudgeModel", "direct", "(III)Z"⟩, 22), (⟨"CompatibilityJudgeModel", "find", "(IIII)I"⟩, 22), (⟨"CompatibilityJudgeModel", "field", "(III)I"⟩, 22), (⟨"CompatibilityJudgeModel", "is", "(III)Z"⟩, 22), (⟨"CompatibilityJudgeModel", "method", "(III)I"⟩, 22), (⟨"CompatibilityJudgeModel", "above", "(III)Z"⟩, 22), (⟨"CompatibilityJudgeModel", "all", "(I)V"⟩, 22), (⟨"CompatibilityJudgeModel", "judge", "(I)V"⟩, 22), (⟨"CompatibilityJudgeModel", "tell", "(III)V"⟩, 22)]
theorem lw_r2 : ∀ q ∈ lw_privs_2, lw_okq q := List.forall_mem_cons.mpr ⟨lw_p16, List.forall_mem_cons.mpr ⟨lw_p17, List.forall_mem_cons.mpr ⟨lw_p18, List.forall_mem_cons.mpr ⟨lw_p19, List.forall_mem_cons.mpr ⟨lw_p20, List.forall_mem_cons.mpr ⟨lw_p21, List.forall_mem_cons.mpr ⟨lw_p22, List.forall_mem_cons.mpr ⟨lw_p23, List.forall_mem_cons.mpr ⟨lw_p24, List.forall_mem_cons.mpr ⟨lw_p25, List.forall_mem_cons.mpr ⟨lw_p26, List.forall_mem_cons.mpr ⟨lw_p27, List.forall_mem_cons.mpr ⟨lw_p28, List.forall_mem_cons.mpr ⟨lw_p29, List.forall_mem_cons.mpr ⟨lw_p30, List.forall_mem_cons.mpr ⟨lw_p31, fun _ h => absurd h List.not_mem_nil⟩⟩⟩⟩⟩⟩⟩⟩⟩⟩⟩⟩⟩⟩⟩⟩
theorem lw_p32 : lw_okq (⟨"CompatibilityJudgeModel", "members", "(II)V"⟩, 22) := ⟨⟨by decide +kernel, by decide +kernel⟩, List.mem_of_getElem? (i := 433) (by decide +kernel), List.mem_of_getElem? (i := 641) (by decide +kernel), List.mem_of_getElem? (i := 642) (by decide +kernel)⟩
theorem lw_p33 : lw_okq (⟨"CompatibilityJudgeModel", "breaks", "(IIII)Z"⟩, 22) := ⟨⟨by decide +kernel, by decide +kernel⟩, List.mem_of_getElem? (i := 433) (by decide +kernel), List.mem_of_getElem? (i := 645) (by decide +kernel), List.mem_of_getElem? (i := 646) (by decide +kernel)⟩
theorem lw_p34 : lw_okq (⟨"CompatibilityJudgeModel", "added", "(II)V"⟩, 22) := ⟨⟨by decide +kernel, by decide +kernel⟩, List.mem_of_getElem? (i := 433) (by decide +kernel), List.mem_of_getElem? (i := 649) (by decide +kernel), List.mem_of_getElem? (i := 650) (by decide +kernel)⟩
def lw_privs_3 : List (MethodName × Nat) := [(⟨"CompatibilityJudgeModel", "members", "(II)V"⟩, 22), (⟨"CompatibilityJudgeModel", "breaks", "(IIII)Z"⟩, 22), (⟨"CompatibilityJudgeModel", "added", "(II)V"⟩, 22)]
theorem lw_r3 : ∀ q ∈ lw_privs_3, lw_okq q := List.forall_mem_cons.mpr ⟨lw_p32, List.forall_mem_cons.mpr ⟨lw_p33, List.forall_mem_cons.mpr ⟨lw_p34, fun _ h => absurd h List.not_mem_nil⟩⟩⟩
def lw_privs : List (MethodName × Nat) := lw_privs_1 ++ (lw_privs_2 ++ (lw_privs_3))
def lw_tbl : List Cond := k2_sels lw_privs ++ tables_1
theorem lw_privs_ok : ∀ q ∈ lw_privs, lw_okq q := by
  show ∀ q ∈ lw_privs_1 ++ (lw_privs_2 ++ (lw_privs_3)), lw_okq q
  exact List.forall_mem_append.mpr ⟨lw_r1, List.forall_mem_append.mpr ⟨lw_r2, lw_r3⟩⟩
end
section
/-! NAMES. One list of words for all methods: zG, the good words of the tables. A method's words: its own code ahead of zG. -/
def zG : List Cond := lw_tbl.filter goodWord
theorem zin {w : Cond} (i : Nat) (h : (lw_tbl[i]? = some w) ∧ goodWord w = true) : w ∈ zG := List.mem_filter.mpr ⟨List.mem_of_getElem? h.1, h.2⟩
theorem zgood {w : Cond} (h : w ∈ zG) : (w.onTables && w.keeps) = true ∨ ∃ ty, w = .arrayClass ty := good_of_word (List.mem_filter.mp h).2
theorem zsub {a c : Cond} (h : c ∈ zG) : GoodIn (a :: zG) (c :: zG) := fun w hw => (List.mem_cons.mp hw).elim (fun e => by rw [e]; exact ⟨List.mem_cons_of_mem _ h, zgood h⟩) (fun q => ⟨List.mem_cons_of_mem _ q, zgood q⟩)
theorem zsubL {c : Cond} (h : c ∈ zG) : GoodIn lw_tbl (c :: zG) := fun w hw => (List.mem_cons.mp hw).elim (fun e => by rw [e]; exact ⟨(List.mem_filter.mp h).1, zgood h⟩) (fun q => ⟨(List.mem_filter.mp q).1, zgood q⟩)
theorem zmem {w c : Cond} (h : w ∈ zG) : w ∈ c :: zG := List.mem_cons_of_mem _ h
theorem zmemL {w : Cond} (h : w ∈ zG) : w ∈ lw_tbl := (List.mem_filter.mp h).1
def y_J_init : MethodName := ⟨"CompatibilityJudge", "<init>", "()V"⟩
abbrev b_J_init : ByteArray := prog_1_method_1_code
abbrev w_J_init : List Cond := .code y_J_init b_J_init 1 none :: zG
theorem co_J_init : Cond.code y_J_init b_J_init 1 none ∈ zG := zin 49 (by decide +kernel)
def y_B_init : MethodName := ⟨"CompatibilityJudge$Baseline", "<init>", "()V"⟩
abbrev b_B_init : ByteArray := prog_2_method_1_code
abbrev w_B_init : List Cond := .code y_B_init b_B_init 2 none :: zG
theorem co_B_init : Cond.code y_B_init b_B_init 2 none ∈ zG := zin 58 (by decide +kernel)
def y_T_init : MethodName := ⟨"CompatibilityJudge$Type", "<init>", "()V"⟩
abbrev b_T_init : ByteArray := prog_5_method_1_code
abbrev w_T_init : List Cond := .code y_T_init b_T_init 2 none :: zG
theorem co_T_init : Cond.code y_T_init b_T_init 2 none ∈ zG := zin 65 (by decide +kernel)
def y_M_init : MethodName := ⟨"CompatibilityJudge$Member", "<init>", "()V"⟩
abbrev b_M_init : ByteArray := prog_4_method_1_code
abbrev w_M_init : List Cond := .code y_M_init b_M_init 1 none :: zG
theorem co_M_init : Cond.code y_M_init b_M_init 1 none ∈ zG := zin 72 (by decide +kernel)
def y_C_init : MethodName := ⟨"CompatibilityJudge$Comparison", "<init>", "()V"⟩
abbrev b_C_init : ByteArray := prog_3_method_1_code
abbrev w_C_init : List Cond := .code y_C_init b_C_init 1 none :: zG
theorem co_C_init : Cond.code y_C_init b_C_init 1 none ∈ zG := zin 161 (by decide +kernel)
def y_J_type : MethodName := ⟨"CompatibilityJudge", "type", "(IIIII)I"⟩
abbrev b_J_type : ByteArray := prog_1_method_2_code
abbrev w_J_type : List Cond := .code y_J_type b_J_type 7 (some .int) :: zG
theorem co_J_type : Cond.code y_J_type b_J_type 7 (some .int) ∈ zG := zin 201 (by decide +kernel)
def y_J_isTypeOf : MethodName := ⟨"CompatibilityJudge", "isTypeOf", "(II)Z"⟩
abbrev b_J_isTypeOf : ByteArray := prog_1_method_21_code
abbrev w_J_isTypeOf : List Cond := .code y_J_isTypeOf b_J_isTypeOf 2 (some .boolean) :: zG
theorem co_J_isTypeOf : Cond.code y_J_isTypeOf b_J_isTypeOf 2 (some .boolean) ∈ zG := zin 204 (by decide +kernel)
def y_J_isWithin : MethodName := ⟨"CompatibilityJudge", "isWithin", "(II)Z"⟩
abbrev b_J_isWithin : ByteArray := prog_1_method_23_code
abbrev w_J_isWithin : List Cond := .code y_J_isWithin b_J_isWithin 2 (some .boolean) :: zG
theorem co_J_isWithin : Cond.code y_J_isWithin b_J_isWithin 2 (some .boolean) ∈ zG := zin 207 (by decide +kernel)
def y_J_isTypeAllowed : MethodName := ⟨"CompatibilityJudge", "isTypeAllowed", "(III)Z"⟩
abbrev b_J_isTypeAllowed : ByteArray := prog_1_method_25_code
abbrev w_J_isTypeAllowed : List Cond := .code y_J_isTypeAllowed b_J_isTypeAllowed 5 (some .boolean) :: zG
theorem co_J_isTypeAllowed : Cond.code y_J_isTypeAllowed b_J_isTypeAllowed 5 (some .boolean) ∈ zG := zin 210 (by decide +kernel)
def y_T_define : MethodName := ⟨"CompatibilityJudge$Type", "define", "(III)V"⟩
abbrev b_T_define : ByteArray := prog_5_method_2_code
abbrev w_T_define : List Cond := .code y_T_define b_T_define 4 none :: zG
theorem co_T_define : Cond.code y_T_define b_T_define 4 none ∈ zG := zin 214 (by decide +kernel)
def y_B_settle : MethodName := ⟨"CompatibilityJudge$Baseline", "settle", "()V"⟩
abbrev b_B_settle : ByteArray := prog_2_method_5_code
abbrev w_B_settle : List Cond := .code y_B_settle b_B_settle 2 none :: zG
theorem co_B_settle : Cond.code y_B_settle b_B_settle 2 none ∈ zG := zin 218 (by decide +kernel)
def y_B_isClass : MethodName := ⟨"CompatibilityJudge$Baseline", "isClass", "(I)Z"⟩
abbrev b_B_isClass : ByteArray := prog_2_method_7_code
abbrev w_B_isClass : List Cond := .code y_B_isClass b_B_isClass 2 (some .boolean) :: zG
theorem co_B_isClass : Cond.code y_B_isClass b_B_isClass 2 (some .boolean) ∈ zG := zin 222 (by decide +kernel)
def y_B_gatherSupertypes : MethodName := ⟨"CompatibilityJudge$Baseline", "gatherSupertypes", "(LCompatibilityJudge$Type;)I"⟩
abbrev b_B_gatherSupertypes : ByteArray := prog_2_method_6_code
abbrev w_B_gatherSupertypes : List Cond := .code y_B_gatherSupertypes b_B_gatherSupertypes 5 (some .int) :: zG
theorem co_B_gatherSupertypes : Cond.code y_B_gatherSupertypes b_B_gatherSupertypes 5 (some .int) ∈ zG := zin 227 (by decide +kernel)
def y_B_isInterface : MethodName := ⟨"CompatibilityJudge$Baseline", "isInterface", "(I)Z"⟩
abbrev b_B_isInterface : ByteArray := prog_2_method_8_code
abbrev w_B_isInterface : List Cond := .code y_B_isInterface b_B_isInterface 2 (some .boolean) :: zG
theorem co_B_isInterface : Cond.code y_B_isInterface b_B_isInterface 2 (some .boolean) ∈ zG := zin 231 (by decide +kernel)
def y_J_implement : MethodName := ⟨"CompatibilityJudge", "implement", "(III)I"⟩
abbrev b_J_implement : ByteArray := prog_1_method_3_code
abbrev w_J_implement : List Cond := .code y_J_implement b_J_implement 6 (some .int) :: zG
theorem co_J_implement : Cond.code y_J_implement b_J_implement 6 (some .int) ∈ zG := zin 235 (by decide +kernel)
def y_T_names : MethodName := ⟨"CompatibilityJudge$Type", "names", "(I)Z"⟩
abbrev b_T_names : ByteArray := prog_5_method_7_code
abbrev w_T_names : List Cond := .code y_T_names b_T_names 3 (some .boolean) :: zG
theorem co_T_names : Cond.code y_T_names b_T_names 3 (some .boolean) ∈ zG := zin 239 (by decide +kernel)
def y_T_addInterface : MethodName := ⟨"CompatibilityJudge$Type", "addInterface", "(I)V"⟩
abbrev b_T_addInterface : ByteArray := prog_5_method_8_code
abbrev w_T_addInterface : List Cond := .code y_T_addInterface b_T_addInterface 2 none :: zG
theorem co_T_addInterface : Cond.code y_T_addInterface b_T_addInterface 2 none ∈ zG := zin 243 (by decide +kernel)
def y_J_member : MethodName := ⟨"CompatibilityJudge", "member", "(IIIII)I"⟩
abbrev b_J_member : ByteArray := prog_1_method_4_code
abbrev w_J_member : List Cond := .code y_J_member b_J_member 7 (some .int) :: zG
theorem co_J_member : Cond.code y_J_member b_J_member 7 (some .int) ∈ zG := zin 247 (by decide +kernel)
def y_J_isKey : MethodName := ⟨"CompatibilityJudge", "isKey", "(II)Z"⟩
abbrev b_J_isKey : ByteArray := prog_1_method_22_code
abbrev w_J_isKey : List Cond := .code y_J_isKey b_J_isKey 2 (some .boolean) :: zG
theorem co_J_isKey : Cond.code y_J_isKey b_J_isKey 2 (some .boolean) ∈ zG := zin 250 (by decide +kernel)
def y_T_own : MethodName := ⟨"CompatibilityJudge$Type", "own", "(II)LCompatibilityJudge$Member;"⟩
abbrev b_T_own : ByteArray := prog_5_method_11_code
abbrev w_T_own : List Cond := .code y_T_own b_T_own 4 (some (.object "CompatibilityJudge$Member")) :: zG
theorem co_T_own : Cond.code y_T_own b_T_own 4 (some (.object "CompatibilityJudge$Member")) ∈ zG := zin 256 (by decide +kernel)
def y_J_isMemberAllowed : MethodName := ⟨"CompatibilityJudge", "isMemberAllowed", "(II)Z"⟩
abbrev b_J_isMemberAllowed : ByteArray := prog_1_method_26_code
abbrev w_J_isMemberAllowed : List Cond := .code y_J_isMemberAllowed b_J_isMemberAllowed 3 (some .boolean) :: zG
theorem co_J_isMemberAllowed : Cond.code y_J_isMemberAllowed b_J_isMemberAllowed 3 (some .boolean) ∈ zG := zin 259 (by decide +kernel)
def y_J_isAllowedInInterface : MethodName := ⟨"CompatibilityJudge", "isAllowedInInterface", "(II)Z"⟩
abbrev b_J_isAllowedInInterface : ByteArray := prog_1_method_27_code
abbrev w_J_isAllowedInInterface : List Cond := .code y_J_isAllowedInInterface b_J_isAllowedInInterface 3 (some .boolean) :: zG
theorem co_J_isAllowedInInterface : Cond.code y_J_isAllowedInInterface b_J_isAllowedInInterface 3 (some .boolean) ∈ zG := zin 262 (by decide +kernel)
def y_T_addMember : MethodName := ⟨"CompatibilityJudge$Type", "addMember", "(III)V"⟩
abbrev b_T_addMember : ByteArray := prog_5_method_9_code
abbrev w_T_addMember : List Cond := .code y_T_addMember b_T_addMember 4 none :: zG
theorem co_T_addMember : Cond.code y_T_addMember b_T_addMember 4 none ∈ zG := zin 266 (by decide +kernel)
def y_M_define : MethodName := ⟨"CompatibilityJudge$Member", "define", "(III)V"⟩
abbrev b_M_define : ByteArray := prog_4_method_2_code
abbrev w_M_define : List Cond := .code y_M_define b_M_define 4 none :: zG
theorem co_M_define : Cond.code y_M_define b_M_define 4 none ∈ zG := zin 270 (by decide +kernel)
def y_J_constant : MethodName := ⟨"CompatibilityJudge", "constant", "(IIII)I"⟩
abbrev b_J_constant : ByteArray := prog_1_method_5_code
abbrev w_J_constant : List Cond := .code y_J_constant b_J_constant 7 (some .int) :: zG
theorem co_J_constant : Cond.code y_J_constant b_J_constant 7 (some .int) ∈ zG := zin 274 (by decide +kernel)
def y_J_isMemberOf : MethodName := ⟨"CompatibilityJudge", "isMemberOf", "(III)Z"⟩
abbrev b_J_isMemberOf : ByteArray := prog_1_method_20_code
abbrev w_J_isMemberOf : List Cond := .code y_J_isMemberOf b_J_isMemberOf 4 (some .boolean) :: zG
theorem co_J_isMemberOf : Cond.code y_J_isMemberOf b_J_isMemberOf 4 (some .boolean) ∈ zG := zin 278 (by decide +kernel)
def y_J_remove : MethodName := ⟨"CompatibilityJudge", "remove", "(II)I"⟩
abbrev b_J_remove : ByteArray := prog_1_method_6_code
abbrev w_J_remove : List Cond := .code y_J_remove b_J_remove 3 (some .int) :: zG
theorem co_J_remove : Cond.code y_J_remove b_J_remove 3 (some .int) ∈ zG := zin 282 (by decide +kernel)
def y_T_clear : MethodName := ⟨"CompatibilityJudge$Type", "clear", "()V"⟩
abbrev b_T_clear : ByteArray := prog_5_method_3_code
abbrev w_T_clear : List Cond := .code y_T_clear b_T_clear 1 none :: zG
theorem co_T_clear : Cond.code y_T_clear b_T_clear 1 none ∈ zG := zin 286 (by decide +kernel)
def y_J_drop : MethodName := ⟨"CompatibilityJudge", "drop", "(III)I"⟩
abbrev b_J_drop : ByteArray := prog_1_method_7_code
abbrev w_J_drop : List Cond := .code y_J_drop b_J_drop 5 (some .int) :: zG
theorem co_J_drop : Cond.code y_J_drop b_J_drop 5 (some .int) ∈ zG := zin 290 (by decide +kernel)
def y_T_takeOut : MethodName := ⟨"CompatibilityJudge$Type", "takeOut", "(I)V"⟩
abbrev b_T_takeOut : ByteArray := prog_5_method_10_code
abbrev w_T_takeOut : List Cond := .code y_T_takeOut b_T_takeOut 3 none :: zG
theorem co_T_takeOut : Cond.code y_T_takeOut b_T_takeOut 3 none ∈ zG := zin 294 (by decide +kernel)
def y_M_become : MethodName := ⟨"CompatibilityJudge$Member", "become", "(LCompatibilityJudge$Member;)V"⟩
abbrev b_M_become : ByteArray := prog_4_method_3_code
abbrev w_M_become : List Cond := .code y_M_become b_M_become 2 none :: zG
theorem co_M_become : Cond.code y_M_become b_M_become 2 none ∈ zG := zin 298 (by decide +kernel)
def y_J_copy : MethodName := ⟨"CompatibilityJudge", "copy", "()I"⟩
abbrev b_J_copy : ByteArray := prog_1_method_8_code
abbrev w_J_copy : List Cond := .code y_J_copy b_J_copy 1 (some .int) :: zG
theorem co_J_copy : Cond.code y_J_copy b_J_copy 1 (some .int) ∈ zG := zin 302 (by decide +kernel)
def y_B_become : MethodName := ⟨"CompatibilityJudge$Baseline", "become", "(LCompatibilityJudge$Baseline;)V"⟩
abbrev b_B_become : ByteArray := prog_2_method_2_code
abbrev w_B_become : List Cond := .code y_B_become b_B_become 3 none :: zG
theorem co_B_become : Cond.code y_B_become b_B_become 3 none ∈ zG := zin 306 (by decide +kernel)
def y_T_become : MethodName := ⟨"CompatibilityJudge$Type", "become", "(LCompatibilityJudge$Type;)V"⟩
abbrev b_T_become : ByteArray := prog_5_method_4_code
abbrev w_T_become : List Cond := .code y_T_become b_T_become 3 none :: zG
theorem co_T_become : Cond.code y_T_become b_T_become 3 none ∈ zG := zin 310 (by decide +kernel)
def y_B_typeCount : MethodName := ⟨"CompatibilityJudge$Baseline", "typeCount", "()I"⟩
abbrev b_B_typeCount : ByteArray := prog_2_method_3_code
abbrev w_B_typeCount : List Cond := .code y_B_typeCount b_B_typeCount 3 (some .int) :: zG
theorem co_B_typeCount : Cond.code y_B_typeCount b_B_typeCount 3 (some .int) ∈ zG := zin 317 (by decide +kernel)
def y_J_swap : MethodName := ⟨"CompatibilityJudge", "swap", "()V"⟩
abbrev b_J_swap : ByteArray := prog_1_method_9_code
abbrev w_J_swap : List Cond := .code y_J_swap b_J_swap 2 none :: zG
theorem co_J_swap : Cond.code y_J_swap b_J_swap 2 none ∈ zG := zin 321 (by decide +kernel)
def y_J_suppress : MethodName := ⟨"CompatibilityJudge", "suppress", "(IIZ)I"⟩
abbrev b_J_suppress : ByteArray := prog_1_method_10_code
abbrev w_J_suppress : List Cond := .code y_J_suppress b_J_suppress 4 (some .int) :: zG
theorem co_J_suppress : Cond.code y_J_suppress b_J_suppress 4 (some .int) ∈ zG := zin 325 (by decide +kernel)
def y_J_isSuppressed : MethodName := ⟨"CompatibilityJudge", "isSuppressed", "(II)Z"⟩
abbrev b_J_isSuppressed : ByteArray := prog_1_method_18_code
abbrev w_J_isSuppressed : List Cond := .code y_J_isSuppressed b_J_isSuppressed 3 (some .boolean) :: zG
theorem co_J_isSuppressed : Cond.code y_J_isSuppressed b_J_isSuppressed 3 (some .boolean) ∈ zG := zin 329 (by decide +kernel)
def y_J_contains : MethodName := ⟨"CompatibilityJudge", "contains", "(II)Z"⟩
abbrev b_J_contains : ByteArray := prog_1_method_24_code
abbrev w_J_contains : List Cond := .code y_J_contains b_J_contains 2 (some .boolean) :: zG
theorem co_J_contains : Cond.code y_J_contains b_J_contains 2 (some .boolean) ∈ zG := zin 332 (by decide +kernel)
def y_J_supertypes : MethodName := ⟨"CompatibilityJudge", "supertypes", "(II)I"⟩
abbrev b_J_supertypes : ByteArray := prog_1_method_11_code
abbrev w_J_supertypes : List Cond := .code y_J_supertypes b_J_supertypes 3 (some .int) :: zG
theorem co_J_supertypes : Cond.code y_J_supertypes b_J_supertypes 3 (some .int) ∈ zG := zin 336 (by decide +kernel)
def y_J_look : MethodName := ⟨"CompatibilityJudge", "look", "(IIII)I"⟩
abbrev b_J_look : ByteArray := prog_1_method_12_code
abbrev w_J_look : List Cond := .code y_J_look b_J_look 5 (some .int) :: zG
theorem co_J_look : Cond.code y_J_look b_J_look 5 (some .int) ∈ zG := zin 340 (by decide +kernel)
def y_B_whereIs : MethodName := ⟨"CompatibilityJudge$Baseline", "whereIs", "(III)I"⟩
abbrev b_B_whereIs : ByteArray := prog_2_method_9_code
abbrev w_B_whereIs : List Cond := .code y_B_whereIs b_B_whereIs 4 (some .int) :: zG
theorem co_B_whereIs : Cond.code y_B_whereIs b_B_whereIs 4 (some .int) ∈ zG := zin 344 (by decide +kernel)
def y_B_whereIsField : MethodName := ⟨"CompatibilityJudge$Baseline", "whereIsField", "(II)I"⟩
abbrev b_B_whereIsField : ByteArray := prog_2_method_10_code
abbrev w_B_whereIsField : List Cond := .code y_B_whereIsField b_B_whereIsField 5 (some .int) :: zG
theorem co_B_whereIsField : Cond.code y_B_whereIsField b_B_whereIsField 5 (some .int) ∈ zG := zin 348 (by decide +kernel)
def y_B_fieldOwnerFor : MethodName := ⟨"CompatibilityJudge$Baseline", "fieldOwnerFor", "(II)I"⟩
abbrev b_B_fieldOwnerFor : ByteArray := prog_2_method_11_code
abbrev w_B_fieldOwnerFor : List Cond := .code y_B_fieldOwnerFor b_B_fieldOwnerFor 6 (some .int) :: zG
theorem co_B_fieldOwnerFor : Cond.code y_B_fieldOwnerFor b_B_fieldOwnerFor 6 (some .int) ∈ zG := zin 353 (by decide +kernel)
def y_B_whereIsMethod : MethodName := ⟨"CompatibilityJudge$Baseline", "whereIsMethod", "(II)I"⟩
abbrev b_B_whereIsMethod : ByteArray := prog_2_method_12_code
abbrev w_B_whereIsMethod : List Cond := .code y_B_whereIsMethod b_B_whereIsMethod 5 (some .int) :: zG
theorem co_B_whereIsMethod : Cond.code y_B_whereIsMethod b_B_whereIsMethod 5 (some .int) ∈ zG := zin 358 (by decide +kernel)
def y_B_whereIsInterfaceMethod : MethodName := ⟨"CompatibilityJudge$Baseline", "whereIsInterfaceMethod", "(II)I"⟩
abbrev b_B_whereIsInterfaceMethod : ByteArray := prog_2_method_13_code
abbrev w_B_whereIsInterfaceMethod : List Cond := .code y_B_whereIsInterfaceMethod b_B_whereIsInterfaceMethod 6 (some .int) :: zG
theorem co_B_whereIsInterfaceMethod : Cond.code y_B_whereIsInterfaceMethod b_B_whereIsInterfaceMethod 6 (some .int) ∈ zG := zin 362 (by decide +kernel)
def y_M_hasAny : MethodName := ⟨"CompatibilityJudge$Member", "hasAny", "(I)Z"⟩
abbrev b_M_hasAny : ByteArray := prog_4_method_4_code
abbrev w_M_hasAny : List Cond := .code y_M_hasAny b_M_hasAny 2 (some .boolean) :: zG
theorem co_M_hasAny : Cond.code y_M_hasAny b_M_hasAny 2 (some .boolean) ∈ zG := zin 366 (by decide +kernel)
def y_M_access : MethodName := ⟨"CompatibilityJudge$Member", "access", "()I"⟩
abbrev b_M_access : ByteArray := prog_4_method_5_code
abbrev w_M_access : List Cond := .code y_M_access b_M_access 1 (some .int) :: zG
theorem co_M_access : Cond.code y_M_access b_M_access 1 (some .int) ∈ zG := zin 370 (by decide +kernel)
def y_J_findings : MethodName := ⟨"CompatibilityJudge", "findings", "()I"⟩
abbrev b_J_findings : ByteArray := prog_1_method_13_code
abbrev w_J_findings : List Cond := .code y_J_findings b_J_findings 1 (some .int) :: zG
theorem co_J_findings : Cond.code y_J_findings b_J_findings 1 (some .int) ∈ zG := zin 374 (by decide +kernel)
def y_C_bringUpToDate : MethodName := ⟨"CompatibilityJudge$Comparison", "bringUpToDate", "(LCompatibilityJudge$Baseline;LCompatibilityJudge$Baseline;)V"⟩
abbrev b_C_bringUpToDate : ByteArray := prog_3_method_2_code
abbrev w_C_bringUpToDate : List Cond := .code y_C_bringUpToDate b_C_bringUpToDate 4 none :: zG
theorem co_C_bringUpToDate : Cond.code y_C_bringUpToDate b_C_bringUpToDate 4 none ∈ zG := zin 378 (by decide +kernel)
def y_T_isPublic : MethodName := ⟨"CompatibilityJudge$Type", "isPublic", "()Z"⟩
abbrev b_T_isPublic : ByteArray := prog_5_method_6_code
abbrev w_T_isPublic : List Cond := .code y_T_isPublic b_T_isPublic 1 (some .boolean) :: zG
theorem co_T_isPublic : Cond.code y_T_isPublic b_T_isPublic 1 (some .boolean) ∈ zG := zin 382 (by decide +kernel)
def y_T_hasAny : MethodName := ⟨"CompatibilityJudge$Type", "hasAny", "(I)Z"⟩
abbrev b_T_hasAny : ByteArray := prog_5_method_5_code
abbrev w_T_hasAny : List Cond := .code y_T_hasAny b_T_hasAny 2 (some .boolean) :: zG
theorem co_T_hasAny : Cond.code y_T_hasAny b_T_hasAny 2 (some .boolean) ∈ zG := zin 386 (by decide +kernel)
def y_C_judgeType : MethodName := ⟨"CompatibilityJudge$Comparison", "judgeType", "(LCompatibilityJudge$Baseline;LCompatibilityJudge$Baseline;I)V"⟩
abbrev b_C_judgeType : ByteArray := prog_3_method_4_code
abbrev w_C_judgeType : List Cond := .code y_C_judgeType b_C_judgeType 6 none :: zG
theorem co_C_judgeType : Cond.code y_C_judgeType b_C_judgeType 6 none ∈ zG := zin 390 (by decide +kernel)
def y_C_add : MethodName := ⟨"CompatibilityJudge$Comparison", "add", "(III)V"⟩
abbrev b_C_add : ByteArray := prog_3_method_3_code
abbrev w_C_add : List Cond := .code y_C_add b_C_add 4 none :: zG
theorem co_C_add : Cond.code y_C_add b_C_add 4 none ∈ zG := zin 394 (by decide +kernel)
def y_C_judgeHeader : MethodName := ⟨"CompatibilityJudge$Comparison", "judgeHeader", "(LCompatibilityJudge$Type;LCompatibilityJudge$Type;I)V"⟩
abbrev b_C_judgeHeader : ByteArray := prog_3_method_5_code
abbrev w_C_judgeHeader : List Cond := .code y_C_judgeHeader b_C_judgeHeader 6 none :: zG
theorem co_C_judgeHeader : Cond.code y_C_judgeHeader b_C_judgeHeader 6 none ∈ zG := zin 398 (by decide +kernel)
def y_C_findPartners : MethodName := ⟨"CompatibilityJudge$Comparison", "findPartners", "(LCompatibilityJudge$Type;LCompatibilityJudge$Baseline;I)V"⟩
abbrev b_C_findPartners : ByteArray := prog_3_method_8_code
abbrev w_C_findPartners : List Cond := .code y_C_findPartners b_C_findPartners 7 none :: zG
theorem co_C_findPartners : Cond.code y_C_findPartners b_C_findPartners 7 none ∈ zG := zin 404 (by decide +kernel)
def y_C_judgeOldMembers : MethodName := ⟨"CompatibilityJudge$Comparison", "judgeOldMembers", "(LCompatibilityJudge$Type;I)V"⟩
abbrev b_C_judgeOldMembers : ByteArray := prog_3_method_6_code
abbrev w_C_judgeOldMembers : List Cond := .code y_C_judgeOldMembers b_C_judgeOldMembers 6 none :: zG
theorem co_C_judgeOldMembers : Cond.code y_C_judgeOldMembers b_C_judgeOldMembers 6 none ∈ zG := zin 410 (by decide +kernel)
def y_M_isOpen : MethodName := ⟨"CompatibilityJudge$Member", "isOpen", "()Z"⟩
abbrev b_M_isOpen : ByteArray := prog_4_method_6_code
abbrev w_M_isOpen : List Cond := .code y_M_isOpen b_M_isOpen 1 (some .boolean) :: zG
theorem co_M_isOpen : Cond.code y_M_isOpen b_M_isOpen 1 (some .boolean) ∈ zG := zin 414 (by decide +kernel)
def y_C_breaksAsOld : MethodName := ⟨"CompatibilityJudge$Comparison", "breaksAsOld", "(ILCompatibilityJudge$Type;LCompatibilityJudge$Member;LCompatibilityJudge$Member;)Z"⟩
abbrev b_C_breaksAsOld : ByteArray := prog_3_method_9_code
abbrev w_C_breaksAsOld : List Cond := .code y_C_breaksAsOld b_C_breaksAsOld 4 (some .boolean) :: zG
theorem co_C_breaksAsOld : Cond.code y_C_breaksAsOld b_C_breaksAsOld 4 (some .boolean) ∈ zG := zin 418 (by decide +kernel)
def y_M_hasConstantOf : MethodName := ⟨"CompatibilityJudge$Member", "hasConstantOf", "(LCompatibilityJudge$Member;)Z"⟩
abbrev b_M_hasConstantOf : ByteArray := prog_4_method_7_code
abbrev w_M_hasConstantOf : List Cond := .code y_M_hasConstantOf b_M_hasConstantOf 2 (some .boolean) :: zG
theorem co_M_hasConstantOf : Cond.code y_M_hasConstantOf b_M_hasConstantOf 2 (some .boolean) ∈ zG := zin 424 (by decide +kernel)
def y_C_judgeNewMembers : MethodName := ⟨"CompatibilityJudge$Comparison", "judgeNewMembers", "(LCompatibilityJudge$Type;LCompatibilityJudge$Type;I)V"⟩
abbrev b_C_judgeNewMembers : ByteArray := prog_3_method_7_code
abbrev w_C_judgeNewMembers : List Cond := .code y_C_judgeNewMembers b_C_judgeNewMembers 7 none :: zG
theorem co_C_judgeNewMembers : Cond.code y_C_judgeNewMembers b_C_judgeNewMembers 7 none ∈ zG := zin 428 (by decide +kernel)
def y_C_breaksAsNew : MethodName := ⟨"CompatibilityJudge$Comparison", "breaksAsNew", "(ILCompatibilityJudge$Member;LCompatibilityJudge$Member;)Z"⟩
abbrev b_C_breaksAsNew : ByteArray := prog_3_method_10_code
abbrev w_C_breaksAsNew : List Cond := .code y_C_breaksAsNew b_C_breaksAsNew 3 (some .boolean) :: zG
theorem co_C_breaksAsNew : Cond.code y_C_breaksAsNew b_C_breaksAsNew 3 (some .boolean) ∈ zG := zin 431 (by decide +kernel)
def y_J_finding : MethodName := ⟨"CompatibilityJudge", "finding", "(II)I"⟩
abbrev b_J_finding : ByteArray := prog_1_method_14_code
abbrev w_J_finding : List Cond := .code y_J_finding b_J_finding 5 (some .int) :: zG
theorem co_J_finding : Cond.code y_J_finding b_J_finding 5 (some .int) ∈ zG := zin 435 (by decide +kernel)
def y_J_verdict : MethodName := ⟨"CompatibilityJudge", "verdict", "()I"⟩
abbrev b_J_verdict : ByteArray := prog_1_method_15_code
abbrev w_J_verdict : List Cond := .code y_J_verdict b_J_verdict 4 (some .int) :: zG
theorem co_J_verdict : Cond.code y_J_verdict b_J_verdict 4 (some .int) ∈ zG := zin 441 (by decide +kernel)
def y_J_byRule : MethodName := ⟨"CompatibilityJudge", "byRule", "(I)I"⟩
abbrev b_J_byRule : ByteArray := prog_1_method_16_code
abbrev w_J_byRule : List Cond := .code y_J_byRule b_J_byRule 4 (some .int) :: zG
theorem co_J_byRule : Cond.code y_J_byRule b_J_byRule 4 (some .int) ∈ zG := zin 448 (by decide +kernel)
def y_J_count : MethodName := ⟨"CompatibilityJudge", "count", "(I)I"⟩
abbrev b_J_count : ByteArray := prog_1_method_17_code
abbrev w_J_count : List Cond := .code y_J_count b_J_count 2 (some .int) :: zG
theorem co_J_count : Cond.code y_J_count b_J_count 2 (some .int) ∈ zG := zin 452 (by decide +kernel)
def y_B_memberCount : MethodName := ⟨"CompatibilityJudge$Baseline", "memberCount", "()I"⟩
abbrev b_B_memberCount : ByteArray := prog_2_method_4_code
abbrev w_B_memberCount : List Cond := .code y_B_memberCount b_B_memberCount 3 (some .int) :: zG
theorem co_B_memberCount : Cond.code y_B_memberCount b_B_memberCount 3 (some .int) ∈ zG := zin 456 (by decide +kernel)
def y_J_suppressionCount : MethodName := ⟨"CompatibilityJudge", "suppressionCount", "()I"⟩
abbrev b_J_suppressionCount : ByteArray := prog_1_method_19_code
abbrev w_J_suppressionCount : List Cond := .code y_J_suppressionCount b_J_suppressionCount 3 (some .int) :: zG
theorem co_J_suppressionCount : Cond.code y_J_suppressionCount b_J_suppressionCount 3 (some .int) ∈ zG := zin 460 (by decide +kernel)
def y_I_bitCount : MethodName := ⟨"java/lang/Integer", "bitCount", "(I)I"⟩
abbrev b_I_bitCount : ByteArray := prog_8_method_49_code
abbrev w_I_bitCount : List Cond := .code y_I_bitCount b_I_bitCount 1 (some .int) :: zG
theorem co_I_bitCount : Cond.code y_I_bitCount b_I_bitCount 1 (some .int) ∈ zG := zin 463 (by decide +kernel)
def y_R_init : MethodName := ⟨"CompatibilityJudgeModel", "<init>", "()V"⟩
abbrev b_R_init : ByteArray := prog_7_method_1_code
abbrev w_R_init : List Cond := .code y_R_init b_R_init 1 none :: zG
theorem co_R_init : Cond.code y_R_init b_R_init 1 none ∈ zG := zin 471 (by decide +kernel)
def y_R_type : MethodName := ⟨"CompatibilityJudgeModel", "type", "(IIIII)I"⟩
abbrev b_R_type : ByteArray := prog_7_method_4_code
abbrev w_R_type : List Cond := .code y_R_type b_R_type 7 (some .int) :: zG
theorem co_R_type : Cond.code y_R_type b_R_type 7 (some .int) ∈ zG := zin 544 (by decide +kernel)
def y_R_bad : MethodName := ⟨"CompatibilityJudgeModel", "bad", "(II)Z"⟩
abbrev b_R_bad : ByteArray := prog_7_method_3_code
abbrev w_R_bad : List Cond := .code y_R_bad b_R_bad 2 (some .boolean) :: zG
theorem co_R_bad : Cond.code y_R_bad b_R_bad 2 (some .boolean) ∈ zG := zin 547 (by decide +kernel)
def y_R_out : MethodName := ⟨"CompatibilityJudgeModel", "out", "(II)Z"⟩
abbrev b_R_out : ByteArray := prog_7_method_2_code
abbrev w_R_out : List Cond := .code y_R_out b_R_out 2 (some .boolean) :: zG
theorem co_R_out : Cond.code y_R_out b_R_out 2 (some .boolean) ∈ zG := zin 550 (by decide +kernel)
def y_R_implement : MethodName := ⟨"CompatibilityJudgeModel", "implement", "(III)I"⟩
abbrev b_R_implement : ByteArray := prog_7_method_5_code
abbrev w_R_implement : List Cond := .code y_R_implement b_R_implement 6 (some .int) :: zG
theorem co_R_implement : Cond.code y_R_implement b_R_implement 6 (some .int) ∈ zG := zin 554 (by decide +kernel)
def y_R_member : MethodName := ⟨"CompatibilityJudgeModel", "member", "(IIIII)I"⟩
abbrev b_R_member : ByteArray := prog_7_method_10_code
abbrev w_R_member : List Cond := .code y_R_member b_R_member 8 (some .int) :: zG
theorem co_R_member : Cond.code y_R_member b_R_member 8 (some .int) ∈ zG := zin 558 (by decide +kernel)
def y_R_badKey : MethodName := ⟨"CompatibilityJudgeModel", "badKey", "(II)Z"⟩
abbrev b_R_badKey : ByteArray := prog_7_method_6_code
abbrev w_R_badKey : List Cond := .code y_R_badKey b_R_badKey 2 (some .boolean) :: zG
theorem co_R_badKey : Cond.code y_R_badKey b_R_badKey 2 (some .boolean) ∈ zG := zin 561 (by decide +kernel)
def y_R_own : MethodName := ⟨"CompatibilityJudgeModel", "own", "(III)I"⟩
abbrev b_R_own : ByteArray := prog_7_method_7_code
abbrev w_R_own : List Cond := .code y_R_own b_R_own 5 (some .int) :: zG
theorem co_R_own : Cond.code y_R_own b_R_own 5 (some .int) ∈ zG := zin 565 (by decide +kernel)
def y_R_badFlags : MethodName := ⟨"CompatibilityJudgeModel", "badFlags", "(ZII)Z"⟩
abbrev b_R_badFlags : ByteArray := prog_7_method_9_code
abbrev w_R_badFlags : List Cond := .code y_R_badFlags b_R_badFlags 4 (some .boolean) :: zG
theorem co_R_badFlags : Cond.code y_R_badFlags b_R_badFlags 4 (some .boolean) ∈ zG := zin 568 (by decide +kernel)
def y_R_has : MethodName := ⟨"CompatibilityJudgeModel", "has", "(II)Z"⟩
abbrev b_R_has : ByteArray := prog_7_method_8_code
abbrev w_R_has : List Cond := .code y_R_has b_R_has 2 (some .boolean) :: zG
theorem co_R_has : Cond.code y_R_has b_R_has 2 (some .boolean) ∈ zG := zin 571 (by decide +kernel)
def y_R_constant : MethodName := ⟨"CompatibilityJudgeModel", "constant", "(IIII)I"⟩
abbrev b_R_constant : ByteArray := prog_7_method_12_code
abbrev w_R_constant : List Cond := .code y_R_constant b_R_constant 7 (some .int) :: zG
theorem co_R_constant : Cond.code y_R_constant b_R_constant 7 (some .int) ∈ zG := zin 575 (by decide +kernel)
def y_R_cell : MethodName := ⟨"CompatibilityJudgeModel", "cell", "(III)I"⟩
abbrev b_R_cell : ByteArray := prog_7_method_11_code
abbrev w_R_cell : List Cond := .code y_R_cell b_R_cell 5 (some .int) :: zG
theorem co_R_cell : Cond.code y_R_cell b_R_cell 5 (some .int) ∈ zG := zin 579 (by decide +kernel)
def y_R_remove : MethodName := ⟨"CompatibilityJudgeModel", "remove", "(II)I"⟩
abbrev b_R_remove : ByteArray := prog_7_method_13_code
abbrev w_R_remove : List Cond := .code y_R_remove b_R_remove 3 (some .int) :: zG
theorem co_R_remove : Cond.code y_R_remove b_R_remove 3 (some .int) ∈ zG := zin 583 (by decide +kernel)
def y_R_drop : MethodName := ⟨"CompatibilityJudgeModel", "drop", "(III)I"⟩
abbrev b_R_drop : ByteArray := prog_7_method_15_code
abbrev w_R_drop : List Cond := .code y_R_drop b_R_drop 7 (some .int) :: zG
theorem co_R_drop : Cond.code y_R_drop b_R_drop 7 (some .int) ∈ zG := zin 587 (by decide +kernel)
def y_R_copyCell : MethodName := ⟨"CompatibilityJudgeModel", "copyCell", "(II)V"⟩
abbrev b_R_copyCell : ByteArray := prog_7_method_14_code
abbrev w_R_copyCell : List Cond := .code y_R_copyCell b_R_copyCell 3 none :: zG
theorem co_R_copyCell : Cond.code y_R_copyCell b_R_copyCell 3 none ∈ zG := zin 591 (by decide +kernel)
def y_R_copy : MethodName := ⟨"CompatibilityJudgeModel", "copy", "()I"⟩
abbrev b_R_copy : ByteArray := prog_7_method_17_code
abbrev w_R_copy : List Cond := .code y_R_copy b_R_copy 2 (some .int) :: zG
theorem co_R_copy : Cond.code y_R_copy b_R_copy 2 (some .int) ∈ zG := zin 595 (by decide +kernel)
def y_R_copyRow : MethodName := ⟨"CompatibilityJudgeModel", "copyRow", "(II)V"⟩
abbrev b_R_copyRow : ByteArray := prog_7_method_16_code
abbrev w_R_copyRow : List Cond := .code y_R_copyRow b_R_copyRow 4 none :: zG
theorem co_R_copyRow : Cond.code y_R_copyRow b_R_copyRow 4 none ∈ zG := zin 599 (by decide +kernel)
def y_R_count : MethodName := ⟨"CompatibilityJudgeModel", "count", "(I)I"⟩
abbrev b_R_count : ByteArray := prog_7_method_42_code
abbrev w_R_count : List Cond := .code y_R_count b_R_count 5 (some .int) :: zG
theorem co_R_count : Cond.code y_R_count b_R_count 5 (some .int) ∈ zG := zin 603 (by decide +kernel)
def y_R_swap : MethodName := ⟨"CompatibilityJudgeModel", "swap", "()V"⟩
abbrev b_R_swap : ByteArray := prog_7_method_18_code
abbrev w_R_swap : List Cond := .code y_R_swap b_R_swap 8 none :: zG
theorem co_R_swap : Cond.code y_R_swap b_R_swap 8 none ∈ zG := zin 607 (by decide +kernel)
def y_R_copyHead : MethodName := ⟨"CompatibilityJudgeModel", "copyHead", "(II)V"⟩
abbrev b_R_copyHead : ByteArray := prog_7_method_19_code
abbrev w_R_copyHead : List Cond := .code y_R_copyHead b_R_copyHead 3 none :: zG
theorem co_R_copyHead : Cond.code y_R_copyHead b_R_copyHead 3 none ∈ zG := zin 611 (by decide +kernel)
def y_R_swapCell : MethodName := ⟨"CompatibilityJudgeModel", "swapCell", "(II)V"⟩
abbrev b_R_swapCell : ByteArray := prog_7_method_20_code
abbrev w_R_swapCell : List Cond := .code y_R_swapCell b_R_swapCell 8 none :: zG
theorem co_R_swapCell : Cond.code y_R_swapCell b_R_swapCell 8 none ∈ zG := zin 615 (by decide +kernel)
def y_R_suppress : MethodName := ⟨"CompatibilityJudgeModel", "suppress", "(IIZ)I"⟩
abbrev b_R_suppress : ByteArray := prog_7_method_21_code
abbrev w_R_suppress : List Cond := .code y_R_suppress b_R_suppress 5 (some .int) :: zG
theorem co_R_suppress : Cond.code y_R_suppress b_R_suppress 5 (some .int) ∈ zG := zin 619 (by decide +kernel)
def y_R_supertypes : MethodName := ⟨"CompatibilityJudgeModel", "supertypes", "(II)I"⟩
abbrev b_R_supertypes : ByteArray := prog_7_method_26_code
abbrev w_R_supertypes : List Cond := .code y_R_supertypes b_R_supertypes 3 (some .int) :: zG
theorem co_R_supertypes : Cond.code y_R_supertypes b_R_supertypes 3 (some .int) ∈ zG := zin 623 (by decide +kernel)
def y_R_set : MethodName := ⟨"CompatibilityJudgeModel", "set", "(II)I"⟩
abbrev b_R_set : ByteArray := prog_7_method_25_code
abbrev w_R_set : List Cond := .code y_R_set b_R_set 7 (some .int) :: zG
theorem co_R_set : Cond.code y_R_set b_R_set 7 (some .int) ∈ zG := zin 627 (by decide +kernel)
def y_R_direct : MethodName := ⟨"CompatibilityJudgeModel", "direct", "(III)Z"⟩
abbrev b_R_direct : ByteArray := prog_7_method_23_code
abbrev w_R_direct : List Cond := .code y_R_direct b_R_direct 6 (some .boolean) :: zG
theorem co_R_direct : Cond.code y_R_direct b_R_direct 6 (some .boolean) ∈ zG := zin 631 (by decide +kernel)
def y_R_look : MethodName := ⟨"CompatibilityJudgeModel", "look", "(IIII)I"⟩
abbrev b_R_look : ByteArray := prog_7_method_30_code
abbrev w_R_look : List Cond := .code y_R_look b_R_look 6 (some .int) :: zG
theorem co_R_look : Cond.code y_R_look b_R_look 6 (some .int) ∈ zG := zin 635 (by decide +kernel)
def y_R_find : MethodName := ⟨"CompatibilityJudgeModel", "find", "(IIII)I"⟩
abbrev b_R_find : ByteArray := prog_7_method_29_code
abbrev w_R_find : List Cond := .code y_R_find b_R_find 5 (some .int) :: zG
theorem co_R_find : Cond.code y_R_find b_R_find 5 (some .int) ∈ zG := zin 639 (by decide +kernel)
def y_R_field : MethodName := ⟨"CompatibilityJudgeModel", "field", "(III)I"⟩
abbrev b_R_field : ByteArray := prog_7_method_27_code
abbrev w_R_field : List Cond := .code y_R_field b_R_field 9 (some .int) :: zG
theorem co_R_field : Cond.code y_R_field b_R_field 9 (some .int) ∈ zG := zin 643 (by decide +kernel)
def y_R_is : MethodName := ⟨"CompatibilityJudgeModel", "is", "(III)Z"⟩
abbrev b_R_is : ByteArray := prog_7_method_22_code
abbrev w_R_is : List Cond := .code y_R_is b_R_is 4 (some .boolean) :: zG
theorem co_R_is : Cond.code y_R_is b_R_is 4 (some .boolean) ∈ zG := zin 647 (by decide +kernel)
def y_R_method : MethodName := ⟨"CompatibilityJudgeModel", "method", "(III)I"⟩
abbrev b_R_method : ByteArray := prog_7_method_28_code
abbrev w_R_method : List Cond := .code y_R_method b_R_method 8 (some .int) :: zG
theorem co_R_method : Cond.code y_R_method b_R_method 8 (some .int) ∈ zG := zin 651 (by decide +kernel)
def y_R_above : MethodName := ⟨"CompatibilityJudgeModel", "above", "(III)Z"⟩
abbrev b_R_above : ByteArray := prog_7_method_24_code
abbrev w_R_above : List Cond := .code y_R_above b_R_above 4 (some .boolean) :: zG
theorem co_R_above : Cond.code y_R_above b_R_above 4 (some .boolean) ∈ zG := zin 655 (by decide +kernel)
def y_R_findings : MethodName := ⟨"CompatibilityJudgeModel", "findings", "()I"⟩
abbrev b_R_findings : ByteArray := prog_7_method_38_code
abbrev w_R_findings : List Cond := .code y_R_findings b_R_findings 1 (some .int) :: zG
theorem co_R_findings : Cond.code y_R_findings b_R_findings 1 (some .int) ∈ zG := zin 659 (by decide +kernel)
def y_R_all : MethodName := ⟨"CompatibilityJudgeModel", "all", "(I)V"⟩
abbrev b_R_all : ByteArray := prog_7_method_37_code
abbrev w_R_all : List Cond := .code y_R_all b_R_all 3 none :: zG
theorem co_R_all : Cond.code y_R_all b_R_all 3 none ∈ zG := zin 663 (by decide +kernel)
def y_R_judge : MethodName := ⟨"CompatibilityJudgeModel", "judge", "(I)V"⟩
abbrev b_R_judge : ByteArray := prog_7_method_36_code
abbrev w_R_judge : List Cond := .code y_R_judge b_R_judge 4 none :: zG
theorem co_R_judge : Cond.code y_R_judge b_R_judge 4 none ∈ zG := zin 667 (by decide +kernel)
def y_R_tell : MethodName := ⟨"CompatibilityJudgeModel", "tell", "(III)V"⟩
abbrev b_R_tell : ByteArray := prog_7_method_32_code
abbrev w_R_tell : List Cond := .code y_R_tell b_R_tell 4 none :: zG
theorem co_R_tell : Cond.code y_R_tell b_R_tell 4 none ∈ zG := zin 671 (by decide +kernel)
def y_R_severity : MethodName := ⟨"CompatibilityJudgeModel", "severity", "(I)I"⟩
abbrev b_R_severity : ByteArray := prog_7_method_31_code
abbrev w_R_severity : List Cond := .code y_R_severity b_R_severity 1 (some .int) :: zG
theorem co_R_severity : Cond.code y_R_severity b_R_severity 1 (some .int) ∈ zG := zin 674 (by decide +kernel)
def y_R_members : MethodName := ⟨"CompatibilityJudgeModel", "members", "(II)V"⟩
abbrev b_R_members : ByteArray := prog_7_method_34_code
abbrev w_R_members : List Cond := .code y_R_members b_R_members 4 none :: zG
theorem co_R_members : Cond.code y_R_members b_R_members 4 none ∈ zG := zin 678 (by decide +kernel)
def y_R_breaks : MethodName := ⟨"CompatibilityJudgeModel", "breaks", "(IIII)Z"⟩
abbrev b_R_breaks : ByteArray := prog_7_method_33_code
abbrev w_R_breaks : List Cond := .code y_R_breaks b_R_breaks 7 (some .boolean) :: zG
theorem co_R_breaks : Cond.code y_R_breaks b_R_breaks 7 (some .boolean) ∈ zG := zin 682 (by decide +kernel)
def y_R_added : MethodName := ⟨"CompatibilityJudgeModel", "added", "(II)V"⟩
abbrev b_R_added : ByteArray := prog_7_method_35_code
abbrev w_R_added : List Cond := .code y_R_added b_R_added 7 none :: zG
theorem co_R_added : Cond.code y_R_added b_R_added 7 none ∈ zG := zin 686 (by decide +kernel)
def y_R_finding : MethodName := ⟨"CompatibilityJudgeModel", "finding", "(II)I"⟩
abbrev b_R_finding : ByteArray := prog_7_method_39_code
abbrev w_R_finding : List Cond := .code y_R_finding b_R_finding 3 (some .int) :: zG
theorem co_R_finding : Cond.code y_R_finding b_R_finding 3 (some .int) ∈ zG := zin 690 (by decide +kernel)
def y_R_verdict : MethodName := ⟨"CompatibilityJudgeModel", "verdict", "()I"⟩
abbrev b_R_verdict : ByteArray := prog_7_method_40_code
abbrev w_R_verdict : List Cond := .code y_R_verdict b_R_verdict 1 (some .int) :: zG
theorem co_R_verdict : Cond.code y_R_verdict b_R_verdict 1 (some .int) ∈ zG := zin 694 (by decide +kernel)
def y_R_byRule : MethodName := ⟨"CompatibilityJudgeModel", "byRule", "(I)I"⟩
abbrev b_R_byRule : ByteArray := prog_7_method_41_code
abbrev w_R_byRule : List Cond := .code y_R_byRule b_R_byRule 2 (some .int) :: zG
theorem co_R_byRule : Cond.code y_R_byRule b_R_byRule 2 (some .int) ∈ zG := zin 698 (by decide +kernel)
theorem co_O_init : Cond.code objectInit ⟨#[0xb1]⟩ 1 none ∈ zG := zin 52 (by decide +kernel)
theorem co_Mt_max : Cond.code Lib.Math.max.name Lib.Math.max.code 2 (some .int) ∈ zG := zin 444 (by decide +kernel)
theorem ii_L : Cond.initialized "CompatibilityJudgeLaw" ∈ zG := zin 35 (by decide +kernel)
theorem ii_J : Cond.initialized "CompatibilityJudge" ∈ zG := zin 36 (by decide +kernel)
theorem ii_B : Cond.initialized "CompatibilityJudge$Baseline" ∈ zG := zin 37 (by decide +kernel)
theorem ii_T : Cond.initialized "CompatibilityJudge$Type" ∈ zG := zin 38 (by decide +kernel)
theorem ii_M : Cond.initialized "CompatibilityJudge$Member" ∈ zG := zin 39 (by decide +kernel)
theorem ii_C : Cond.initialized "CompatibilityJudge$Comparison" ∈ zG := zin 40 (by decide +kernel)
theorem ii_R : Cond.initialized "CompatibilityJudgeModel" ∈ zG := zin 41 (by decide +kernel)
theorem ii_Sy : Cond.initialized "java/lang/System" ∈ zG := zin 42 (by decide +kernel)
theorem ii_Mt : Cond.initialized "java/lang/Math" ∈ zG := zin 43 (by decide +kernel)
theorem ii_I : Cond.initialized "java/lang/Integer" ∈ zG := zin 44 (by decide +kernel)
theorem in_J : Cond.instantiable "CompatibilityJudge" 3 ∈ zG := zin 46 (by decide +kernel)
theorem im_J_init : Cond.instanceMethod y_J_init ∈ zG := zin 48 (by decide +kernel)
theorem im_O_init : Cond.instanceMethod objectInit ∈ zG := zin 51 (by decide +kernel)
theorem ao_B : Cond.arrayOver (.object "CompatibilityJudge$Baseline") ∈ lw_tbl := List.mem_of_getElem? (i := 54) (by decide +kernel)
theorem in_B : Cond.instantiable "CompatibilityJudge$Baseline" 2 ∈ zG := zin 55 (by decide +kernel)
theorem im_B_init : Cond.instanceMethod y_B_init ∈ zG := zin 57 (by decide +kernel)
theorem ao_T : Cond.arrayOver (.object "CompatibilityJudge$Type") ∈ lw_tbl := List.mem_of_getElem? (i := 61) (by decide +kernel)
theorem in_T : Cond.instantiable "CompatibilityJudge$Type" 10 ∈ zG := zin 62 (by decide +kernel)
theorem im_T_init : Cond.instanceMethod y_T_init ∈ zG := zin 64 (by decide +kernel)
theorem ao_M : Cond.arrayOver (.object "CompatibilityJudge$Member") ∈ lw_tbl := List.mem_of_getElem? (i := 68) (by decide +kernel)
theorem in_M : Cond.instantiable "CompatibilityJudge$Member" 5 ∈ zG := zin 69 (by decide +kernel)
theorem im_M_init : Cond.instanceMethod y_M_init ∈ zG := zin 71 (by decide +kernel)
theorem ac_int : Cond.arrayClass .int ∈ zG := zin 98 (by decide +kernel)
theorem in_C : Cond.instantiable "CompatibilityJudge$Comparison" 6 ∈ zG := zin 158 (by decide +kernel)
theorem im_C_init : Cond.instanceMethod y_C_init ∈ zG := zin 160 (by decide +kernel)
theorem im_J_type : Cond.instanceMethod y_J_type ∈ zG := zin 199 (by decide +kernel)
theorem se_J_type : Cond.selects "CompatibilityJudge" y_J_type y_J_type ∈ zG := zin 200 (by decide +kernel)
theorem sm_J_isTypeOf : Cond.static y_J_isTypeOf ∈ zG := zin 203 (by decide +kernel)
theorem sm_J_isWithin : Cond.static y_J_isWithin ∈ zG := zin 206 (by decide +kernel)
theorem sm_J_isTypeAllowed : Cond.static y_J_isTypeAllowed ∈ zG := zin 209 (by decide +kernel)
theorem im_T_define : Cond.instanceMethod y_T_define ∈ zG := zin 212 (by decide +kernel)
theorem se_T_define : Cond.selects "CompatibilityJudge$Type" y_T_define y_T_define ∈ zG := zin 213 (by decide +kernel)
theorem im_B_settle : Cond.instanceMethod y_B_settle ∈ zG := zin 216 (by decide +kernel)
theorem se_B_settle : Cond.selects "CompatibilityJudge$Baseline" y_B_settle y_B_settle ∈ zG := zin 217 (by decide +kernel)
theorem im_B_isClass : Cond.instanceMethod y_B_isClass ∈ zG := zin 221 (by decide +kernel)
theorem im_B_gatherSupertypes : Cond.instanceMethod y_B_gatherSupertypes ∈ zG := zin 226 (by decide +kernel)
theorem im_B_isInterface : Cond.instanceMethod y_B_isInterface ∈ zG := zin 230 (by decide +kernel)
theorem im_J_implement : Cond.instanceMethod y_J_implement ∈ zG := zin 233 (by decide +kernel)
theorem se_J_implement : Cond.selects "CompatibilityJudge" y_J_implement y_J_implement ∈ zG := zin 234 (by decide +kernel)
theorem im_T_names : Cond.instanceMethod y_T_names ∈ zG := zin 237 (by decide +kernel)
theorem se_T_names : Cond.selects "CompatibilityJudge$Type" y_T_names y_T_names ∈ zG := zin 238 (by decide +kernel)
theorem im_T_addInterface : Cond.instanceMethod y_T_addInterface ∈ zG := zin 241 (by decide +kernel)
theorem se_T_addInterface : Cond.selects "CompatibilityJudge$Type" y_T_addInterface y_T_addInterface ∈ zG := zin 242 (by decide +kernel)
theorem im_J_member : Cond.instanceMethod y_J_member ∈ zG := zin 245 (by decide +kernel)
theorem se_J_member : Cond.selects "CompatibilityJudge" y_J_member y_J_member ∈ zG := zin 246 (by decide +kernel)
theorem sm_J_isKey : Cond.static y_J_isKey ∈ zG := zin 249 (by decide +kernel)
theorem ls_KEY_LIMITS : Cond.laysStatic "CompatibilityJudge" "KEY_LIMITS" "[I" ∈ lw_tbl := List.mem_of_getElem? (i := 252) (by decide +kernel)
theorem im_T_own : Cond.instanceMethod y_T_own ∈ zG := zin 254 (by decide +kernel)
theorem se_T_own : Cond.selects "CompatibilityJudge$Type" y_T_own y_T_own ∈ zG := zin 255 (by decide +kernel)
theorem sm_J_isMemberAllowed : Cond.static y_J_isMemberAllowed ∈ zG := zin 258 (by decide +kernel)
theorem sm_J_isAllowedInInterface : Cond.static y_J_isAllowedInInterface ∈ zG := zin 261 (by decide +kernel)
theorem im_T_addMember : Cond.instanceMethod y_T_addMember ∈ zG := zin 264 (by decide +kernel)
theorem se_T_addMember : Cond.selects "CompatibilityJudge$Type" y_T_addMember y_T_addMember ∈ zG := zin 265 (by decide +kernel)
theorem im_M_define : Cond.instanceMethod y_M_define ∈ zG := zin 268 (by decide +kernel)
theorem se_M_define : Cond.selects "CompatibilityJudge$Member" y_M_define y_M_define ∈ zG := zin 269 (by decide +kernel)
theorem im_J_constant : Cond.instanceMethod y_J_constant ∈ zG := zin 272 (by decide +kernel)
theorem se_J_constant : Cond.selects "CompatibilityJudge" y_J_constant y_J_constant ∈ zG := zin 273 (by decide +kernel)
theorem im_J_isMemberOf : Cond.instanceMethod y_J_isMemberOf ∈ zG := zin 277 (by decide +kernel)
theorem im_J_remove : Cond.instanceMethod y_J_remove ∈ zG := zin 280 (by decide +kernel)
theorem se_J_remove : Cond.selects "CompatibilityJudge" y_J_remove y_J_remove ∈ zG := zin 281 (by decide +kernel)
theorem im_T_clear : Cond.instanceMethod y_T_clear ∈ zG := zin 284 (by decide +kernel)
theorem se_T_clear : Cond.selects "CompatibilityJudge$Type" y_T_clear y_T_clear ∈ zG := zin 285 (by decide +kernel)
theorem im_J_drop : Cond.instanceMethod y_J_drop ∈ zG := zin 288 (by decide +kernel)
theorem se_J_drop : Cond.selects "CompatibilityJudge" y_J_drop y_J_drop ∈ zG := zin 289 (by decide +kernel)
theorem im_T_takeOut : Cond.instanceMethod y_T_takeOut ∈ zG := zin 292 (by decide +kernel)
theorem se_T_takeOut : Cond.selects "CompatibilityJudge$Type" y_T_takeOut y_T_takeOut ∈ zG := zin 293 (by decide +kernel)
theorem im_M_become : Cond.instanceMethod y_M_become ∈ zG := zin 296 (by decide +kernel)
theorem se_M_become : Cond.selects "CompatibilityJudge$Member" y_M_become y_M_become ∈ zG := zin 297 (by decide +kernel)
theorem im_J_copy : Cond.instanceMethod y_J_copy ∈ zG := zin 300 (by decide +kernel)
theorem se_J_copy : Cond.selects "CompatibilityJudge" y_J_copy y_J_copy ∈ zG := zin 301 (by decide +kernel)
theorem im_B_become : Cond.instanceMethod y_B_become ∈ zG := zin 304 (by decide +kernel)
theorem se_B_become : Cond.selects "CompatibilityJudge$Baseline" y_B_become y_B_become ∈ zG := zin 305 (by decide +kernel)
theorem im_T_become : Cond.instanceMethod y_T_become ∈ zG := zin 308 (by decide +kernel)
theorem se_T_become : Cond.selects "CompatibilityJudge$Type" y_T_become y_T_become ∈ zG := zin 309 (by decide +kernel)
theorem sm_Sy_arraycopy : Cond.static arraycopyName ∈ zG := zin 312 (by decide +kernel)
theorem nm_Sy_arraycopy : Cond.native arraycopyName ∈ zG := zin 313 (by decide +kernel)
theorem im_B_typeCount : Cond.instanceMethod y_B_typeCount ∈ zG := zin 315 (by decide +kernel)
theorem se_B_typeCount : Cond.selects "CompatibilityJudge$Baseline" y_B_typeCount y_B_typeCount ∈ zG := zin 316 (by decide +kernel)
theorem im_J_swap : Cond.instanceMethod y_J_swap ∈ zG := zin 319 (by decide +kernel)
theorem se_J_swap : Cond.selects "CompatibilityJudge" y_J_swap y_J_swap ∈ zG := zin 320 (by decide +kernel)
theorem im_J_suppress : Cond.instanceMethod y_J_suppress ∈ zG := zin 323 (by decide +kernel)
theorem se_J_suppress : Cond.selects "CompatibilityJudge" y_J_suppress y_J_suppress ∈ zG := zin 324 (by decide +kernel)
theorem im_J_isSuppressed : Cond.instanceMethod y_J_isSuppressed ∈ zG := zin 328 (by decide +kernel)
theorem sm_J_contains : Cond.static y_J_contains ∈ zG := zin 331 (by decide +kernel)
theorem im_J_supertypes : Cond.instanceMethod y_J_supertypes ∈ zG := zin 334 (by decide +kernel)
theorem se_J_supertypes : Cond.selects "CompatibilityJudge" y_J_supertypes y_J_supertypes ∈ zG := zin 335 (by decide +kernel)
theorem im_J_look : Cond.instanceMethod y_J_look ∈ zG := zin 338 (by decide +kernel)
theorem se_J_look : Cond.selects "CompatibilityJudge" y_J_look y_J_look ∈ zG := zin 339 (by decide +kernel)
theorem im_B_whereIs : Cond.instanceMethod y_B_whereIs ∈ zG := zin 342 (by decide +kernel)
theorem se_B_whereIs : Cond.selects "CompatibilityJudge$Baseline" y_B_whereIs y_B_whereIs ∈ zG := zin 343 (by decide +kernel)
theorem im_B_whereIsField : Cond.instanceMethod y_B_whereIsField ∈ zG := zin 347 (by decide +kernel)
theorem im_B_fieldOwnerFor : Cond.instanceMethod y_B_fieldOwnerFor ∈ zG := zin 352 (by decide +kernel)
theorem im_B_whereIsMethod : Cond.instanceMethod y_B_whereIsMethod ∈ zG := zin 357 (by decide +kernel)
theorem im_B_whereIsInterfaceMethod : Cond.instanceMethod y_B_whereIsInterfaceMethod ∈ zG := zin 361 (by decide +kernel)
theorem im_M_hasAny : Cond.instanceMethod y_M_hasAny ∈ zG := zin 364 (by decide +kernel)
theorem se_M_hasAny : Cond.selects "CompatibilityJudge$Member" y_M_hasAny y_M_hasAny ∈ zG := zin 365 (by decide +kernel)
theorem im_M_access : Cond.instanceMethod y_M_access ∈ zG := zin 368 (by decide +kernel)
theorem se_M_access : Cond.selects "CompatibilityJudge$Member" y_M_access y_M_access ∈ zG := zin 369 (by decide +kernel)
theorem im_J_findings : Cond.instanceMethod y_J_findings ∈ zG := zin 372 (by decide +kernel)
theorem se_J_findings : Cond.selects "CompatibilityJudge" y_J_findings y_J_findings ∈ zG := zin 373 (by decide +kernel)
theorem im_C_bringUpToDate : Cond.instanceMethod y_C_bringUpToDate ∈ zG := zin 376 (by decide +kernel)
theorem se_C_bringUpToDate : Cond.selects "CompatibilityJudge$Comparison" y_C_bringUpToDate y_C_bringUpToDate ∈ zG := zin 377 (by decide +kernel)
theorem im_T_isPublic : Cond.instanceMethod y_T_isPublic ∈ zG := zin 380 (by decide +kernel)
theorem se_T_isPublic : Cond.selects "CompatibilityJudge$Type" y_T_isPublic y_T_isPublic ∈ zG := zin 381 (by decide +kernel)
theorem im_T_hasAny : Cond.instanceMethod y_T_hasAny ∈ zG := zin 384 (by decide +kernel)
theorem se_T_hasAny : Cond.selects "CompatibilityJudge$Type" y_T_hasAny y_T_hasAny ∈ zG := zin 385 (by decide +kernel)
theorem im_C_judgeType : Cond.instanceMethod y_C_judgeType ∈ zG := zin 389 (by decide +kernel)
theorem im_C_add : Cond.instanceMethod y_C_add ∈ zG := zin 393 (by decide +kernel)
theorem im_C_judgeHeader : Cond.instanceMethod y_C_judgeHeader ∈ zG := zin 397 (by decide +kernel)
theorem im_C_findPartners : Cond.instanceMethod y_C_findPartners ∈ zG := zin 403 (by decide +kernel)
theorem im_C_judgeOldMembers : Cond.instanceMethod y_C_judgeOldMembers ∈ zG := zin 409 (by decide +kernel)
theorem im_M_isOpen : Cond.instanceMethod y_M_isOpen ∈ zG := zin 412 (by decide +kernel)
theorem se_M_isOpen : Cond.selects "CompatibilityJudge$Member" y_M_isOpen y_M_isOpen ∈ zG := zin 413 (by decide +kernel)
theorem sm_C_breaksAsOld : Cond.static y_C_breaksAsOld ∈ zG := zin 417 (by decide +kernel)
theorem im_M_hasConstantOf : Cond.instanceMethod y_M_hasConstantOf ∈ zG := zin 422 (by decide +kernel)
theorem se_M_hasConstantOf : Cond.selects "CompatibilityJudge$Member" y_M_hasConstantOf y_M_hasConstantOf ∈ zG := zin 423 (by decide +kernel)
theorem im_C_judgeNewMembers : Cond.instanceMethod y_C_judgeNewMembers ∈ zG := zin 427 (by decide +kernel)
theorem sm_C_breaksAsNew : Cond.static y_C_breaksAsNew ∈ zG := zin 430 (by decide +kernel)
theorem im_J_finding : Cond.instanceMethod y_J_finding ∈ zG := zin 433 (by decide +kernel)
theorem se_J_finding : Cond.selects "CompatibilityJudge" y_J_finding y_J_finding ∈ zG := zin 434 (by decide +kernel)
theorem ls_SEVERITIES : Cond.laysStatic "CompatibilityJudge" "SEVERITIES" "[I" ∈ lw_tbl := List.mem_of_getElem? (i := 437) (by decide +kernel)
theorem im_J_verdict : Cond.instanceMethod y_J_verdict ∈ zG := zin 439 (by decide +kernel)
theorem se_J_verdict : Cond.selects "CompatibilityJudge" y_J_verdict y_J_verdict ∈ zG := zin 440 (by decide +kernel)
theorem sm_Mt_max : Cond.static Lib.Math.max.name ∈ zG := zin 443 (by decide +kernel)
theorem im_J_byRule : Cond.instanceMethod y_J_byRule ∈ zG := zin 446 (by decide +kernel)
theorem se_J_byRule : Cond.selects "CompatibilityJudge" y_J_byRule y_J_byRule ∈ zG := zin 447 (by decide +kernel)
theorem im_J_count : Cond.instanceMethod y_J_count ∈ zG := zin 450 (by decide +kernel)
theorem se_J_count : Cond.selects "CompatibilityJudge" y_J_count y_J_count ∈ zG := zin 451 (by decide +kernel)
theorem im_B_memberCount : Cond.instanceMethod y_B_memberCount ∈ zG := zin 454 (by decide +kernel)
theorem se_B_memberCount : Cond.selects "CompatibilityJudge$Baseline" y_B_memberCount y_B_memberCount ∈ zG := zin 455 (by decide +kernel)
theorem im_J_suppressionCount : Cond.instanceMethod y_J_suppressionCount ∈ zG := zin 459 (by decide +kernel)
theorem sm_I_bitCount : Cond.static y_I_bitCount ∈ zG := zin 462 (by decide +kernel)
theorem cn_I_265 : Cond.constant "java/lang/Integer" 265 1431655765 ∈ zG := zin 464 (by decide +kernel)
theorem cn_I_266 : Cond.constant "java/lang/Integer" 266 858993459 ∈ zG := zin 465 (by decide +kernel)
theorem cn_I_267 : Cond.constant "java/lang/Integer" 267 252645135 ∈ zG := zin 466 (by decide +kernel)
theorem in_R : Cond.instantiable "CompatibilityJudgeModel" 22 ∈ zG := zin 468 (by decide +kernel)
theorem im_R_init : Cond.instanceMethod y_R_init ∈ zG := zin 470 (by decide +kernel)
theorem ac_boolean : Cond.arrayClass .boolean ∈ zG := zin 540 (by decide +kernel)
theorem im_R_type : Cond.instanceMethod y_R_type ∈ zG := zin 542 (by decide +kernel)
theorem se_R_type : Cond.selects "CompatibilityJudgeModel" y_R_type y_R_type ∈ zG := zin 543 (by decide +kernel)
theorem sm_R_bad : Cond.static y_R_bad ∈ zG := zin 546 (by decide +kernel)
theorem sm_R_out : Cond.static y_R_out ∈ zG := zin 549 (by decide +kernel)
theorem im_R_implement : Cond.instanceMethod y_R_implement ∈ zG := zin 552 (by decide +kernel)
theorem se_R_implement : Cond.selects "CompatibilityJudgeModel" y_R_implement y_R_implement ∈ zG := zin 553 (by decide +kernel)
theorem im_R_member : Cond.instanceMethod y_R_member ∈ zG := zin 556 (by decide +kernel)
theorem se_R_member : Cond.selects "CompatibilityJudgeModel" y_R_member y_R_member ∈ zG := zin 557 (by decide +kernel)
theorem sm_R_badKey : Cond.static y_R_badKey ∈ zG := zin 560 (by decide +kernel)
theorem im_R_own : Cond.instanceMethod y_R_own ∈ zG := zin 564 (by decide +kernel)
theorem sm_R_badFlags : Cond.static y_R_badFlags ∈ zG := zin 567 (by decide +kernel)
theorem sm_R_has : Cond.static y_R_has ∈ zG := zin 570 (by decide +kernel)
theorem im_R_constant : Cond.instanceMethod y_R_constant ∈ zG := zin 573 (by decide +kernel)
theorem se_R_constant : Cond.selects "CompatibilityJudgeModel" y_R_constant y_R_constant ∈ zG := zin 574 (by decide +kernel)
theorem im_R_cell : Cond.instanceMethod y_R_cell ∈ zG := zin 578 (by decide +kernel)
theorem im_R_remove : Cond.instanceMethod y_R_remove ∈ zG := zin 581 (by decide +kernel)
theorem se_R_remove : Cond.selects "CompatibilityJudgeModel" y_R_remove y_R_remove ∈ zG := zin 582 (by decide +kernel)
theorem im_R_drop : Cond.instanceMethod y_R_drop ∈ zG := zin 585 (by decide +kernel)
theorem se_R_drop : Cond.selects "CompatibilityJudgeModel" y_R_drop y_R_drop ∈ zG := zin 586 (by decide +kernel)
theorem im_R_copyCell : Cond.instanceMethod y_R_copyCell ∈ zG := zin 590 (by decide +kernel)
theorem im_R_copy : Cond.instanceMethod y_R_copy ∈ zG := zin 593 (by decide +kernel)
theorem se_R_copy : Cond.selects "CompatibilityJudgeModel" y_R_copy y_R_copy ∈ zG := zin 594 (by decide +kernel)
theorem im_R_copyRow : Cond.instanceMethod y_R_copyRow ∈ zG := zin 598 (by decide +kernel)
theorem im_R_count : Cond.instanceMethod y_R_count ∈ zG := zin 601 (by decide +kernel)
theorem se_R_count : Cond.selects "CompatibilityJudgeModel" y_R_count y_R_count ∈ zG := zin 602 (by decide +kernel)
theorem im_R_swap : Cond.instanceMethod y_R_swap ∈ zG := zin 605 (by decide +kernel)
theorem se_R_swap : Cond.selects "CompatibilityJudgeModel" y_R_swap y_R_swap ∈ zG := zin 606 (by decide +kernel)
theorem im_R_copyHead : Cond.instanceMethod y_R_copyHead ∈ zG := zin 610 (by decide +kernel)
theorem im_R_swapCell : Cond.instanceMethod y_R_swapCell ∈ zG := zin 614 (by decide +kernel)
theorem im_R_suppress : Cond.instanceMethod y_R_suppress ∈ zG := zin 617 (by decide +kernel)
theorem se_R_suppress : Cond.selects "CompatibilityJudgeModel" y_R_suppress y_R_suppress ∈ zG := zin 618 (by decide +kernel)
theorem im_R_supertypes : Cond.instanceMethod y_R_supertypes ∈ zG := zin 621 (by decide +kernel)
theorem se_R_supertypes : Cond.selects "CompatibilityJudgeModel" y_R_supertypes y_R_supertypes ∈ zG := zin 622 (by decide +kernel)
theorem im_R_set : Cond.instanceMethod y_R_set ∈ zG := zin 626 (by decide +kernel)
theorem im_R_direct : Cond.instanceMethod y_R_direct ∈ zG := zin 630 (by decide +kernel)
theorem im_R_look : Cond.instanceMethod y_R_look ∈ zG := zin 633 (by decide +kernel)
theorem se_R_look : Cond.selects "CompatibilityJudgeModel" y_R_look y_R_look ∈ zG := zin 634 (by decide +kernel)
theorem im_R_find : Cond.instanceMethod y_R_find ∈ zG := zin 638 (by decide +kernel)
theorem im_R_field : Cond.instanceMethod y_R_field ∈ zG := zin 642 (by decide +kernel)
theorem im_R_is : Cond.instanceMethod y_R_is ∈ zG := zin 646 (by decide +kernel)
theorem im_R_method : Cond.instanceMethod y_R_method ∈ zG := zin 650 (by decide +kernel)
theorem im_R_above : Cond.instanceMethod y_R_above ∈ zG := zin 654 (by decide +kernel)
theorem im_R_findings : Cond.instanceMethod y_R_findings ∈ zG := zin 657 (by decide +kernel)
theorem se_R_findings : Cond.selects "CompatibilityJudgeModel" y_R_findings y_R_findings ∈ zG := zin 658 (by decide +kernel)
theorem im_R_all : Cond.instanceMethod y_R_all ∈ zG := zin 662 (by decide +kernel)
theorem im_R_judge : Cond.instanceMethod y_R_judge ∈ zG := zin 666 (by decide +kernel)
theorem im_R_tell : Cond.instanceMethod y_R_tell ∈ zG := zin 670 (by decide +kernel)
theorem sm_R_severity : Cond.static y_R_severity ∈ zG := zin 673 (by decide +kernel)
theorem im_R_members : Cond.instanceMethod y_R_members ∈ zG := zin 677 (by decide +kernel)
theorem im_R_breaks : Cond.instanceMethod y_R_breaks ∈ zG := zin 681 (by decide +kernel)
theorem im_R_added : Cond.instanceMethod y_R_added ∈ zG := zin 685 (by decide +kernel)
theorem im_R_finding : Cond.instanceMethod y_R_finding ∈ zG := zin 688 (by decide +kernel)
theorem se_R_finding : Cond.selects "CompatibilityJudgeModel" y_R_finding y_R_finding ∈ zG := zin 689 (by decide +kernel)
theorem im_R_verdict : Cond.instanceMethod y_R_verdict ∈ zG := zin 692 (by decide +kernel)
theorem se_R_verdict : Cond.selects "CompatibilityJudgeModel" y_R_verdict y_R_verdict ∈ zG := zin 693 (by decide +kernel)
theorem im_R_byRule : Cond.instanceMethod y_R_byRule ∈ zG := zin 696 (by decide +kernel)
theorem se_R_byRule : Cond.selects "CompatibilityJudgeModel" y_R_byRule y_R_byRule ∈ zG := zin 697 (by decide +kernel)
theorem se_B_isClass : Cond.selects "CompatibilityJudge$Baseline" y_B_isClass y_B_isClass ∈ zG := zin 0 (by decide +kernel)
theorem se_B_gatherSupertypes : Cond.selects "CompatibilityJudge$Baseline" y_B_gatherSupertypes y_B_gatherSupertypes ∈ zG := zin 1 (by decide +kernel)
theorem se_B_isInterface : Cond.selects "CompatibilityJudge$Baseline" y_B_isInterface y_B_isInterface ∈ zG := zin 2 (by decide +kernel)
theorem se_J_isMemberOf : Cond.selects "CompatibilityJudge" y_J_isMemberOf y_J_isMemberOf ∈ zG := zin 3 (by decide +kernel)
theorem se_J_isSuppressed : Cond.selects "CompatibilityJudge" y_J_isSuppressed y_J_isSuppressed ∈ zG := zin 4 (by decide +kernel)
theorem se_B_whereIsField : Cond.selects "CompatibilityJudge$Baseline" y_B_whereIsField y_B_whereIsField ∈ zG := zin 5 (by decide +kernel)
theorem se_B_fieldOwnerFor : Cond.selects "CompatibilityJudge$Baseline" y_B_fieldOwnerFor y_B_fieldOwnerFor ∈ zG := zin 6 (by decide +kernel)
theorem se_B_whereIsMethod : Cond.selects "CompatibilityJudge$Baseline" y_B_whereIsMethod y_B_whereIsMethod ∈ zG := zin 7 (by decide +kernel)
theorem se_B_whereIsInterfaceMethod : Cond.selects "CompatibilityJudge$Baseline" y_B_whereIsInterfaceMethod y_B_whereIsInterfaceMethod ∈ zG := zin 8 (by decide +kernel)
theorem se_C_judgeType : Cond.selects "CompatibilityJudge$Comparison" y_C_judgeType y_C_judgeType ∈ zG := zin 9 (by decide +kernel)
theorem se_C_add : Cond.selects "CompatibilityJudge$Comparison" y_C_add y_C_add ∈ zG := zin 10 (by decide +kernel)
theorem se_C_judgeHeader : Cond.selects "CompatibilityJudge$Comparison" y_C_judgeHeader y_C_judgeHeader ∈ zG := zin 11 (by decide +kernel)
theorem se_C_findPartners : Cond.selects "CompatibilityJudge$Comparison" y_C_findPartners y_C_findPartners ∈ zG := zin 12 (by decide +kernel)
theorem se_C_judgeOldMembers : Cond.selects "CompatibilityJudge$Comparison" y_C_judgeOldMembers y_C_judgeOldMembers ∈ zG := zin 13 (by decide +kernel)
theorem se_C_judgeNewMembers : Cond.selects "CompatibilityJudge$Comparison" y_C_judgeNewMembers y_C_judgeNewMembers ∈ zG := zin 14 (by decide +kernel)
theorem se_J_suppressionCount : Cond.selects "CompatibilityJudge" y_J_suppressionCount y_J_suppressionCount ∈ zG := zin 15 (by decide +kernel)
theorem se_R_own : Cond.selects "CompatibilityJudgeModel" y_R_own y_R_own ∈ zG := zin 16 (by decide +kernel)
theorem se_R_cell : Cond.selects "CompatibilityJudgeModel" y_R_cell y_R_cell ∈ zG := zin 17 (by decide +kernel)
theorem se_R_copyCell : Cond.selects "CompatibilityJudgeModel" y_R_copyCell y_R_copyCell ∈ zG := zin 18 (by decide +kernel)
theorem se_R_copyRow : Cond.selects "CompatibilityJudgeModel" y_R_copyRow y_R_copyRow ∈ zG := zin 19 (by decide +kernel)
theorem se_R_copyHead : Cond.selects "CompatibilityJudgeModel" y_R_copyHead y_R_copyHead ∈ zG := zin 20 (by decide +kernel)
theorem se_R_swapCell : Cond.selects "CompatibilityJudgeModel" y_R_swapCell y_R_swapCell ∈ zG := zin 21 (by decide +kernel)
theorem se_R_set : Cond.selects "CompatibilityJudgeModel" y_R_set y_R_set ∈ zG := zin 22 (by decide +kernel)
theorem se_R_direct : Cond.selects "CompatibilityJudgeModel" y_R_direct y_R_direct ∈ zG := zin 23 (by decide +kernel)
theorem se_R_find : Cond.selects "CompatibilityJudgeModel" y_R_find y_R_find ∈ zG := zin 24 (by decide +kernel)
theorem se_R_field : Cond.selects "CompatibilityJudgeModel" y_R_field y_R_field ∈ zG := zin 25 (by decide +kernel)
theorem se_R_is : Cond.selects "CompatibilityJudgeModel" y_R_is y_R_is ∈ zG := zin 26 (by decide +kernel)
theorem se_R_method : Cond.selects "CompatibilityJudgeModel" y_R_method y_R_method ∈ zG := zin 27 (by decide +kernel)
theorem se_R_above : Cond.selects "CompatibilityJudgeModel" y_R_above y_R_above ∈ zG := zin 28 (by decide +kernel)
theorem se_R_all : Cond.selects "CompatibilityJudgeModel" y_R_all y_R_all ∈ zG := zin 29 (by decide +kernel)
theorem se_R_judge : Cond.selects "CompatibilityJudgeModel" y_R_judge y_R_judge ∈ zG := zin 30 (by decide +kernel)
theorem se_R_tell : Cond.selects "CompatibilityJudgeModel" y_R_tell y_R_tell ∈ zG := zin 31 (by decide +kernel)
theorem se_R_members : Cond.selects "CompatibilityJudgeModel" y_R_members y_R_members ∈ zG := zin 32 (by decide +kernel)
theorem se_R_breaks : Cond.selects "CompatibilityJudgeModel" y_R_breaks y_R_breaks ∈ zG := zin 33 (by decide +kernel)
theorem se_R_added : Cond.selects "CompatibilityJudgeModel" y_R_added y_R_added ∈ zG := zin 34 (by decide +kernel)
theorem lk_L_7 : Cond.classLink "CompatibilityJudgeLaw" 7 "CompatibilityJudge" ∈ zG := zin 45 (by decide +kernel)
theorem lk_L_9 : Cond.methodLink "CompatibilityJudgeLaw" 9 y_J_init ∈ zG := zin 47 (by decide +kernel)
theorem lk_J_3 : Cond.methodLink "CompatibilityJudge" 3 objectInit ∈ zG := zin 50 (by decide +kernel)
theorem lk_J_9 : Cond.classLink "CompatibilityJudge" 9 "CompatibilityJudge$Baseline" ∈ zG := zin 53 (by decide +kernel)
theorem lk_J_11 : Cond.methodLink "CompatibilityJudge" 11 y_B_init ∈ zG := zin 56 (by decide +kernel)
theorem lk_B_3 : Cond.methodLink "CompatibilityJudge$Baseline" 3 objectInit ∈ zG := zin 59 (by decide +kernel)
theorem lk_B_9 : Cond.classLink "CompatibilityJudge$Baseline" 9 "CompatibilityJudge$Type" ∈ zG := zin 60 (by decide +kernel)
theorem lk_B_17 : Cond.methodLink "CompatibilityJudge$Baseline" 17 y_T_init ∈ zG := zin 63 (by decide +kernel)
theorem lk_T_3 : Cond.methodLink "CompatibilityJudge$Type" 3 objectInit ∈ zG := zin 66 (by decide +kernel)
theorem lk_T_15 : Cond.classLink "CompatibilityJudge$Type" 15 "CompatibilityJudge$Member" ∈ zG := zin 67 (by decide +kernel)
theorem lk_T_21 : Cond.methodLinkNest "CompatibilityJudge$Type" 21 y_M_init "CompatibilityJudge" ∈ lw_tbl := List.mem_of_getElem? (i := 70) (by decide +kernel)
theorem lk_M_3 : Cond.methodLink "CompatibilityJudge$Member" 3 objectInit ∈ zG := zin 73 (by decide +kernel)
theorem lk_M_9 : Cond.fieldLink "CompatibilityJudge$Member" 9 "CompatibilityJudge$Member" "kind" "I" ∈ zG := zin 74 (by decide +kernel)
theorem lk_J_99 : Cond.fieldLink "CompatibilityJudge" 99 "CompatibilityJudge$Member" "kind" "I" ∈ zG := zin 75 (by decide +kernel)
theorem lk_C_96 : Cond.fieldLink "CompatibilityJudge$Comparison" 96 "CompatibilityJudge$Member" "kind" "I" ∈ zG := zin 76 (by decide +kernel)
theorem lk_T_66 : Cond.fieldLink "CompatibilityJudge$Type" 66 "CompatibilityJudge$Member" "kind" "I" ∈ zG := zin 77 (by decide +kernel)
theorem lk_M_15 : Cond.fieldLink "CompatibilityJudge$Member" 15 "CompatibilityJudge$Member" "key" "I" ∈ zG := zin 78 (by decide +kernel)
theorem lk_C_97 : Cond.fieldLink "CompatibilityJudge$Comparison" 97 "CompatibilityJudge$Member" "key" "I" ∈ zG := zin 79 (by decide +kernel)
theorem lk_T_67 : Cond.fieldLink "CompatibilityJudge$Type" 67 "CompatibilityJudge$Member" "key" "I" ∈ zG := zin 80 (by decide +kernel)
theorem lk_M_18 : Cond.fieldLink "CompatibilityJudge$Member" 18 "CompatibilityJudge$Member" "flags" "I" ∈ zG := zin 81 (by decide +kernel)
theorem lk_M_21 : Cond.fieldLink "CompatibilityJudge$Member" 21 "CompatibilityJudge$Member" "hasConstant" "Z" ∈ zG := zin 82 (by decide +kernel)
theorem lk_J_102 : Cond.fieldLink "CompatibilityJudge" 102 "CompatibilityJudge$Member" "hasConstant" "Z" ∈ zG := zin 83 (by decide +kernel)
theorem lk_C_117 : Cond.fieldLink "CompatibilityJudge$Comparison" 117 "CompatibilityJudge$Member" "hasConstant" "Z" ∈ zG := zin 84 (by decide +kernel)
theorem lk_M_25 : Cond.fieldLink "CompatibilityJudge$Member" 25 "CompatibilityJudge$Member" "constant" "I" ∈ zG := zin 85 (by decide +kernel)
theorem lk_J_105 : Cond.fieldLink "CompatibilityJudge" 105 "CompatibilityJudge$Member" "constant" "I" ∈ zG := zin 86 (by decide +kernel)
theorem lk_T_29 : Cond.fieldLink "CompatibilityJudge$Type" 29 "CompatibilityJudge$Type" "defined" "Z" ∈ zG := zin 99 (by decide +kernel)
theorem lk_J_38 : Cond.fieldLink "CompatibilityJudge" 38 "CompatibilityJudge$Type" "defined" "Z" ∈ zG := zin 100 (by decide +kernel)
theorem lk_B_26 : Cond.fieldLink "CompatibilityJudge$Baseline" 26 "CompatibilityJudge$Type" "defined" "Z" ∈ zG := zin 101 (by decide +kernel)
theorem lk_T_33 : Cond.fieldLink "CompatibilityJudge$Type" 33 "CompatibilityJudge$Type" "kind" "I" ∈ zG := zin 102 (by decide +kernel)
theorem lk_C_54 : Cond.fieldLink "CompatibilityJudge$Comparison" 54 "CompatibilityJudge$Type" "kind" "I" ∈ zG := zin 103 (by decide +kernel)
theorem lk_J_83 : Cond.fieldLink "CompatibilityJudge" 83 "CompatibilityJudge$Type" "kind" "I" ∈ zG := zin 104 (by decide +kernel)
theorem lk_B_64 : Cond.fieldLink "CompatibilityJudge$Baseline" 64 "CompatibilityJudge$Type" "kind" "I" ∈ zG := zin 105 (by decide +kernel)
theorem lk_T_36 : Cond.fieldLink "CompatibilityJudge$Type" 36 "CompatibilityJudge$Type" "flags" "I" ∈ zG := zin 106 (by decide +kernel)
theorem lk_T_22 : Cond.fieldLink "CompatibilityJudge$Type" 22 "CompatibilityJudge$Type" "parent" "I" ∈ zG := zin 107 (by decide +kernel)
theorem lk_B_34 : Cond.fieldLink "CompatibilityJudge$Baseline" 34 "CompatibilityJudge$Type" "parent" "I" ∈ zG := zin 108 (by decide +kernel)
theorem lk_T_9 : Cond.fieldLink "CompatibilityJudge$Type" 9 "CompatibilityJudge$Type" "interfaces" "[I" ∈ zG := zin 109 (by decide +kernel)
theorem lk_B_54 : Cond.fieldLink "CompatibilityJudge$Baseline" 54 "CompatibilityJudge$Type" "interfaces" "[I" ∈ zG := zin 110 (by decide +kernel)
theorem lk_T_39 : Cond.fieldLink "CompatibilityJudge$Type" 39 "CompatibilityJudge$Type" "interfaceCount" "I" ∈ zG := zin 111 (by decide +kernel)
theorem lk_J_58 : Cond.fieldLink "CompatibilityJudge" 58 "CompatibilityJudge$Type" "interfaceCount" "I" ∈ zG := zin 112 (by decide +kernel)
theorem lk_B_51 : Cond.fieldLink "CompatibilityJudge$Baseline" 51 "CompatibilityJudge$Type" "interfaceCount" "I" ∈ zG := zin 113 (by decide +kernel)
theorem lk_T_17 : Cond.fieldLink "CompatibilityJudge$Type" 17 "CompatibilityJudge$Type" "members" "[LCompatibilityJudge$Member;" ∈ zG := zin 114 (by decide +kernel)
theorem lk_J_95 : Cond.fieldLink "CompatibilityJudge" 95 "CompatibilityJudge$Type" "members" "[LCompatibilityJudge$Member;" ∈ zG := zin 115 (by decide +kernel)
theorem lk_C_86 : Cond.fieldLink "CompatibilityJudge$Comparison" 86 "CompatibilityJudge$Type" "members" "[LCompatibilityJudge$Member;" ∈ zG := zin 116 (by decide +kernel)
theorem lk_T_42 : Cond.fieldLink "CompatibilityJudge$Type" 42 "CompatibilityJudge$Type" "memberCount" "I" ∈ zG := zin 117 (by decide +kernel)
theorem lk_B_30 : Cond.fieldLink "CompatibilityJudge$Baseline" 30 "CompatibilityJudge$Type" "memberCount" "I" ∈ zG := zin 118 (by decide +kernel)
theorem lk_J_73 : Cond.fieldLink "CompatibilityJudge" 73 "CompatibilityJudge$Type" "memberCount" "I" ∈ zG := zin 119 (by decide +kernel)
theorem lk_C_83 : Cond.fieldLink "CompatibilityJudge$Comparison" 83 "CompatibilityJudge$Type" "memberCount" "I" ∈ zG := zin 120 (by decide +kernel)
theorem lk_T_26 : Cond.fieldLink "CompatibilityJudge$Type" 26 "CompatibilityJudge$Type" "superclass" "I" ∈ zG := zin 121 (by decide +kernel)
theorem lk_B_41 : Cond.fieldLink "CompatibilityJudge$Baseline" 41 "CompatibilityJudge$Type" "superclass" "I" ∈ zG := zin 122 (by decide +kernel)
theorem lk_T_55 : Cond.fieldLink "CompatibilityJudge$Type" 55 "CompatibilityJudge$Type" "supertypes" "I" ∈ zG := zin 123 (by decide +kernel)
theorem lk_C_76 : Cond.fieldLink "CompatibilityJudge$Comparison" 76 "CompatibilityJudge$Type" "supertypes" "I" ∈ zG := zin 124 (by decide +kernel)
theorem lk_B_48 : Cond.fieldLink "CompatibilityJudge$Baseline" 48 "CompatibilityJudge$Type" "supertypes" "I" ∈ zG := zin 125 (by decide +kernel)
theorem lk_J_125 : Cond.fieldLink "CompatibilityJudge" 125 "CompatibilityJudge$Type" "supertypes" "I" ∈ zG := zin 126 (by decide +kernel)
theorem lk_B_11 : Cond.fieldLink "CompatibilityJudge$Baseline" 11 "CompatibilityJudge$Baseline" "types" "[LCompatibilityJudge$Type;" ∈ zG := zin 148 (by decide +kernel)
theorem lk_C_35 : Cond.fieldLink "CompatibilityJudge$Comparison" 35 "CompatibilityJudge$Baseline" "types" "[LCompatibilityJudge$Type;" ∈ zG := zin 149 (by decide +kernel)
theorem lk_J_34 : Cond.fieldLink "CompatibilityJudge" 34 "CompatibilityJudge$Baseline" "types" "[LCompatibilityJudge$Type;" ∈ zG := zin 150 (by decide +kernel)
theorem lk_B_18 : Cond.fieldLink "CompatibilityJudge$Baseline" 18 "CompatibilityJudge$Baseline" "fieldOwners" "[I" ∈ zG := zin 151 (by decide +kernel)
theorem lk_J_16 : Cond.classLink "CompatibilityJudge" 16 "CompatibilityJudge$Comparison" ∈ zG := zin 157 (by decide +kernel)
theorem lk_J_18 : Cond.methodLink "CompatibilityJudge" 18 y_C_init ∈ zG := zin 159 (by decide +kernel)
theorem lk_C_3 : Cond.methodLink "CompatibilityJudge$Comparison" 3 objectInit ∈ zG := zin 162 (by decide +kernel)
theorem lk_C_21 : Cond.classLink "CompatibilityJudge$Comparison" 21 "CompatibilityJudge$Member" ∈ zG := zin 163 (by decide +kernel)
theorem lk_C_9 : Cond.fieldLink "CompatibilityJudge$Comparison" 9 "CompatibilityJudge$Comparison" "rules" "[I" ∈ zG := zin 164 (by decide +kernel)
theorem lk_J_139 : Cond.fieldLink "CompatibilityJudge" 139 "CompatibilityJudge$Comparison" "rules" "[I" ∈ zG := zin 165 (by decide +kernel)
theorem lk_C_15 : Cond.fieldLink "CompatibilityJudge$Comparison" 15 "CompatibilityJudge$Comparison" "types" "[I" ∈ zG := zin 166 (by decide +kernel)
theorem lk_J_142 : Cond.fieldLink "CompatibilityJudge" 142 "CompatibilityJudge$Comparison" "types" "[I" ∈ zG := zin 167 (by decide +kernel)
theorem lk_C_18 : Cond.fieldLink "CompatibilityJudge$Comparison" 18 "CompatibilityJudge$Comparison" "details" "[I" ∈ zG := zin 168 (by decide +kernel)
theorem lk_J_144 : Cond.fieldLink "CompatibilityJudge" 144 "CompatibilityJudge$Comparison" "details" "[I" ∈ zG := zin 169 (by decide +kernel)
theorem lk_C_31 : Cond.fieldLink "CompatibilityJudge$Comparison" 31 "CompatibilityJudge$Comparison" "size" "I" ∈ zG := zin 170 (by decide +kernel)
theorem lk_J_136 : Cond.fieldLink "CompatibilityJudge" 136 "CompatibilityJudge$Comparison" "size" "I" ∈ zG := zin 171 (by decide +kernel)
theorem lk_C_27 : Cond.fieldLink "CompatibilityJudge$Comparison" 27 "CompatibilityJudge$Comparison" "stale" "Z" ∈ zG := zin 172 (by decide +kernel)
theorem lk_J_55 : Cond.fieldLink "CompatibilityJudge" 55 "CompatibilityJudge$Comparison" "stale" "Z" ∈ zG := zin 173 (by decide +kernel)
theorem lk_C_23 : Cond.fieldLink "CompatibilityJudge$Comparison" 23 "CompatibilityJudge$Comparison" "partners" "[LCompatibilityJudge$Member;" ∈ zG := zin 174 (by decide +kernel)
theorem lk_J_12 : Cond.fieldLink "CompatibilityJudge" 12 "CompatibilityJudge" "baselines" "[LCompatibilityJudge$Baseline;" ∈ zG := zin 188 (by decide +kernel)
theorem lk_J_19 : Cond.fieldLink "CompatibilityJudge" 19 "CompatibilityJudge" "comparison" "LCompatibilityJudge$Comparison;" ∈ zG := zin 189 (by decide +kernel)
theorem lk_J_23 : Cond.fieldLink "CompatibilityJudge" 23 "CompatibilityJudge" "suppressed" "[I" ∈ zG := zin 190 (by decide +kernel)
theorem lk_L_13 : Cond.methodLink "CompatibilityJudgeLaw" 13 y_J_type ∈ zG := zin 198 (by decide +kernel)
theorem lk_J_27 : Cond.methodLink "CompatibilityJudge" 27 y_J_isTypeOf ∈ zG := zin 202 (by decide +kernel)
theorem lk_J_31 : Cond.methodLink "CompatibilityJudge" 31 y_J_isWithin ∈ zG := zin 205 (by decide +kernel)
theorem lk_J_44 : Cond.methodLink "CompatibilityJudge" 44 y_J_isTypeAllowed ∈ zG := zin 208 (by decide +kernel)
theorem lk_J_48 : Cond.methodLink "CompatibilityJudge" 48 y_T_define ∈ zG := zin 211 (by decide +kernel)
theorem lk_J_52 : Cond.methodLink "CompatibilityJudge" 52 y_B_settle ∈ zG := zin 215 (by decide +kernel)
theorem lk_B_37 : Cond.methodLink "CompatibilityJudge$Baseline" 37 y_B_isClass ∈ zG := zin 219 (by decide +kernel)
theorem lk_B_60 : Cond.methodLinkNest "CompatibilityJudge$Baseline" 60 y_J_isWithin "CompatibilityJudge" ∈ lw_tbl := List.mem_of_getElem? (i := 223) (by decide +kernel)
theorem lk_B_44 : Cond.methodLink "CompatibilityJudge$Baseline" 44 y_B_gatherSupertypes ∈ zG := zin 224 (by decide +kernel)
theorem lk_B_57 : Cond.methodLink "CompatibilityJudge$Baseline" 57 y_B_isInterface ∈ zG := zin 228 (by decide +kernel)
theorem lk_L_18 : Cond.methodLink "CompatibilityJudgeLaw" 18 y_J_implement ∈ zG := zin 232 (by decide +kernel)
theorem lk_J_62 : Cond.methodLink "CompatibilityJudge" 62 y_T_names ∈ zG := zin 236 (by decide +kernel)
theorem lk_J_66 : Cond.methodLink "CompatibilityJudge" 66 y_T_addInterface ∈ zG := zin 240 (by decide +kernel)
theorem lk_L_23 : Cond.methodLink "CompatibilityJudgeLaw" 23 y_J_member ∈ zG := zin 244 (by decide +kernel)
theorem lk_J_70 : Cond.methodLink "CompatibilityJudge" 70 y_J_isKey ∈ zG := zin 248 (by decide +kernel)
theorem lk_J_170 : Cond.fieldLink "CompatibilityJudge" 170 "CompatibilityJudge" "KEY_LIMITS" "[I" ∈ zG := zin 251 (by decide +kernel)
theorem lk_J_76 : Cond.methodLink "CompatibilityJudge" 76 y_T_own ∈ zG := zin 253 (by decide +kernel)
theorem lk_J_80 : Cond.methodLink "CompatibilityJudge" 80 y_J_isMemberAllowed ∈ zG := zin 257 (by decide +kernel)
theorem lk_J_86 : Cond.methodLink "CompatibilityJudge" 86 y_J_isAllowedInInterface ∈ zG := zin 260 (by decide +kernel)
theorem lk_J_89 : Cond.methodLink "CompatibilityJudge" 89 y_T_addMember ∈ zG := zin 263 (by decide +kernel)
theorem lk_T_62 : Cond.methodLink "CompatibilityJudge$Type" 62 y_M_define ∈ zG := zin 267 (by decide +kernel)
theorem lk_L_27 : Cond.methodLink "CompatibilityJudgeLaw" 27 y_J_constant ∈ zG := zin 271 (by decide +kernel)
theorem lk_J_92 : Cond.methodLink "CompatibilityJudge" 92 y_J_isMemberOf ∈ zG := zin 275 (by decide +kernel)
theorem lk_L_32 : Cond.methodLink "CompatibilityJudgeLaw" 32 y_J_remove ∈ zG := zin 279 (by decide +kernel)
theorem lk_J_108 : Cond.methodLink "CompatibilityJudge" 108 y_T_clear ∈ zG := zin 283 (by decide +kernel)
theorem lk_L_37 : Cond.methodLink "CompatibilityJudgeLaw" 37 y_J_drop ∈ zG := zin 287 (by decide +kernel)
theorem lk_J_111 : Cond.methodLink "CompatibilityJudge" 111 y_T_takeOut ∈ zG := zin 291 (by decide +kernel)
theorem lk_T_51 : Cond.methodLink "CompatibilityJudge$Type" 51 y_M_become ∈ zG := zin 295 (by decide +kernel)
theorem lk_L_41 : Cond.methodLink "CompatibilityJudgeLaw" 41 y_J_copy ∈ zG := zin 299 (by decide +kernel)
theorem lk_J_114 : Cond.methodLink "CompatibilityJudge" 114 y_B_become ∈ zG := zin 303 (by decide +kernel)
theorem lk_B_22 : Cond.methodLink "CompatibilityJudge$Baseline" 22 y_T_become ∈ zG := zin 307 (by decide +kernel)
theorem lk_T_45 : Cond.methodLink "CompatibilityJudge$Type" 45 arraycopyName ∈ zG := zin 311 (by decide +kernel)
theorem lk_J_118 : Cond.methodLink "CompatibilityJudge" 118 y_B_typeCount ∈ zG := zin 314 (by decide +kernel)
theorem lk_L_46 : Cond.methodLink "CompatibilityJudgeLaw" 46 y_J_swap ∈ zG := zin 318 (by decide +kernel)
theorem lk_L_50 : Cond.methodLink "CompatibilityJudgeLaw" 50 y_J_suppress ∈ zG := zin 322 (by decide +kernel)
theorem lk_J_122 : Cond.methodLink "CompatibilityJudge" 122 y_J_isSuppressed ∈ zG := zin 326 (by decide +kernel)
theorem lk_J_161 : Cond.methodLink "CompatibilityJudge" 161 y_J_contains ∈ zG := zin 330 (by decide +kernel)
theorem lk_L_55 : Cond.methodLink "CompatibilityJudgeLaw" 55 y_J_supertypes ∈ zG := zin 333 (by decide +kernel)
theorem lk_L_59 : Cond.methodLink "CompatibilityJudgeLaw" 59 y_J_look ∈ zG := zin 337 (by decide +kernel)
theorem lk_J_128 : Cond.methodLink "CompatibilityJudge" 128 y_B_whereIs ∈ zG := zin 341 (by decide +kernel)
theorem lk_B_67 : Cond.methodLink "CompatibilityJudge$Baseline" 67 y_B_whereIsField ∈ zG := zin 345 (by decide +kernel)
theorem lk_B_78 : Cond.methodLinkNest "CompatibilityJudge$Baseline" 78 y_J_contains "CompatibilityJudge" ∈ lw_tbl := List.mem_of_getElem? (i := 349) (by decide +kernel)
theorem lk_B_81 : Cond.methodLink "CompatibilityJudge$Baseline" 81 y_B_fieldOwnerFor ∈ zG := zin 350 (by decide +kernel)
theorem lk_B_74 : Cond.methodLink "CompatibilityJudge$Baseline" 74 y_T_own ∈ zG := zin 354 (by decide +kernel)
theorem lk_B_71 : Cond.methodLink "CompatibilityJudge$Baseline" 71 y_B_whereIsMethod ∈ zG := zin 355 (by decide +kernel)
theorem lk_B_84 : Cond.methodLink "CompatibilityJudge$Baseline" 84 y_B_whereIsInterfaceMethod ∈ zG := zin 359 (by decide +kernel)
theorem lk_B_87 : Cond.methodLink "CompatibilityJudge$Baseline" 87 y_M_hasAny ∈ zG := zin 363 (by decide +kernel)
theorem lk_B_92 : Cond.methodLink "CompatibilityJudge$Baseline" 92 y_M_access ∈ zG := zin 367 (by decide +kernel)
theorem lk_L_63 : Cond.methodLink "CompatibilityJudgeLaw" 63 y_J_findings ∈ zG := zin 371 (by decide +kernel)
theorem lk_J_132 : Cond.methodLink "CompatibilityJudge" 132 y_C_bringUpToDate ∈ zG := zin 375 (by decide +kernel)
theorem lk_C_40 : Cond.methodLink "CompatibilityJudge$Comparison" 40 y_T_isPublic ∈ zG := zin 379 (by decide +kernel)
theorem lk_T_58 : Cond.methodLink "CompatibilityJudge$Type" 58 y_T_hasAny ∈ zG := zin 383 (by decide +kernel)
theorem lk_C_46 : Cond.methodLink "CompatibilityJudge$Comparison" 46 y_C_judgeType ∈ zG := zin 387 (by decide +kernel)
theorem lk_C_50 : Cond.methodLink "CompatibilityJudge$Comparison" 50 y_C_add ∈ zG := zin 391 (by decide +kernel)
theorem lk_C_57 : Cond.methodLink "CompatibilityJudge$Comparison" 57 y_C_judgeHeader ∈ zG := zin 395 (by decide +kernel)
theorem lk_C_72 : Cond.methodLink "CompatibilityJudge$Comparison" 72 y_T_hasAny ∈ zG := zin 399 (by decide +kernel)
theorem lk_C_79 : Cond.methodLinkNest "CompatibilityJudge$Comparison" 79 y_J_contains "CompatibilityJudge" ∈ lw_tbl := List.mem_of_getElem? (i := 400) (by decide +kernel)
theorem lk_C_61 : Cond.methodLink "CompatibilityJudge$Comparison" 61 y_C_findPartners ∈ zG := zin 401 (by decide +kernel)
theorem lk_C_108 : Cond.methodLink "CompatibilityJudge$Comparison" 108 y_B_whereIs ∈ zG := zin 405 (by decide +kernel)
theorem lk_C_100 : Cond.methodLink "CompatibilityJudge$Comparison" 100 y_T_own ∈ zG := zin 406 (by decide +kernel)
theorem lk_C_65 : Cond.methodLink "CompatibilityJudge$Comparison" 65 y_C_judgeOldMembers ∈ zG := zin 407 (by decide +kernel)
theorem lk_C_89 : Cond.methodLink "CompatibilityJudge$Comparison" 89 y_M_isOpen ∈ zG := zin 411 (by decide +kernel)
theorem lk_M_28 : Cond.methodLink "CompatibilityJudge$Member" 28 y_M_access ∈ zG := zin 415 (by decide +kernel)
theorem lk_C_92 : Cond.methodLink "CompatibilityJudge$Comparison" 92 y_C_breaksAsOld ∈ zG := zin 416 (by decide +kernel)
theorem lk_C_112 : Cond.methodLink "CompatibilityJudge$Comparison" 112 y_M_access ∈ zG := zin 419 (by decide +kernel)
theorem lk_C_116 : Cond.methodLink "CompatibilityJudge$Comparison" 116 y_M_hasAny ∈ zG := zin 420 (by decide +kernel)
theorem lk_C_120 : Cond.methodLink "CompatibilityJudge$Comparison" 120 y_M_hasConstantOf ∈ zG := zin 421 (by decide +kernel)
theorem lk_C_69 : Cond.methodLink "CompatibilityJudge$Comparison" 69 y_C_judgeNewMembers ∈ zG := zin 425 (by decide +kernel)
theorem lk_C_104 : Cond.methodLink "CompatibilityJudge$Comparison" 104 y_C_breaksAsNew ∈ zG := zin 429 (by decide +kernel)
theorem lk_L_67 : Cond.methodLink "CompatibilityJudgeLaw" 67 y_J_finding ∈ zG := zin 432 (by decide +kernel)
theorem lk_J_147 : Cond.fieldLink "CompatibilityJudge" 147 "CompatibilityJudge" "SEVERITIES" "[I" ∈ zG := zin 436 (by decide +kernel)
theorem lk_L_71 : Cond.methodLink "CompatibilityJudgeLaw" 71 y_J_verdict ∈ zG := zin 438 (by decide +kernel)
theorem lk_J_150 : Cond.methodLink "CompatibilityJudge" 150 Lib.Math.max.name ∈ zG := zin 442 (by decide +kernel)
theorem lk_L_75 : Cond.methodLink "CompatibilityJudgeLaw" 75 y_J_byRule ∈ zG := zin 445 (by decide +kernel)
theorem lk_L_80 : Cond.methodLink "CompatibilityJudgeLaw" 80 y_J_count ∈ zG := zin 449 (by decide +kernel)
theorem lk_J_156 : Cond.methodLink "CompatibilityJudge" 156 y_B_memberCount ∈ zG := zin 453 (by decide +kernel)
theorem lk_J_158 : Cond.methodLink "CompatibilityJudge" 158 y_J_suppressionCount ∈ zG := zin 457 (by decide +kernel)
theorem lk_J_164 : Cond.methodLink "CompatibilityJudge" 164 y_I_bitCount ∈ zG := zin 461 (by decide +kernel)
theorem lk_L_10 : Cond.classLink "CompatibilityJudgeLaw" 10 "CompatibilityJudgeModel" ∈ zG := zin 467 (by decide +kernel)
theorem lk_L_12 : Cond.methodLink "CompatibilityJudgeLaw" 12 y_R_init ∈ zG := zin 469 (by decide +kernel)
theorem lk_R_1 : Cond.methodLink "CompatibilityJudgeModel" 1 objectInit ∈ zG := zin 472 (by decide +kernel)
theorem lk_R_7 : Cond.fieldLink "CompatibilityJudgeModel" 7 "CompatibilityJudgeModel" "defined" "[Z" ∈ zG := zin 473 (by decide +kernel)
theorem lk_R_13 : Cond.fieldLink "CompatibilityJudgeModel" 13 "CompatibilityJudgeModel" "kind" "[I" ∈ zG := zin 474 (by decide +kernel)
theorem lk_R_17 : Cond.fieldLink "CompatibilityJudgeModel" 17 "CompatibilityJudgeModel" "flags" "[I" ∈ zG := zin 475 (by decide +kernel)
theorem lk_R_20 : Cond.fieldLink "CompatibilityJudgeModel" 20 "CompatibilityJudgeModel" "parent" "[I" ∈ zG := zin 476 (by decide +kernel)
theorem lk_R_23 : Cond.fieldLink "CompatibilityJudgeModel" 23 "CompatibilityJudgeModel" "faces" "[I" ∈ zG := zin 477 (by decide +kernel)
theorem lk_R_26 : Cond.fieldLink "CompatibilityJudgeModel" 26 "CompatibilityJudgeModel" "face" "[I" ∈ zG := zin 478 (by decide +kernel)
theorem lk_R_29 : Cond.fieldLink "CompatibilityJudgeModel" 29 "CompatibilityJudgeModel" "members" "[I" ∈ zG := zin 479 (by decide +kernel)
theorem lk_R_32 : Cond.fieldLink "CompatibilityJudgeModel" 32 "CompatibilityJudgeModel" "mKind" "[I" ∈ zG := zin 480 (by decide +kernel)
theorem lk_R_35 : Cond.fieldLink "CompatibilityJudgeModel" 35 "CompatibilityJudgeModel" "mKey" "[I" ∈ zG := zin 481 (by decide +kernel)
theorem lk_R_38 : Cond.fieldLink "CompatibilityJudgeModel" 38 "CompatibilityJudgeModel" "mFlags" "[I" ∈ zG := zin 482 (by decide +kernel)
theorem lk_R_41 : Cond.fieldLink "CompatibilityJudgeModel" 41 "CompatibilityJudgeModel" "mFixed" "[Z" ∈ zG := zin 483 (by decide +kernel)
theorem lk_R_44 : Cond.fieldLink "CompatibilityJudgeModel" 44 "CompatibilityJudgeModel" "mValue" "[I" ∈ zG := zin 484 (by decide +kernel)
theorem lk_R_47 : Cond.fieldLink "CompatibilityJudgeModel" 47 "CompatibilityJudgeModel" "hushed" "[Z" ∈ zG := zin 485 (by decide +kernel)
theorem lk_R_50 : Cond.fieldLink "CompatibilityJudgeModel" 50 "CompatibilityJudgeModel" "seen" "[Z" ∈ zG := zin 486 (by decide +kernel)
theorem lk_R_53 : Cond.fieldLink "CompatibilityJudgeModel" 53 "CompatibilityJudgeModel" "line" "[I" ∈ zG := zin 487 (by decide +kernel)
theorem lk_R_128 : Cond.fieldLink "CompatibilityJudgeModel" 128 "CompatibilityJudgeModel" "wanted" "I" ∈ zG := zin 488 (by decide +kernel)
theorem lk_R_124 : Cond.fieldLink "CompatibilityJudgeModel" 124 "CompatibilityJudgeModel" "found" "I" ∈ zG := zin 489 (by decide +kernel)
theorem lk_R_131 : Cond.fieldLink "CompatibilityJudgeModel" 131 "CompatibilityJudgeModel" "gotRule" "I" ∈ zG := zin 490 (by decide +kernel)
theorem lk_R_134 : Cond.fieldLink "CompatibilityJudgeModel" 134 "CompatibilityJudgeModel" "gotType" "I" ∈ zG := zin 491 (by decide +kernel)
theorem lk_R_137 : Cond.fieldLink "CompatibilityJudgeModel" 137 "CompatibilityJudgeModel" "gotDetail" "I" ∈ zG := zin 492 (by decide +kernel)
theorem lk_R_143 : Cond.fieldLink "CompatibilityJudgeModel" 143 "CompatibilityJudgeModel" "worst" "I" ∈ zG := zin 493 (by decide +kernel)
theorem lk_R_56 : Cond.fieldLink "CompatibilityJudgeModel" 56 "CompatibilityJudgeModel" "loud" "[I" ∈ zG := zin 494 (by decide +kernel)
theorem lk_L_17 : Cond.methodLink "CompatibilityJudgeLaw" 17 y_R_type ∈ zG := zin 541 (by decide +kernel)
theorem lk_R_63 : Cond.methodLink "CompatibilityJudgeModel" 63 y_R_bad ∈ zG := zin 545 (by decide +kernel)
theorem lk_R_59 : Cond.methodLink "CompatibilityJudgeModel" 59 y_R_out ∈ zG := zin 548 (by decide +kernel)
theorem lk_L_22 : Cond.methodLink "CompatibilityJudgeLaw" 22 y_R_implement ∈ zG := zin 551 (by decide +kernel)
theorem lk_L_26 : Cond.methodLink "CompatibilityJudgeLaw" 26 y_R_member ∈ zG := zin 555 (by decide +kernel)
theorem lk_R_69 : Cond.methodLink "CompatibilityJudgeModel" 69 y_R_badKey ∈ zG := zin 559 (by decide +kernel)
theorem lk_R_72 : Cond.methodLink "CompatibilityJudgeModel" 72 y_R_own ∈ zG := zin 562 (by decide +kernel)
theorem lk_R_76 : Cond.methodLink "CompatibilityJudgeModel" 76 y_R_badFlags ∈ zG := zin 566 (by decide +kernel)
theorem lk_R_66 : Cond.methodLink "CompatibilityJudgeModel" 66 y_R_has ∈ zG := zin 569 (by decide +kernel)
theorem lk_L_31 : Cond.methodLink "CompatibilityJudgeLaw" 31 y_R_constant ∈ zG := zin 572 (by decide +kernel)
theorem lk_R_80 : Cond.methodLink "CompatibilityJudgeModel" 80 y_R_cell ∈ zG := zin 576 (by decide +kernel)
theorem lk_L_36 : Cond.methodLink "CompatibilityJudgeLaw" 36 y_R_remove ∈ zG := zin 580 (by decide +kernel)
theorem lk_L_40 : Cond.methodLink "CompatibilityJudgeLaw" 40 y_R_drop ∈ zG := zin 584 (by decide +kernel)
theorem lk_R_83 : Cond.methodLink "CompatibilityJudgeModel" 83 y_R_copyCell ∈ zG := zin 588 (by decide +kernel)
theorem lk_L_45 : Cond.methodLink "CompatibilityJudgeLaw" 45 y_R_copy ∈ zG := zin 592 (by decide +kernel)
theorem lk_R_87 : Cond.methodLink "CompatibilityJudgeModel" 87 y_R_copyRow ∈ zG := zin 596 (by decide +kernel)
theorem lk_R_90 : Cond.methodLink "CompatibilityJudgeModel" 90 y_R_count ∈ zG := zin 600 (by decide +kernel)
theorem lk_L_49 : Cond.methodLink "CompatibilityJudgeLaw" 49 y_R_swap ∈ zG := zin 604 (by decide +kernel)
theorem lk_R_94 : Cond.methodLink "CompatibilityJudgeModel" 94 y_R_copyHead ∈ zG := zin 608 (by decide +kernel)
theorem lk_R_97 : Cond.methodLink "CompatibilityJudgeModel" 97 y_R_swapCell ∈ zG := zin 612 (by decide +kernel)
theorem lk_L_54 : Cond.methodLink "CompatibilityJudgeLaw" 54 y_R_suppress ∈ zG := zin 616 (by decide +kernel)
theorem lk_L_58 : Cond.methodLink "CompatibilityJudgeLaw" 58 y_R_supertypes ∈ zG := zin 620 (by decide +kernel)
theorem lk_R_100 : Cond.methodLink "CompatibilityJudgeModel" 100 y_R_set ∈ zG := zin 624 (by decide +kernel)
theorem lk_R_104 : Cond.methodLink "CompatibilityJudgeModel" 104 y_R_direct ∈ zG := zin 628 (by decide +kernel)
theorem lk_L_62 : Cond.methodLink "CompatibilityJudgeLaw" 62 y_R_look ∈ zG := zin 632 (by decide +kernel)
theorem lk_R_120 : Cond.methodLink "CompatibilityJudgeModel" 120 y_R_find ∈ zG := zin 636 (by decide +kernel)
theorem lk_R_114 : Cond.methodLink "CompatibilityJudgeModel" 114 y_R_field ∈ zG := zin 640 (by decide +kernel)
theorem lk_R_108 : Cond.methodLink "CompatibilityJudgeModel" 108 y_R_is ∈ zG := zin 644 (by decide +kernel)
theorem lk_R_117 : Cond.methodLink "CompatibilityJudgeModel" 117 y_R_method ∈ zG := zin 648 (by decide +kernel)
theorem lk_R_111 : Cond.methodLink "CompatibilityJudgeModel" 111 y_R_above ∈ zG := zin 652 (by decide +kernel)
theorem lk_L_66 : Cond.methodLink "CompatibilityJudgeLaw" 66 y_R_findings ∈ zG := zin 656 (by decide +kernel)
theorem lk_R_163 : Cond.methodLink "CompatibilityJudgeModel" 163 y_R_all ∈ zG := zin 660 (by decide +kernel)
theorem lk_R_159 : Cond.methodLink "CompatibilityJudgeModel" 159 y_R_judge ∈ zG := zin 664 (by decide +kernel)
theorem lk_R_150 : Cond.methodLink "CompatibilityJudgeModel" 150 y_R_tell ∈ zG := zin 668 (by decide +kernel)
theorem lk_R_140 : Cond.methodLink "CompatibilityJudgeModel" 140 y_R_severity ∈ zG := zin 672 (by decide +kernel)
theorem lk_R_154 : Cond.methodLink "CompatibilityJudgeModel" 154 y_R_members ∈ zG := zin 675 (by decide +kernel)
theorem lk_R_146 : Cond.methodLink "CompatibilityJudgeModel" 146 y_R_breaks ∈ zG := zin 679 (by decide +kernel)
theorem lk_R_156 : Cond.methodLink "CompatibilityJudgeModel" 156 y_R_added ∈ zG := zin 683 (by decide +kernel)
theorem lk_L_70 : Cond.methodLink "CompatibilityJudgeLaw" 70 y_R_finding ∈ zG := zin 687 (by decide +kernel)
theorem lk_L_74 : Cond.methodLink "CompatibilityJudgeLaw" 74 y_R_verdict ∈ zG := zin 691 (by decide +kernel)
theorem lk_L_79 : Cond.methodLink "CompatibilityJudgeLaw" 79 y_R_byRule ∈ zG := zin 695 (by decide +kernel)
theorem lk_L_83 : Cond.methodLink "CompatibilityJudgeLaw" 83 y_R_count ∈ zG := zin 699 (by decide +kernel)
def uT_J : u_T := fun k => match k with
  | 0 => ("CompatibilityJudge", "baselines", "[LCompatibilityJudge$Baseline;", true)
  | 1 => ("CompatibilityJudge", "comparison", "LCompatibilityJudge$Comparison;", true)
  | _ => ("CompatibilityJudge", "suppressed", "[I", true)
def uY_J : Nat → FieldType := fun k => match k with
  | 0 => .array (.object "CompatibilityJudge$Baseline")
  | 1 => .object "CompatibilityJudge$Comparison"
  | _ => .array .int
theorem nm_J : ∀ a, a < 3 → ∀ b, b < 3 → a ≠ b → (uT_J a).2.1 ≠ (uT_J b).2.1 := by decide +kernel
theorem tk_J : ∀ k, k < 3 → parseFieldDescriptor (uT_J k).2.2.1 = some (uY_J k) := by decide +kernel
theorem uw_J : ∀ w ∈ u_ws "CompatibilityJudge" uT_J 3, w ∈ zG := by decide +kernel
def uT_B : u_T := fun k => match k with
  | 0 => ("CompatibilityJudge$Baseline", "types", "[LCompatibilityJudge$Type;", true)
  | _ => ("CompatibilityJudge$Baseline", "fieldOwners", "[I", true)
def uY_B : Nat → FieldType := fun k => match k with
  | 0 => .array (.object "CompatibilityJudge$Type")
  | _ => .array .int
theorem nm_B : ∀ a, a < 2 → ∀ b, b < 2 → a ≠ b → (uT_B a).2.1 ≠ (uT_B b).2.1 := by decide +kernel
theorem tk_B : ∀ k, k < 2 → parseFieldDescriptor (uT_B k).2.2.1 = some (uY_B k) := by decide +kernel
theorem uw_B : ∀ w ∈ u_ws "CompatibilityJudge$Baseline" uT_B 2, w ∈ zG := by decide +kernel
def uT_C : u_T := fun k => match k with
  | 0 => ("CompatibilityJudge$Comparison", "rules", "[I", true)
  | 1 => ("CompatibilityJudge$Comparison", "types", "[I", true)
  | 2 => ("CompatibilityJudge$Comparison", "details", "[I", true)
  | 3 => ("CompatibilityJudge$Comparison", "size", "I", false)
  | 4 => ("CompatibilityJudge$Comparison", "stale", "Z", false)
  | _ => ("CompatibilityJudge$Comparison", "partners", "[LCompatibilityJudge$Member;", true)
def uY_C : Nat → FieldType := fun k => match k with
  | 0 => .array .int
  | 1 => .array .int
  | 2 => .array .int
  | 3 => .int
  | 4 => .boolean
  | _ => .array (.object "CompatibilityJudge$Member")
theorem nm_C : ∀ a, a < 6 → ∀ b, b < 6 → a ≠ b → (uT_C a).2.1 ≠ (uT_C b).2.1 := by decide +kernel
theorem tk_C : ∀ k, k < 6 → parseFieldDescriptor (uT_C k).2.2.1 = some (uY_C k) := by decide +kernel
theorem uw_C : ∀ w ∈ u_ws "CompatibilityJudge$Comparison" uT_C 6, w ∈ zG := by decide +kernel
def uT_T : u_T := fun k => match k with
  | 0 => ("CompatibilityJudge$Type", "defined", "Z", false)
  | 1 => ("CompatibilityJudge$Type", "kind", "I", false)
  | 2 => ("CompatibilityJudge$Type", "flags", "I", false)
  | 3 => ("CompatibilityJudge$Type", "parent", "I", false)
  | 4 => ("CompatibilityJudge$Type", "interfaces", "[I", true)
  | 5 => ("CompatibilityJudge$Type", "interfaceCount", "I", false)
  | 6 => ("CompatibilityJudge$Type", "members", "[LCompatibilityJudge$Member;", true)
  | 7 => ("CompatibilityJudge$Type", "memberCount", "I", false)
  | 8 => ("CompatibilityJudge$Type", "superclass", "I", false)
  | _ => ("CompatibilityJudge$Type", "supertypes", "I", false)
def uY_T : Nat → FieldType := fun k => match k with
  | 0 => .boolean
  | 1 => .int
  | 2 => .int
  | 3 => .int
  | 4 => .array .int
  | 5 => .int
  | 6 => .array (.object "CompatibilityJudge$Member")
  | 7 => .int
  | 8 => .int
  | _ => .int
theorem nm_T : ∀ a, a < 10 → ∀ b, b < 10 → a ≠ b → (uT_T a).2.1 ≠ (uT_T b).2.1 := by decide +kernel
theorem tk_T : ∀ k, k < 10 → parseFieldDescriptor (uT_T k).2.2.1 = some (uY_T k) := by decide +kernel
theorem uw_T : ∀ w ∈ u_ws "CompatibilityJudge$Type" uT_T 10, w ∈ zG := by decide +kernel
def uT_M : u_T := fun k => match k with
  | 0 => ("CompatibilityJudge$Member", "kind", "I", false)
  | 1 => ("CompatibilityJudge$Member", "key", "I", false)
  | 2 => ("CompatibilityJudge$Member", "flags", "I", false)
  | 3 => ("CompatibilityJudge$Member", "hasConstant", "Z", false)
  | _ => ("CompatibilityJudge$Member", "constant", "I", false)
def uY_M : Nat → FieldType := fun k => match k with
  | 0 => .int
  | 1 => .int
  | 2 => .int
  | 3 => .boolean
  | _ => .int
theorem nm_M : ∀ a, a < 5 → ∀ b, b < 5 → a ≠ b → (uT_M a).2.1 ≠ (uT_M b).2.1 := by decide +kernel
theorem tk_M : ∀ k, k < 5 → parseFieldDescriptor (uT_M k).2.2.1 = some (uY_M k) := by decide +kernel
theorem uw_M : ∀ w ∈ u_ws "CompatibilityJudge$Member" uT_M 5, w ∈ zG := by decide +kernel
def uT_R : u_T := fun k => match k with
  | 0 => ("CompatibilityJudgeModel", "defined", "[Z", true)
  | 1 => ("CompatibilityJudgeModel", "kind", "[I", true)
  | 2 => ("CompatibilityJudgeModel", "flags", "[I", true)
  | 3 => ("CompatibilityJudgeModel", "parent", "[I", true)
  | 4 => ("CompatibilityJudgeModel", "faces", "[I", true)
  | 5 => ("CompatibilityJudgeModel", "face", "[I", true)
  | 6 => ("CompatibilityJudgeModel", "members", "[I", true)
  | 7 => ("CompatibilityJudgeModel", "mKind", "[I", true)
  | 8 => ("CompatibilityJudgeModel", "mKey", "[I", true)
  | 9 => ("CompatibilityJudgeModel", "mFlags", "[I", true)
  | 10 => ("CompatibilityJudgeModel", "mFixed", "[Z", true)
  | 11 => ("CompatibilityJudgeModel", "mValue", "[I", true)
  | 12 => ("CompatibilityJudgeModel", "hushed", "[Z", true)
  | 13 => ("CompatibilityJudgeModel", "seen", "[Z", true)
  | 14 => ("CompatibilityJudgeModel", "line", "[I", true)
  | 15 => ("CompatibilityJudgeModel", "wanted", "I", false)
  | 16 => ("CompatibilityJudgeModel", "found", "I", false)
  | 17 => ("CompatibilityJudgeModel", "gotRule", "I", false)
  | 18 => ("CompatibilityJudgeModel", "gotType", "I", false)
  | 19 => ("CompatibilityJudgeModel", "gotDetail", "I", false)
  | 20 => ("CompatibilityJudgeModel", "worst", "I", false)
  | _ => ("CompatibilityJudgeModel", "loud", "[I", true)
def uY_R : Nat → FieldType := fun k => match k with
  | 0 => .array .boolean
  | 1 => .array .int
  | 2 => .array .int
  | 3 => .array .int
  | 4 => .array .int
  | 5 => .array .int
  | 6 => .array .int
  | 7 => .array .int
  | 8 => .array .int
  | 9 => .array .int
  | 10 => .array .boolean
  | 11 => .array .int
  | 12 => .array .boolean
  | 13 => .array .boolean
  | 14 => .array .int
  | 15 => .int
  | 16 => .int
  | 17 => .int
  | 18 => .int
  | 19 => .int
  | 20 => .int
  | _ => .array .int
theorem nm_R : ∀ a, a < 22 → ∀ b, b < 22 → a ≠ b → (uT_R a).2.1 ≠ (uT_R b).2.1 := by decide +kernel
theorem tk_R : ∀ k, k < 22 → parseFieldDescriptor (uT_R k).2.2.1 = some (uY_R k) := by decide +kernel
theorem uw_R : ∀ w ∈ u_ws "CompatibilityJudgeModel" uT_R 22, w ∈ zG := by decide +kernel
theorem pd_J_init : y_J_init.cls = "CompatibilityJudge" ∧ y_J_init.cls ≠ "java/lang/invoke/MethodHandle" ∧ y_J_init.cls ≠ "java/lang/invoke/VarHandle" ∧ (parseMethodDescriptor y_J_init.desc).map (fun d => d.parameters.length) = some 0 := by decide +kernel
theorem pd_B_init : y_B_init.cls = "CompatibilityJudge$Baseline" ∧ y_B_init.cls ≠ "java/lang/invoke/MethodHandle" ∧ y_B_init.cls ≠ "java/lang/invoke/VarHandle" ∧ (parseMethodDescriptor y_B_init.desc).map (fun d => d.parameters.length) = some 0 := by decide +kernel
theorem pd_T_init : y_T_init.cls = "CompatibilityJudge$Type" ∧ y_T_init.cls ≠ "java/lang/invoke/MethodHandle" ∧ y_T_init.cls ≠ "java/lang/invoke/VarHandle" ∧ (parseMethodDescriptor y_T_init.desc).map (fun d => d.parameters.length) = some 0 := by decide +kernel
theorem pd_M_init : y_M_init.cls = "CompatibilityJudge$Member" ∧ y_M_init.cls ≠ "java/lang/invoke/MethodHandle" ∧ y_M_init.cls ≠ "java/lang/invoke/VarHandle" ∧ (parseMethodDescriptor y_M_init.desc).map (fun d => d.parameters.length) = some 0 := by decide +kernel
theorem pd_C_init : y_C_init.cls = "CompatibilityJudge$Comparison" ∧ y_C_init.cls ≠ "java/lang/invoke/MethodHandle" ∧ y_C_init.cls ≠ "java/lang/invoke/VarHandle" ∧ (parseMethodDescriptor y_C_init.desc).map (fun d => d.parameters.length) = some 0 := by decide +kernel
theorem pd_J_type : y_J_type.cls = "CompatibilityJudge" ∧ y_J_type.cls ≠ "java/lang/invoke/MethodHandle" ∧ y_J_type.cls ≠ "java/lang/invoke/VarHandle" ∧ (parseMethodDescriptor y_J_type.desc).map (fun d => d.parameters.length) = some 5 := by decide +kernel
theorem pd_J_isTypeOf : y_J_isTypeOf.cls = "CompatibilityJudge" ∧ y_J_isTypeOf.cls ≠ "java/lang/invoke/MethodHandle" ∧ y_J_isTypeOf.cls ≠ "java/lang/invoke/VarHandle" ∧ (parseMethodDescriptor y_J_isTypeOf.desc).map (fun d => d.parameters.length) = some 2 := by decide +kernel
theorem pd_J_isWithin : y_J_isWithin.cls = "CompatibilityJudge" ∧ y_J_isWithin.cls ≠ "java/lang/invoke/MethodHandle" ∧ y_J_isWithin.cls ≠ "java/lang/invoke/VarHandle" ∧ (parseMethodDescriptor y_J_isWithin.desc).map (fun d => d.parameters.length) = some 2 := by decide +kernel
theorem pd_J_isTypeAllowed : y_J_isTypeAllowed.cls = "CompatibilityJudge" ∧ y_J_isTypeAllowed.cls ≠ "java/lang/invoke/MethodHandle" ∧ y_J_isTypeAllowed.cls ≠ "java/lang/invoke/VarHandle" ∧ (parseMethodDescriptor y_J_isTypeAllowed.desc).map (fun d => d.parameters.length) = some 3 := by decide +kernel
theorem pd_T_define : y_T_define.cls = "CompatibilityJudge$Type" ∧ y_T_define.cls ≠ "java/lang/invoke/MethodHandle" ∧ y_T_define.cls ≠ "java/lang/invoke/VarHandle" ∧ (parseMethodDescriptor y_T_define.desc).map (fun d => d.parameters.length) = some 3 := by decide +kernel
theorem pd_B_settle : y_B_settle.cls = "CompatibilityJudge$Baseline" ∧ y_B_settle.cls ≠ "java/lang/invoke/MethodHandle" ∧ y_B_settle.cls ≠ "java/lang/invoke/VarHandle" ∧ (parseMethodDescriptor y_B_settle.desc).map (fun d => d.parameters.length) = some 0 := by decide +kernel
theorem pd_B_isClass : y_B_isClass.cls = "CompatibilityJudge$Baseline" ∧ y_B_isClass.cls ≠ "java/lang/invoke/MethodHandle" ∧ y_B_isClass.cls ≠ "java/lang/invoke/VarHandle" ∧ (parseMethodDescriptor y_B_isClass.desc).map (fun d => d.parameters.length) = some 1 := by decide +kernel
theorem pd_B_gatherSupertypes : y_B_gatherSupertypes.cls = "CompatibilityJudge$Baseline" ∧ y_B_gatherSupertypes.cls ≠ "java/lang/invoke/MethodHandle" ∧ y_B_gatherSupertypes.cls ≠ "java/lang/invoke/VarHandle" ∧ (parseMethodDescriptor y_B_gatherSupertypes.desc).map (fun d => d.parameters.length) = some 1 := by decide +kernel
theorem pd_B_isInterface : y_B_isInterface.cls = "CompatibilityJudge$Baseline" ∧ y_B_isInterface.cls ≠ "java/lang/invoke/MethodHandle" ∧ y_B_isInterface.cls ≠ "java/lang/invoke/VarHandle" ∧ (parseMethodDescriptor y_B_isInterface.desc).map (fun d => d.parameters.length) = some 1 := by decide +kernel
theorem pd_J_implement : y_J_implement.cls = "CompatibilityJudge" ∧ y_J_implement.cls ≠ "java/lang/invoke/MethodHandle" ∧ y_J_implement.cls ≠ "java/lang/invoke/VarHandle" ∧ (parseMethodDescriptor y_J_implement.desc).map (fun d => d.parameters.length) = some 3 := by decide +kernel
theorem pd_T_names : y_T_names.cls = "CompatibilityJudge$Type" ∧ y_T_names.cls ≠ "java/lang/invoke/MethodHandle" ∧ y_T_names.cls ≠ "java/lang/invoke/VarHandle" ∧ (parseMethodDescriptor y_T_names.desc).map (fun d => d.parameters.length) = some 1 := by decide +kernel
theorem pd_T_addInterface : y_T_addInterface.cls = "CompatibilityJudge$Type" ∧ y_T_addInterface.cls ≠ "java/lang/invoke/MethodHandle" ∧ y_T_addInterface.cls ≠ "java/lang/invoke/VarHandle" ∧ (parseMethodDescriptor y_T_addInterface.desc).map (fun d => d.parameters.length) = some 1 := by decide +kernel
theorem pd_J_member : y_J_member.cls = "CompatibilityJudge" ∧ y_J_member.cls ≠ "java/lang/invoke/MethodHandle" ∧ y_J_member.cls ≠ "java/lang/invoke/VarHandle" ∧ (parseMethodDescriptor y_J_member.desc).map (fun d => d.parameters.length) = some 5 := by decide +kernel
theorem pd_J_isKey : y_J_isKey.cls = "CompatibilityJudge" ∧ y_J_isKey.cls ≠ "java/lang/invoke/MethodHandle" ∧ y_J_isKey.cls ≠ "java/lang/invoke/VarHandle" ∧ (parseMethodDescriptor y_J_isKey.desc).map (fun d => d.parameters.length) = some 2 := by decide +kernel
theorem pd_T_own : y_T_own.cls = "CompatibilityJudge$Type" ∧ y_T_own.cls ≠ "java/lang/invoke/MethodHandle" ∧ y_T_own.cls ≠ "java/lang/invoke/VarHandle" ∧ (parseMethodDescriptor y_T_own.desc).map (fun d => d.parameters.length) = some 2 := by decide +kernel
theorem pd_J_isMemberAllowed : y_J_isMemberAllowed.cls = "CompatibilityJudge" ∧ y_J_isMemberAllowed.cls ≠ "java/lang/invoke/MethodHandle" ∧ y_J_isMemberAllowed.cls ≠ "java/lang/invoke/VarHandle" ∧ (parseMethodDescriptor y_J_isMemberAllowed.desc).map (fun d => d.parameters.length) = some 2 := by decide +kernel
theorem pd_J_isAllowedInInterface : y_J_isAllowedInInterface.cls = "CompatibilityJudge" ∧ y_J_isAllowedInInterface.cls ≠ "java/lang/invoke/MethodHandle" ∧ y_J_isAllowedInInterface.cls ≠ "java/lang/invoke/VarHandle" ∧ (parseMethodDescriptor y_J_isAllowedInInterface.desc).map (fun d => d.parameters.length) = some 2 := by decide +kernel
theorem pd_T_addMember : y_T_addMember.cls = "CompatibilityJudge$Type" ∧ y_T_addMember.cls ≠ "java/lang/invoke/MethodHandle" ∧ y_T_addMember.cls ≠ "java/lang/invoke/VarHandle" ∧ (parseMethodDescriptor y_T_addMember.desc).map (fun d => d.parameters.length) = some 3 := by decide +kernel
theorem pd_M_define : y_M_define.cls = "CompatibilityJudge$Member" ∧ y_M_define.cls ≠ "java/lang/invoke/MethodHandle" ∧ y_M_define.cls ≠ "java/lang/invoke/VarHandle" ∧ (parseMethodDescriptor y_M_define.desc).map (fun d => d.parameters.length) = some 3 := by decide +kernel
theorem pd_J_constant : y_J_constant.cls = "CompatibilityJudge" ∧ y_J_constant.cls ≠ "java/lang/invoke/MethodHandle" ∧ y_J_constant.cls ≠ "java/lang/invoke/VarHandle" ∧ (parseMethodDescriptor y_J_constant.desc).map (fun d => d.parameters.length) = some 4 := by decide +kernel
theorem pd_J_isMemberOf : y_J_isMemberOf.cls = "CompatibilityJudge" ∧ y_J_isMemberOf.cls ≠ "java/lang/invoke/MethodHandle" ∧ y_J_isMemberOf.cls ≠ "java/lang/invoke/VarHandle" ∧ (parseMethodDescriptor y_J_isMemberOf.desc).map (fun d => d.parameters.length) = some 3 := by decide +kernel
theorem pd_J_remove : y_J_remove.cls = "CompatibilityJudge" ∧ y_J_remove.cls ≠ "java/lang/invoke/MethodHandle" ∧ y_J_remove.cls ≠ "java/lang/invoke/VarHandle" ∧ (parseMethodDescriptor y_J_remove.desc).map (fun d => d.parameters.length) = some 2 := by decide +kernel
theorem pd_T_clear : y_T_clear.cls = "CompatibilityJudge$Type" ∧ y_T_clear.cls ≠ "java/lang/invoke/MethodHandle" ∧ y_T_clear.cls ≠ "java/lang/invoke/VarHandle" ∧ (parseMethodDescriptor y_T_clear.desc).map (fun d => d.parameters.length) = some 0 := by decide +kernel
theorem pd_J_drop : y_J_drop.cls = "CompatibilityJudge" ∧ y_J_drop.cls ≠ "java/lang/invoke/MethodHandle" ∧ y_J_drop.cls ≠ "java/lang/invoke/VarHandle" ∧ (parseMethodDescriptor y_J_drop.desc).map (fun d => d.parameters.length) = some 3 := by decide +kernel
theorem pd_T_takeOut : y_T_takeOut.cls = "CompatibilityJudge$Type" ∧ y_T_takeOut.cls ≠ "java/lang/invoke/MethodHandle" ∧ y_T_takeOut.cls ≠ "java/lang/invoke/VarHandle" ∧ (parseMethodDescriptor y_T_takeOut.desc).map (fun d => d.parameters.length) = some 1 := by decide +kernel
theorem pd_M_become : y_M_become.cls = "CompatibilityJudge$Member" ∧ y_M_become.cls ≠ "java/lang/invoke/MethodHandle" ∧ y_M_become.cls ≠ "java/lang/invoke/VarHandle" ∧ (parseMethodDescriptor y_M_become.desc).map (fun d => d.parameters.length) = some 1 := by decide +kernel
theorem pd_J_copy : y_J_copy.cls = "CompatibilityJudge" ∧ y_J_copy.cls ≠ "java/lang/invoke/MethodHandle" ∧ y_J_copy.cls ≠ "java/lang/invoke/VarHandle" ∧ (parseMethodDescriptor y_J_copy.desc).map (fun d => d.parameters.length) = some 0 := by decide +kernel
theorem pd_B_become : y_B_become.cls = "CompatibilityJudge$Baseline" ∧ y_B_become.cls ≠ "java/lang/invoke/MethodHandle" ∧ y_B_become.cls ≠ "java/lang/invoke/VarHandle" ∧ (parseMethodDescriptor y_B_become.desc).map (fun d => d.parameters.length) = some 1 := by decide +kernel
theorem pd_T_become : y_T_become.cls = "CompatibilityJudge$Type" ∧ y_T_become.cls ≠ "java/lang/invoke/MethodHandle" ∧ y_T_become.cls ≠ "java/lang/invoke/VarHandle" ∧ (parseMethodDescriptor y_T_become.desc).map (fun d => d.parameters.length) = some 1 := by decide +kernel
theorem pd_B_typeCount : y_B_typeCount.cls = "CompatibilityJudge$Baseline" ∧ y_B_typeCount.cls ≠ "java/lang/invoke/MethodHandle" ∧ y_B_typeCount.cls ≠ "java/lang/invoke/VarHandle" ∧ (parseMethodDescriptor y_B_typeCount.desc).map (fun d => d.parameters.length) = some 0 := by decide +kernel
theorem pd_J_swap : y_J_swap.cls = "CompatibilityJudge" ∧ y_J_swap.cls ≠ "java/lang/invoke/MethodHandle" ∧ y_J_swap.cls ≠ "java/lang/invoke/VarHandle" ∧ (parseMethodDescriptor y_J_swap.desc).map (fun d => d.parameters.length) = some 0 := by decide +kernel
theorem pd_J_suppress : y_J_suppress.cls = "CompatibilityJudge" ∧ y_J_suppress.cls ≠ "java/lang/invoke/MethodHandle" ∧ y_J_suppress.cls ≠ "java/lang/invoke/VarHandle" ∧ (parseMethodDescriptor y_J_suppress.desc).map (fun d => d.parameters.length) = some 3 := by decide +kernel
theorem pd_J_isSuppressed : y_J_isSuppressed.cls = "CompatibilityJudge" ∧ y_J_isSuppressed.cls ≠ "java/lang/invoke/MethodHandle" ∧ y_J_isSuppressed.cls ≠ "java/lang/invoke/VarHandle" ∧ (parseMethodDescriptor y_J_isSuppressed.desc).map (fun d => d.parameters.length) = some 2 := by decide +kernel
theorem pd_J_contains : y_J_contains.cls = "CompatibilityJudge" ∧ y_J_contains.cls ≠ "java/lang/invoke/MethodHandle" ∧ y_J_contains.cls ≠ "java/lang/invoke/VarHandle" ∧ (parseMethodDescriptor y_J_contains.desc).map (fun d => d.parameters.length) = some 2 := by decide +kernel
theorem pd_J_supertypes : y_J_supertypes.cls = "CompatibilityJudge" ∧ y_J_supertypes.cls ≠ "java/lang/invoke/MethodHandle" ∧ y_J_supertypes.cls ≠ "java/lang/invoke/VarHandle" ∧ (parseMethodDescriptor y_J_supertypes.desc).map (fun d => d.parameters.length) = some 2 := by decide +kernel
theorem pd_J_look : y_J_look.cls = "CompatibilityJudge" ∧ y_J_look.cls ≠ "java/lang/invoke/MethodHandle" ∧ y_J_look.cls ≠ "java/lang/invoke/VarHandle" ∧ (parseMethodDescriptor y_J_look.desc).map (fun d => d.parameters.length) = some 4 := by decide +kernel
theorem pd_B_whereIs : y_B_whereIs.cls = "CompatibilityJudge$Baseline" ∧ y_B_whereIs.cls ≠ "java/lang/invoke/MethodHandle" ∧ y_B_whereIs.cls ≠ "java/lang/invoke/VarHandle" ∧ (parseMethodDescriptor y_B_whereIs.desc).map (fun d => d.parameters.length) = some 3 := by decide +kernel
theorem pd_B_whereIsField : y_B_whereIsField.cls = "CompatibilityJudge$Baseline" ∧ y_B_whereIsField.cls ≠ "java/lang/invoke/MethodHandle" ∧ y_B_whereIsField.cls ≠ "java/lang/invoke/VarHandle" ∧ (parseMethodDescriptor y_B_whereIsField.desc).map (fun d => d.parameters.length) = some 2 := by decide +kernel
theorem pd_B_fieldOwnerFor : y_B_fieldOwnerFor.cls = "CompatibilityJudge$Baseline" ∧ y_B_fieldOwnerFor.cls ≠ "java/lang/invoke/MethodHandle" ∧ y_B_fieldOwnerFor.cls ≠ "java/lang/invoke/VarHandle" ∧ (parseMethodDescriptor y_B_fieldOwnerFor.desc).map (fun d => d.parameters.length) = some 2 := by decide +kernel
theorem pd_B_whereIsMethod : y_B_whereIsMethod.cls = "CompatibilityJudge$Baseline" ∧ y_B_whereIsMethod.cls ≠ "java/lang/invoke/MethodHandle" ∧ y_B_whereIsMethod.cls ≠ "java/lang/invoke/VarHandle" ∧ (parseMethodDescriptor y_B_whereIsMethod.desc).map (fun d => d.parameters.length) = some 2 := by decide +kernel
theorem pd_B_whereIsInterfaceMethod : y_B_whereIsInterfaceMethod.cls = "CompatibilityJudge$Baseline" ∧ y_B_whereIsInterfaceMethod.cls ≠ "java/lang/invoke/MethodHandle" ∧ y_B_whereIsInterfaceMethod.cls ≠ "java/lang/invoke/VarHandle" ∧ (parseMethodDescriptor y_B_whereIsInterfaceMethod.desc).map (fun d => d.parameters.length) = some 2 := by decide +kernel
theorem pd_M_hasAny : y_M_hasAny.cls = "CompatibilityJudge$Member" ∧ y_M_hasAny.cls ≠ "java/lang/invoke/MethodHandle" ∧ y_M_hasAny.cls ≠ "java/lang/invoke/VarHandle" ∧ (parseMethodDescriptor y_M_hasAny.desc).map (fun d => d.parameters.length) = some 1 := by decide +kernel
theorem pd_M_access : y_M_access.cls = "CompatibilityJudge$Member" ∧ y_M_access.cls ≠ "java/lang/invoke/MethodHandle" ∧ y_M_access.cls ≠ "java/lang/invoke/VarHandle" ∧ (parseMethodDescriptor y_M_access.desc).map (fun d => d.parameters.length) = some 0 := by decide +kernel
theorem pd_J_findings : y_J_findings.cls = "CompatibilityJudge" ∧ y_J_findings.cls ≠ "java/lang/invoke/MethodHandle" ∧ y_J_findings.cls ≠ "java/lang/invoke/VarHandle" ∧ (parseMethodDescriptor y_J_findings.desc).map (fun d => d.parameters.length) = some 0 := by decide +kernel
theorem pd_C_bringUpToDate : y_C_bringUpToDate.cls = "CompatibilityJudge$Comparison" ∧ y_C_bringUpToDate.cls ≠ "java/lang/invoke/MethodHandle" ∧ y_C_bringUpToDate.cls ≠ "java/lang/invoke/VarHandle" ∧ (parseMethodDescriptor y_C_bringUpToDate.desc).map (fun d => d.parameters.length) = some 2 := by decide +kernel
theorem pd_T_isPublic : y_T_isPublic.cls = "CompatibilityJudge$Type" ∧ y_T_isPublic.cls ≠ "java/lang/invoke/MethodHandle" ∧ y_T_isPublic.cls ≠ "java/lang/invoke/VarHandle" ∧ (parseMethodDescriptor y_T_isPublic.desc).map (fun d => d.parameters.length) = some 0 := by decide +kernel
theorem pd_T_hasAny : y_T_hasAny.cls = "CompatibilityJudge$Type" ∧ y_T_hasAny.cls ≠ "java/lang/invoke/MethodHandle" ∧ y_T_hasAny.cls ≠ "java/lang/invoke/VarHandle" ∧ (parseMethodDescriptor y_T_hasAny.desc).map (fun d => d.parameters.length) = some 1 := by decide +kernel
theorem pd_C_judgeType : y_C_judgeType.cls = "CompatibilityJudge$Comparison" ∧ y_C_judgeType.cls ≠ "java/lang/invoke/MethodHandle" ∧ y_C_judgeType.cls ≠ "java/lang/invoke/VarHandle" ∧ (parseMethodDescriptor y_C_judgeType.desc).map (fun d => d.parameters.length) = some 3 := by decide +kernel
theorem pd_C_add : y_C_add.cls = "CompatibilityJudge$Comparison" ∧ y_C_add.cls ≠ "java/lang/invoke/MethodHandle" ∧ y_C_add.cls ≠ "java/lang/invoke/VarHandle" ∧ (parseMethodDescriptor y_C_add.desc).map (fun d => d.parameters.length) = some 3 := by decide +kernel
theorem pd_C_judgeHeader : y_C_judgeHeader.cls = "CompatibilityJudge$Comparison" ∧ y_C_judgeHeader.cls ≠ "java/lang/invoke/MethodHandle" ∧ y_C_judgeHeader.cls ≠ "java/lang/invoke/VarHandle" ∧ (parseMethodDescriptor y_C_judgeHeader.desc).map (fun d => d.parameters.length) = some 3 := by decide +kernel
theorem pd_C_findPartners : y_C_findPartners.cls = "CompatibilityJudge$Comparison" ∧ y_C_findPartners.cls ≠ "java/lang/invoke/MethodHandle" ∧ y_C_findPartners.cls ≠ "java/lang/invoke/VarHandle" ∧ (parseMethodDescriptor y_C_findPartners.desc).map (fun d => d.parameters.length) = some 3 := by decide +kernel
theorem pd_C_judgeOldMembers : y_C_judgeOldMembers.cls = "CompatibilityJudge$Comparison" ∧ y_C_judgeOldMembers.cls ≠ "java/lang/invoke/MethodHandle" ∧ y_C_judgeOldMembers.cls ≠ "java/lang/invoke/VarHandle" ∧ (parseMethodDescriptor y_C_judgeOldMembers.desc).map (fun d => d.parameters.length) = some 2 := by decide +kernel
theorem pd_M_isOpen : y_M_isOpen.cls = "CompatibilityJudge$Member" ∧ y_M_isOpen.cls ≠ "java/lang/invoke/MethodHandle" ∧ y_M_isOpen.cls ≠ "java/lang/invoke/VarHandle" ∧ (parseMethodDescriptor y_M_isOpen.desc).map (fun d => d.parameters.length) = some 0 := by decide +kernel
theorem pd_C_breaksAsOld : y_C_breaksAsOld.cls = "CompatibilityJudge$Comparison" ∧ y_C_breaksAsOld.cls ≠ "java/lang/invoke/MethodHandle" ∧ y_C_breaksAsOld.cls ≠ "java/lang/invoke/VarHandle" ∧ (parseMethodDescriptor y_C_breaksAsOld.desc).map (fun d => d.parameters.length) = some 4 := by decide +kernel
theorem pd_M_hasConstantOf : y_M_hasConstantOf.cls = "CompatibilityJudge$Member" ∧ y_M_hasConstantOf.cls ≠ "java/lang/invoke/MethodHandle" ∧ y_M_hasConstantOf.cls ≠ "java/lang/invoke/VarHandle" ∧ (parseMethodDescriptor y_M_hasConstantOf.desc).map (fun d => d.parameters.length) = some 1 := by decide +kernel
theorem pd_C_judgeNewMembers : y_C_judgeNewMembers.cls = "CompatibilityJudge$Comparison" ∧ y_C_judgeNewMembers.cls ≠ "java/lang/invoke/MethodHandle" ∧ y_C_judgeNewMembers.cls ≠ "java/lang/invoke/VarHandle" ∧ (parseMethodDescriptor y_C_judgeNewMembers.desc).map (fun d => d.parameters.length) = some 3 := by decide +kernel
theorem pd_C_breaksAsNew : y_C_breaksAsNew.cls = "CompatibilityJudge$Comparison" ∧ y_C_breaksAsNew.cls ≠ "java/lang/invoke/MethodHandle" ∧ y_C_breaksAsNew.cls ≠ "java/lang/invoke/VarHandle" ∧ (parseMethodDescriptor y_C_breaksAsNew.desc).map (fun d => d.parameters.length) = some 3 := by decide +kernel
theorem pd_J_finding : y_J_finding.cls = "CompatibilityJudge" ∧ y_J_finding.cls ≠ "java/lang/invoke/MethodHandle" ∧ y_J_finding.cls ≠ "java/lang/invoke/VarHandle" ∧ (parseMethodDescriptor y_J_finding.desc).map (fun d => d.parameters.length) = some 2 := by decide +kernel
theorem pd_J_verdict : y_J_verdict.cls = "CompatibilityJudge" ∧ y_J_verdict.cls ≠ "java/lang/invoke/MethodHandle" ∧ y_J_verdict.cls ≠ "java/lang/invoke/VarHandle" ∧ (parseMethodDescriptor y_J_verdict.desc).map (fun d => d.parameters.length) = some 0 := by decide +kernel
theorem pd_J_byRule : y_J_byRule.cls = "CompatibilityJudge" ∧ y_J_byRule.cls ≠ "java/lang/invoke/MethodHandle" ∧ y_J_byRule.cls ≠ "java/lang/invoke/VarHandle" ∧ (parseMethodDescriptor y_J_byRule.desc).map (fun d => d.parameters.length) = some 1 := by decide +kernel
theorem pd_J_count : y_J_count.cls = "CompatibilityJudge" ∧ y_J_count.cls ≠ "java/lang/invoke/MethodHandle" ∧ y_J_count.cls ≠ "java/lang/invoke/VarHandle" ∧ (parseMethodDescriptor y_J_count.desc).map (fun d => d.parameters.length) = some 1 := by decide +kernel
theorem pd_B_memberCount : y_B_memberCount.cls = "CompatibilityJudge$Baseline" ∧ y_B_memberCount.cls ≠ "java/lang/invoke/MethodHandle" ∧ y_B_memberCount.cls ≠ "java/lang/invoke/VarHandle" ∧ (parseMethodDescriptor y_B_memberCount.desc).map (fun d => d.parameters.length) = some 0 := by decide +kernel
theorem pd_J_suppressionCount : y_J_suppressionCount.cls = "CompatibilityJudge" ∧ y_J_suppressionCount.cls ≠ "java/lang/invoke/MethodHandle" ∧ y_J_suppressionCount.cls ≠ "java/lang/invoke/VarHandle" ∧ (parseMethodDescriptor y_J_suppressionCount.desc).map (fun d => d.parameters.length) = some 0 := by decide +kernel
theorem pd_I_bitCount : y_I_bitCount.cls = "java/lang/Integer" ∧ y_I_bitCount.cls ≠ "java/lang/invoke/MethodHandle" ∧ y_I_bitCount.cls ≠ "java/lang/invoke/VarHandle" ∧ (parseMethodDescriptor y_I_bitCount.desc).map (fun d => d.parameters.length) = some 1 := by decide +kernel
theorem pd_R_init : y_R_init.cls = "CompatibilityJudgeModel" ∧ y_R_init.cls ≠ "java/lang/invoke/MethodHandle" ∧ y_R_init.cls ≠ "java/lang/invoke/VarHandle" ∧ (parseMethodDescriptor y_R_init.desc).map (fun d => d.parameters.length) = some 0 := by decide +kernel
theorem pd_R_type : y_R_type.cls = "CompatibilityJudgeModel" ∧ y_R_type.cls ≠ "java/lang/invoke/MethodHandle" ∧ y_R_type.cls ≠ "java/lang/invoke/VarHandle" ∧ (parseMethodDescriptor y_R_type.desc).map (fun d => d.parameters.length) = some 5 := by decide +kernel
theorem pd_R_bad : y_R_bad.cls = "CompatibilityJudgeModel" ∧ y_R_bad.cls ≠ "java/lang/invoke/MethodHandle" ∧ y_R_bad.cls ≠ "java/lang/invoke/VarHandle" ∧ (parseMethodDescriptor y_R_bad.desc).map (fun d => d.parameters.length) = some 2 := by decide +kernel
theorem pd_R_out : y_R_out.cls = "CompatibilityJudgeModel" ∧ y_R_out.cls ≠ "java/lang/invoke/MethodHandle" ∧ y_R_out.cls ≠ "java/lang/invoke/VarHandle" ∧ (parseMethodDescriptor y_R_out.desc).map (fun d => d.parameters.length) = some 2 := by decide +kernel
theorem pd_R_implement : y_R_implement.cls = "CompatibilityJudgeModel" ∧ y_R_implement.cls ≠ "java/lang/invoke/MethodHandle" ∧ y_R_implement.cls ≠ "java/lang/invoke/VarHandle" ∧ (parseMethodDescriptor y_R_implement.desc).map (fun d => d.parameters.length) = some 3 := by decide +kernel
theorem pd_R_member : y_R_member.cls = "CompatibilityJudgeModel" ∧ y_R_member.cls ≠ "java/lang/invoke/MethodHandle" ∧ y_R_member.cls ≠ "java/lang/invoke/VarHandle" ∧ (parseMethodDescriptor y_R_member.desc).map (fun d => d.parameters.length) = some 5 := by decide +kernel
theorem pd_R_badKey : y_R_badKey.cls = "CompatibilityJudgeModel" ∧ y_R_badKey.cls ≠ "java/lang/invoke/MethodHandle" ∧ y_R_badKey.cls ≠ "java/lang/invoke/VarHandle" ∧ (parseMethodDescriptor y_R_badKey.desc).map (fun d => d.parameters.length) = some 2 := by decide +kernel
theorem pd_R_own : y_R_own.cls = "CompatibilityJudgeModel" ∧ y_R_own.cls ≠ "java/lang/invoke/MethodHandle" ∧ y_R_own.cls ≠ "java/lang/invoke/VarHandle" ∧ (parseMethodDescriptor y_R_own.desc).map (fun d => d.parameters.length) = some 3 := by decide +kernel
theorem pd_R_badFlags : y_R_badFlags.cls = "CompatibilityJudgeModel" ∧ y_R_badFlags.cls ≠ "java/lang/invoke/MethodHandle" ∧ y_R_badFlags.cls ≠ "java/lang/invoke/VarHandle" ∧ (parseMethodDescriptor y_R_badFlags.desc).map (fun d => d.parameters.length) = some 3 := by decide +kernel
theorem pd_R_has : y_R_has.cls = "CompatibilityJudgeModel" ∧ y_R_has.cls ≠ "java/lang/invoke/MethodHandle" ∧ y_R_has.cls ≠ "java/lang/invoke/VarHandle" ∧ (parseMethodDescriptor y_R_has.desc).map (fun d => d.parameters.length) = some 2 := by decide +kernel
theorem pd_R_constant : y_R_constant.cls = "CompatibilityJudgeModel" ∧ y_R_constant.cls ≠ "java/lang/invoke/MethodHandle" ∧ y_R_constant.cls ≠ "java/lang/invoke/VarHandle" ∧ (parseMethodDescriptor y_R_constant.desc).map (fun d => d.parameters.length) = some 4 := by decide +kernel
theorem pd_R_cell : y_R_cell.cls = "CompatibilityJudgeModel" ∧ y_R_cell.cls ≠ "java/lang/invoke/MethodHandle" ∧ y_R_cell.cls ≠ "java/lang/invoke/VarHandle" ∧ (parseMethodDescriptor y_R_cell.desc).map (fun d => d.parameters.length) = some 3 := by decide +kernel
theorem pd_R_remove : y_R_remove.cls = "CompatibilityJudgeModel" ∧ y_R_remove.cls ≠ "java/lang/invoke/MethodHandle" ∧ y_R_remove.cls ≠ "java/lang/invoke/VarHandle" ∧ (parseMethodDescriptor y_R_remove.desc).map (fun d => d.parameters.length) = some 2 := by decide +kernel
theorem pd_R_drop : y_R_drop.cls = "CompatibilityJudgeModel" ∧ y_R_drop.cls ≠ "java/lang/invoke/MethodHandle" ∧ y_R_drop.cls ≠ "java/lang/invoke/VarHandle" ∧ (parseMethodDescriptor y_R_drop.desc).map (fun d => d.parameters.length) = some 3 := by decide +kernel
theorem pd_R_copyCell : y_R_copyCell.cls = "CompatibilityJudgeModel" ∧ y_R_copyCell.cls ≠ "java/lang/invoke/MethodHandle" ∧ y_R_copyCell.cls ≠ "java/lang/invoke/VarHandle" ∧ (parseMethodDescriptor y_R_copyCell.desc).map (fun d => d.parameters.length) = some 2 := by decide +kernel
theorem pd_R_copy : y_R_copy.cls = "CompatibilityJudgeModel" ∧ y_R_copy.cls ≠ "java/lang/invoke/MethodHandle" ∧ y_R_copy.cls ≠ "java/lang/invoke/VarHandle" ∧ (parseMethodDescriptor y_R_copy.desc).map (fun d => d.parameters.length) = some 0 := by decide +kernel
theorem pd_R_copyRow : y_R_copyRow.cls = "CompatibilityJudgeModel" ∧ y_R_copyRow.cls ≠ "java/lang/invoke/MethodHandle" ∧ y_R_copyRow.cls ≠ "java/lang/invoke/VarHandle" ∧ (parseMethodDescriptor y_R_copyRow.desc).map (fun d => d.parameters.length) = some 2 := by decide +kernel
theorem pd_R_count : y_R_count.cls = "CompatibilityJudgeModel" ∧ y_R_count.cls ≠ "java/lang/invoke/MethodHandle" ∧ y_R_count.cls ≠ "java/lang/invoke/VarHandle" ∧ (parseMethodDescriptor y_R_count.desc).map (fun d => d.parameters.length) = some 1 := by decide +kernel
theorem pd_R_swap : y_R_swap.cls = "CompatibilityJudgeModel" ∧ y_R_swap.cls ≠ "java/lang/invoke/MethodHandle" ∧ y_R_swap.cls ≠ "java/lang/invoke/VarHandle" ∧ (parseMethodDescriptor y_R_swap.desc).map (fun d => d.parameters.length) = some 0 := by decide +kernel
theorem pd_R_copyHead : y_R_copyHead.cls = "CompatibilityJudgeModel" ∧ y_R_copyHead.cls ≠ "java/lang/invoke/MethodHandle" ∧ y_R_copyHead.cls ≠ "java/lang/invoke/VarHandle" ∧ (parseMethodDescriptor y_R_copyHead.desc).map (fun d => d.parameters.length) = some 2 := by decide +kernel
theorem pd_R_swapCell : y_R_swapCell.cls = "CompatibilityJudgeModel" ∧ y_R_swapCell.cls ≠ "java/lang/invoke/MethodHandle" ∧ y_R_swapCell.cls ≠ "java/lang/invoke/VarHandle" ∧ (parseMethodDescriptor y_R_swapCell.desc).map (fun d => d.parameters.length) = some 2 := by decide +kernel
theorem pd_R_suppress : y_R_suppress.cls = "CompatibilityJudgeModel" ∧ y_R_suppress.cls ≠ "java/lang/invoke/MethodHandle" ∧ y_R_suppress.cls ≠ "java/lang/invoke/VarHandle" ∧ (parseMethodDescriptor y_R_suppress.desc).map (fun d => d.parameters.length) = some 3 := by decide +kernel
theorem pd_R_supertypes : y_R_supertypes.cls = "CompatibilityJudgeModel" ∧ y_R_supertypes.cls ≠ "java/lang/invoke/MethodHandle" ∧ y_R_supertypes.cls ≠ "java/lang/invoke/VarHandle" ∧ (parseMethodDescriptor y_R_supertypes.desc).map (fun d => d.parameters.length) = some 2 := by decide +kernel
theorem pd_R_set : y_R_set.cls = "CompatibilityJudgeModel" ∧ y_R_set.cls ≠ "java/lang/invoke/MethodHandle" ∧ y_R_set.cls ≠ "java/lang/invoke/VarHandle" ∧ (parseMethodDescriptor y_R_set.desc).map (fun d => d.parameters.length) = some 2 := by decide +kernel
theorem pd_R_direct : y_R_direct.cls = "CompatibilityJudgeModel" ∧ y_R_direct.cls ≠ "java/lang/invoke/MethodHandle" ∧ y_R_direct.cls ≠ "java/lang/invoke/VarHandle" ∧ (parseMethodDescriptor y_R_direct.desc).map (fun d => d.parameters.length) = some 3 := by decide +kernel
theorem pd_R_look : y_R_look.cls = "CompatibilityJudgeModel" ∧ y_R_look.cls ≠ "java/lang/invoke/MethodHandle" ∧ y_R_look.cls ≠ "java/lang/invoke/VarHandle" ∧ (parseMethodDescriptor y_R_look.desc).map (fun d => d.parameters.length) = some 4 := by decide +kernel
theorem pd_R_find : y_R_find.cls = "CompatibilityJudgeModel" ∧ y_R_find.cls ≠ "java/lang/invoke/MethodHandle" ∧ y_R_find.cls ≠ "java/lang/invoke/VarHandle" ∧ (parseMethodDescriptor y_R_find.desc).map (fun d => d.parameters.length) = some 4 := by decide +kernel
theorem pd_R_field : y_R_field.cls = "CompatibilityJudgeModel" ∧ y_R_field.cls ≠ "java/lang/invoke/MethodHandle" ∧ y_R_field.cls ≠ "java/lang/invoke/VarHandle" ∧ (parseMethodDescriptor y_R_field.desc).map (fun d => d.parameters.length) = some 3 := by decide +kernel
theorem pd_R_is : y_R_is.cls = "CompatibilityJudgeModel" ∧ y_R_is.cls ≠ "java/lang/invoke/MethodHandle" ∧ y_R_is.cls ≠ "java/lang/invoke/VarHandle" ∧ (parseMethodDescriptor y_R_is.desc).map (fun d => d.parameters.length) = some 3 := by decide +kernel
theorem pd_R_method : y_R_method.cls = "CompatibilityJudgeModel" ∧ y_R_method.cls ≠ "java/lang/invoke/MethodHandle" ∧ y_R_method.cls ≠ "java/lang/invoke/VarHandle" ∧ (parseMethodDescriptor y_R_method.desc).map (fun d => d.parameters.length) = some 3 := by decide +kernel
theorem pd_R_above : y_R_above.cls = "CompatibilityJudgeModel" ∧ y_R_above.cls ≠ "java/lang/invoke/MethodHandle" ∧ y_R_above.cls ≠ "java/lang/invoke/VarHandle" ∧ (parseMethodDescriptor y_R_above.desc).map (fun d => d.parameters.length) = some 3 := by decide +kernel
theorem pd_R_findings : y_R_findings.cls = "CompatibilityJudgeModel" ∧ y_R_findings.cls ≠ "java/lang/invoke/MethodHandle" ∧ y_R_findings.cls ≠ "java/lang/invoke/VarHandle" ∧ (parseMethodDescriptor y_R_findings.desc).map (fun d => d.parameters.length) = some 0 := by decide +kernel
theorem pd_R_all : y_R_all.cls = "CompatibilityJudgeModel" ∧ y_R_all.cls ≠ "java/lang/invoke/MethodHandle" ∧ y_R_all.cls ≠ "java/lang/invoke/VarHandle" ∧ (parseMethodDescriptor y_R_all.desc).map (fun d => d.parameters.length) = some 1 := by decide +kernel
theorem pd_R_judge : y_R_judge.cls = "CompatibilityJudgeModel" ∧ y_R_judge.cls ≠ "java/lang/invoke/MethodHandle" ∧ y_R_judge.cls ≠ "java/lang/invoke/VarHandle" ∧ (parseMethodDescriptor y_R_judge.desc).map (fun d => d.parameters.length) = some 1 := by decide +kernel
theorem pd_R_tell : y_R_tell.cls = "CompatibilityJudgeModel" ∧ y_R_tell.cls ≠ "java/lang/invoke/MethodHandle" ∧ y_R_tell.cls ≠ "java/lang/invoke/VarHandle" ∧ (parseMethodDescriptor y_R_tell.desc).map (fun d => d.parameters.length) = some 3 := by decide +kernel
theorem pd_R_severity : y_R_severity.cls = "CompatibilityJudgeModel" ∧ y_R_severity.cls ≠ "java/lang/invoke/MethodHandle" ∧ y_R_severity.cls ≠ "java/lang/invoke/VarHandle" ∧ (parseMethodDescriptor y_R_severity.desc).map (fun d => d.parameters.length) = some 1 := by decide +kernel
theorem pd_R_members : y_R_members.cls = "CompatibilityJudgeModel" ∧ y_R_members.cls ≠ "java/lang/invoke/MethodHandle" ∧ y_R_members.cls ≠ "java/lang/invoke/VarHandle" ∧ (parseMethodDescriptor y_R_members.desc).map (fun d => d.parameters.length) = some 2 := by decide +kernel
theorem pd_R_breaks : y_R_breaks.cls = "CompatibilityJudgeModel" ∧ y_R_breaks.cls ≠ "java/lang/invoke/MethodHandle" ∧ y_R_breaks.cls ≠ "java/lang/invoke/VarHandle" ∧ (parseMethodDescriptor y_R_breaks.desc).map (fun d => d.parameters.length) = some 4 := by decide +kernel
theorem pd_R_added : y_R_added.cls = "CompatibilityJudgeModel" ∧ y_R_added.cls ≠ "java/lang/invoke/MethodHandle" ∧ y_R_added.cls ≠ "java/lang/invoke/VarHandle" ∧ (parseMethodDescriptor y_R_added.desc).map (fun d => d.parameters.length) = some 2 := by decide +kernel
theorem pd_R_finding : y_R_finding.cls = "CompatibilityJudgeModel" ∧ y_R_finding.cls ≠ "java/lang/invoke/MethodHandle" ∧ y_R_finding.cls ≠ "java/lang/invoke/VarHandle" ∧ (parseMethodDescriptor y_R_finding.desc).map (fun d => d.parameters.length) = some 2 := by decide +kernel
theorem pd_R_verdict : y_R_verdict.cls = "CompatibilityJudgeModel" ∧ y_R_verdict.cls ≠ "java/lang/invoke/MethodHandle" ∧ y_R_verdict.cls ≠ "java/lang/invoke/VarHandle" ∧ (parseMethodDescriptor y_R_verdict.desc).map (fun d => d.parameters.length) = some 0 := by decide +kernel
theorem pd_R_byRule : y_R_byRule.cls = "CompatibilityJudgeModel" ∧ y_R_byRule.cls ≠ "java/lang/invoke/MethodHandle" ∧ y_R_byRule.cls ≠ "java/lang/invoke/VarHandle" ∧ (parseMethodDescriptor y_R_byRule.desc).map (fun d => d.parameters.length) = some 1 := by decide +kernel
/-- the classes whose objects the memory holds -/
abbrev zCl : List vw_C := [("CompatibilityJudge", uT_J, 3), ("CompatibilityJudge$Baseline", uT_B, 2), ("CompatibilityJudge$Comparison", uT_C, 6), ("CompatibilityJudge$Type", uT_T, 10), ("CompatibilityJudge$Member", uT_M, 5), ("CompatibilityJudgeModel", uT_R, 22)]
end
section
theorem d_J_init_0 : decode b_J_init 0 = .ok (.aload_n 0, 1) := by decide +kernel
theorem d_J_init_1 : decode b_J_init 1 = .ok (.invokespecial 3, 3) := by decide +kernel
theorem d_J_init_4 : decode b_J_init 4 = .ok (.aload_n 0, 1) := by decide +kernel
theorem d_J_init_5 : decode b_J_init 5 = .ok (.iconst 2, 1) := by decide +kernel
theorem d_J_init_6 : decode b_J_init 6 = .ok (.anewarray 9, 3) := by decide +kernel
theorem d_J_init_9 : decode b_J_init 9 = .ok (.dup, 1) := by decide +kernel
theorem d_J_init_10 : decode b_J_init 10 = .ok (.iconst 0, 1) := by decide +kernel
theorem d_J_init_11 : decode b_J_init 11 = .ok (.new 9, 3) := by decide +kernel
theorem d_J_init_14 : decode b_J_init 14 = .ok (.dup, 1) := by decide +kernel
theorem d_J_init_15 : decode b_J_init 15 = .ok (.invokespecial 11, 3) := by decide +kernel
theorem d_J_init_18 : decode b_J_init 18 = .ok (.aastore, 1) := by decide +kernel
theorem d_J_init_19 : decode b_J_init 19 = .ok (.dup, 1) := by decide +kernel
theorem d_J_init_20 : decode b_J_init 20 = .ok (.iconst 1, 1) := by decide +kernel
theorem d_J_init_21 : decode b_J_init 21 = .ok (.new 9, 3) := by decide +kernel
theorem d_J_init_24 : decode b_J_init 24 = .ok (.dup, 1) := by decide +kernel
theorem d_J_init_25 : decode b_J_init 25 = .ok (.invokespecial 11, 3) := by decide +kernel
theorem d_J_init_28 : decode b_J_init 28 = .ok (.aastore, 1) := by decide +kernel
theorem d_J_init_29 : decode b_J_init 29 = .ok (.putfield 12, 3) := by decide +kernel
theorem d_J_init_32 : decode b_J_init 32 = .ok (.aload_n 0, 1) := by decide +kernel
theorem d_J_init_33 : decode b_J_init 33 = .ok (.new 16, 3) := by decide +kernel
theorem d_J_init_36 : decode b_J_init 36 = .ok (.dup, 1) := by decide +kernel
theorem d_J_init_37 : decode b_J_init 37 = .ok (.invokespecial 18, 3) := by decide +kernel
theorem d_J_init_40 : decode b_J_init 40 = .ok (.putfield 19, 3) := by decide +kernel
theorem d_J_init_43 : decode b_J_init 43 = .ok (.aload_n 0, 1) := by decide +kernel
theorem d_J_init_44 : decode b_J_init 44 = .ok (.bipush 14, 2) := by decide +kernel
theorem d_J_init_46 : decode b_J_init 46 = .ok (.newarray .int, 2) := by decide +kernel
theorem d_J_init_48 : decode b_J_init 48 = .ok (.putfield 23, 3) := by decide +kernel
theorem d_J_init_51 : decode b_J_init 51 = .ok (.return_, 1) := by decide +kernel
theorem d_J_type_0 : decode b_J_type 0 = .ok (.iload_n 1, 1) := by decide +kernel
theorem d_J_type_1 : decode b_J_type 1 = .ok (.iload_n 2, 1) := by decide +kernel
theorem d_J_type_2 : decode b_J_type 2 = .ok (.invokestatic 27, 3) := by decide +kernel
theorem d_J_type_5 : decode b_J_type 5 = .ok (.ifCond .eq 37, 3) := by decide +kernel
theorem d_J_type_8 : decode b_J_type 8 = .ok (.iload_n 3, 1) := by decide +kernel
theorem d_J_type_9 : decode b_J_type 9 = .ok (.iconst 2, 1) := by decide +kernel
theorem d_J_type_10 : decode b_J_type 10 = .ok (.invokestatic 31, 3) := by decide +kernel
theorem d_J_type_13 : decode b_J_type 13 = .ok (.ifCond .eq 29, 3) := by decide +kernel
theorem d_J_type_16 : decode b_J_type 16 = .ok (.iload 4, 2) := by decide +kernel
theorem d_J_type_18 : decode b_J_type 18 = .ok (.bipush 8, 2) := by decide +kernel
theorem d_J_type_20 : decode b_J_type 20 = .ok (.invokestatic 31, 3) := by decide +kernel
theorem d_J_type_23 : decode b_J_type 23 = .ok (.ifCond .eq 19, 3) := by decide +kernel
theorem d_J_type_26 : decode b_J_type 26 = .ok (.iload 5, 2) := by decide +kernel
theorem d_J_type_28 : decode b_J_type 28 = .ok (.iconst (-1), 1) := by decide +kernel
theorem d_J_type_29 : decode b_J_type 29 = .ok (.if_icmp .eq 15, 3) := by decide +kernel
theorem d_J_type_32 : decode b_J_type 32 = .ok (.iload 5, 2) := by decide +kernel
theorem d_J_type_34 : decode b_J_type 34 = .ok (.bipush 12, 2) := by decide +kernel
theorem d_J_type_36 : decode b_J_type 36 = .ok (.invokestatic 31, 3) := by decide +kernel
theorem d_J_type_39 : decode b_J_type 39 = .ok (.ifCond .ne 5, 3) := by decide +kernel
theorem d_J_type_42 : decode b_J_type 42 = .ok (.iconst (-1), 1) := by decide +kernel
theorem d_J_type_43 : decode b_J_type 43 = .ok (.ireturn, 1) := by decide +kernel
theorem d_J_type_44 : decode b_J_type 44 = .ok (.aload_n 0, 1) := by decide +kernel
theorem d_J_type_45 : decode b_J_type 45 = .ok (.getfield 12, 3) := by decide +kernel
theorem d_J_type_48 : decode b_J_type 48 = .ok (.iload_n 1, 1) := by decide +kernel
theorem d_J_type_49 : decode b_J_type 49 = .ok (.aaload, 1) := by decide +kernel
theorem d_J_type_50 : decode b_J_type 50 = .ok (.astore 6, 2) := by decide +kernel
theorem d_J_type_52 : decode b_J_type 52 = .ok (.aload 6, 2) := by decide +kernel
theorem d_J_type_54 : decode b_J_type 54 = .ok (.getfield 34, 3) := by decide +kernel
theorem d_J_type_57 : decode b_J_type 57 = .ok (.iload_n 2, 1) := by decide +kernel
theorem d_J_type_58 : decode b_J_type 58 = .ok (.aaload, 1) := by decide +kernel
theorem d_J_type_59 : decode b_J_type 59 = .ok (.getfield 38, 3) := by decide +kernel
theorem d_J_type_62 : decode b_J_type 62 = .ok (.ifCond .ne 20, 3) := by decide +kernel
theorem d_J_type_65 : decode b_J_type 65 = .ok (.iload 5, 2) := by decide +kernel
theorem d_J_type_67 : decode b_J_type 67 = .ok (.iload_n 2, 1) := by decide +kernel
theorem d_J_type_68 : decode b_J_type 68 = .ok (.if_icmp .ge 14, 3) := by decide +kernel
theorem d_J_type_71 : decode b_J_type 71 = .ok (.iload_n 3, 1) := by decide +kernel
theorem d_J_type_72 : decode b_J_type 72 = .ok (.iload 4, 2) := by decide +kernel
theorem d_J_type_74 : decode b_J_type 74 = .ok (.iload 5, 2) := by decide +kernel
theorem d_J_type_76 : decode b_J_type 76 = .ok (.invokestatic 44, 3) := by decide +kernel
theorem d_J_type_79 : decode b_J_type 79 = .ok (.ifCond .ne 5, 3) := by decide +kernel
theorem d_J_type_82 : decode b_J_type 82 = .ok (.iconst (-1), 1) := by decide +kernel
theorem d_J_type_83 : decode b_J_type 83 = .ok (.ireturn, 1) := by decide +kernel
theorem d_J_type_84 : decode b_J_type 84 = .ok (.aload 6, 2) := by decide +kernel
theorem d_J_type_86 : decode b_J_type 86 = .ok (.getfield 34, 3) := by decide +kernel
theorem d_J_type_89 : decode b_J_type 89 = .ok (.iload_n 2, 1) := by decide +kernel
theorem d_J_type_90 : decode b_J_type 90 = .ok (.aaload, 1) := by decide +kernel
theorem d_J_type_91 : decode b_J_type 91 = .ok (.iload_n 3, 1) := by decide +kernel
theorem d_J_type_92 : decode b_J_type 92 = .ok (.iload 4, 2) := by decide +kernel
theorem d_J_type_94 : decode b_J_type 94 = .ok (.iload 5, 2) := by decide +kernel
theorem d_J_type_96 : decode b_J_type 96 = .ok (.invokevirtual 48, 3) := by decide +kernel
theorem d_J_type_99 : decode b_J_type 99 = .ok (.aload 6, 2) := by decide +kernel
theorem d_J_type_101 : decode b_J_type 101 = .ok (.invokevirtual 52, 3) := by decide +kernel
theorem d_J_type_104 : decode b_J_type 104 = .ok (.aload_n 0, 1) := by decide +kernel
theorem d_J_type_105 : decode b_J_type 105 = .ok (.getfield 19, 3) := by decide +kernel
theorem d_J_type_108 : decode b_J_type 108 = .ok (.iconst 1, 1) := by decide +kernel
theorem d_J_type_109 : decode b_J_type 109 = .ok (.putfield 55, 3) := by decide +kernel
theorem d_J_type_112 : decode b_J_type 112 = .ok (.iconst 1, 1) := by decide +kernel
theorem d_J_type_113 : decode b_J_type 113 = .ok (.ireturn, 1) := by decide +kernel
theorem d_J_implement_0 : decode b_J_implement 0 = .ok (.iload_n 1, 1) := by decide +kernel
theorem d_J_implement_1 : decode b_J_implement 1 = .ok (.iload_n 2, 1) := by decide +kernel
theorem d_J_implement_2 : decode b_J_implement 2 = .ok (.invokestatic 27, 3) := by decide +kernel
theorem d_J_implement_5 : decode b_J_implement 5 = .ok (.ifCond .eq 17, 3) := by decide +kernel
theorem d_J_implement_8 : decode b_J_implement 8 = .ok (.iload_n 3, 1) := by decide +kernel
theorem d_J_implement_9 : decode b_J_implement 9 = .ok (.bipush 12, 2) := by decide +kernel
theorem d_J_implement_11 : decode b_J_implement 11 = .ok (.invokestatic 31, 3) := by decide +kernel
theorem d_J_implement_14 : decode b_J_implement 14 = .ok (.ifCond .eq 8, 3) := by decide +kernel
theorem d_J_implement_17 : decode b_J_implement 17 = .ok (.iload_n 3, 1) := by decide +kernel
theorem d_J_implement_18 : decode b_J_implement 18 = .ok (.iload_n 2, 1) := by decide +kernel
theorem d_J_implement_19 : decode b_J_implement 19 = .ok (.if_icmp .lt 5, 3) := by decide +kernel
theorem d_J_implement_22 : decode b_J_implement 22 = .ok (.iconst (-1), 1) := by decide +kernel
theorem d_J_implement_23 : decode b_J_implement 23 = .ok (.ireturn, 1) := by decide +kernel
theorem d_J_implement_24 : decode b_J_implement 24 = .ok (.aload_n 0, 1) := by decide +kernel
theorem d_J_implement_25 : decode b_J_implement 25 = .ok (.getfield 12, 3) := by decide +kernel
theorem d_J_implement_28 : decode b_J_implement 28 = .ok (.iload_n 1, 1) := by decide +kernel
theorem d_J_implement_29 : decode b_J_implement 29 = .ok (.aaload, 1) := by decide +kernel
theorem d_J_implement_30 : decode b_J_implement 30 = .ok (.astore 4, 2) := by decide +kernel
theorem d_J_implement_32 : decode b_J_implement 32 = .ok (.aload 4, 2) := by decide +kernel
theorem d_J_implement_34 : decode b_J_implement 34 = .ok (.getfield 34, 3) := by decide +kernel
theorem d_J_implement_37 : decode b_J_implement 37 = .ok (.iload_n 2, 1) := by decide +kernel
theorem d_J_implement_38 : decode b_J_implement 38 = .ok (.aaload, 1) := by decide +kernel
theorem d_J_implement_39 : decode b_J_implement 39 = .ok (.astore 5, 2) := by decide +kernel
theorem d_J_implement_41 : decode b_J_implement 41 = .ok (.aload 5, 2) := by decide +kernel
theorem d_J_implement_43 : decode b_J_implement 43 = .ok (.getfield 38, 3) := by decide +kernel
theorem d_J_implement_46 : decode b_J_implement 46 = .ok (.ifCond .eq 21, 3) := by decide +kernel
theorem d_J_implement_49 : decode b_J_implement 49 = .ok (.aload 5, 2) := by decide +kernel
theorem d_J_implement_51 : decode b_J_implement 51 = .ok (.getfield 58, 3) := by decide +kernel
theorem d_J_implement_54 : decode b_J_implement 54 = .ok (.iconst 3, 1) := by decide +kernel
theorem d_J_implement_55 : decode b_J_implement 55 = .ok (.if_icmp .ge 12, 3) := by decide +kernel
theorem d_J_implement_58 : decode b_J_implement 58 = .ok (.aload 5, 2) := by decide +kernel
theorem d_J_implement_60 : decode b_J_implement 60 = .ok (.iload_n 3, 1) := by decide +kernel
theorem d_J_implement_61 : decode b_J_implement 61 = .ok (.invokevirtual 62, 3) := by decide +kernel
theorem d_J_implement_64 : decode b_J_implement 64 = .ok (.ifCond .eq 5, 3) := by decide +kernel
theorem d_J_implement_67 : decode b_J_implement 67 = .ok (.iconst (-1), 1) := by decide +kernel
theorem d_J_implement_68 : decode b_J_implement 68 = .ok (.ireturn, 1) := by decide +kernel
theorem d_J_implement_69 : decode b_J_implement 69 = .ok (.aload 5, 2) := by decide +kernel
theorem d_J_implement_71 : decode b_J_implement 71 = .ok (.iload_n 3, 1) := by decide +kernel
theorem d_J_implement_72 : decode b_J_implement 72 = .ok (.invokevirtual 66, 3) := by decide +kernel
theorem d_J_implement_75 : decode b_J_implement 75 = .ok (.aload 4, 2) := by decide +kernel
theorem d_J_implement_77 : decode b_J_implement 77 = .ok (.invokevirtual 52, 3) := by decide +kernel
theorem d_J_implement_80 : decode b_J_implement 80 = .ok (.aload_n 0, 1) := by decide +kernel
theorem d_J_implement_81 : decode b_J_implement 81 = .ok (.getfield 19, 3) := by decide +kernel
theorem d_J_implement_84 : decode b_J_implement 84 = .ok (.iconst 1, 1) := by decide +kernel
theorem d_J_implement_85 : decode b_J_implement 85 = .ok (.putfield 55, 3) := by decide +kernel
theorem d_J_implement_88 : decode b_J_implement 88 = .ok (.aload 5, 2) := by decide +kernel
theorem d_J_implement_90 : decode b_J_implement 90 = .ok (.getfield 58, 3) := by decide +kernel
theorem d_J_implement_93 : decode b_J_implement 93 = .ok (.ireturn, 1) := by decide +kernel
theorem d_J_member_0 : decode b_J_member 0 = .ok (.iload_n 1, 1) := by decide +kernel
theorem d_J_member_1 : decode b_J_member 1 = .ok (.iload_n 2, 1) := by decide +kernel
theorem d_J_member_2 : decode b_J_member 2 = .ok (.invokestatic 27, 3) := by decide +kernel
theorem d_J_member_5 : decode b_J_member 5 = .ok (.ifCond .eq 22, 3) := by decide +kernel
theorem d_J_member_8 : decode b_J_member 8 = .ok (.iload_n 3, 1) := by decide +kernel
theorem d_J_member_9 : decode b_J_member 9 = .ok (.iload 4, 2) := by decide +kernel
theorem d_J_member_11 : decode b_J_member 11 = .ok (.invokestatic 70, 3) := by decide +kernel
theorem d_J_member_14 : decode b_J_member 14 = .ok (.ifCond .eq 13, 3) := by decide +kernel
theorem d_J_member_17 : decode b_J_member 17 = .ok (.iload 5, 2) := by decide +kernel
theorem d_J_member_19 : decode b_J_member 19 = .ok (.bipush 32, 2) := by decide +kernel
theorem d_J_member_21 : decode b_J_member 21 = .ok (.invokestatic 31, 3) := by decide +kernel
theorem d_J_member_24 : decode b_J_member 24 = .ok (.ifCond .ne 5, 3) := by decide +kernel
theorem d_J_member_27 : decode b_J_member 27 = .ok (.iconst (-1), 1) := by decide +kernel
theorem d_J_member_28 : decode b_J_member 28 = .ok (.ireturn, 1) := by decide +kernel
theorem d_J_member_29 : decode b_J_member 29 = .ok (.aload_n 0, 1) := by decide +kernel
theorem d_J_member_30 : decode b_J_member 30 = .ok (.getfield 12, 3) := by decide +kernel
theorem d_J_member_33 : decode b_J_member 33 = .ok (.iload_n 1, 1) := by decide +kernel
theorem d_J_member_34 : decode b_J_member 34 = .ok (.aaload, 1) := by decide +kernel
theorem d_J_member_35 : decode b_J_member 35 = .ok (.getfield 34, 3) := by decide +kernel
theorem d_J_member_38 : decode b_J_member 38 = .ok (.iload_n 2, 1) := by decide +kernel
theorem d_J_member_39 : decode b_J_member 39 = .ok (.aaload, 1) := by decide +kernel
theorem d_J_member_40 : decode b_J_member 40 = .ok (.astore 6, 2) := by decide +kernel
theorem d_J_member_42 : decode b_J_member 42 = .ok (.aload 6, 2) := by decide +kernel
theorem d_J_member_44 : decode b_J_member 44 = .ok (.getfield 38, 3) := by decide +kernel
theorem d_J_member_47 : decode b_J_member 47 = .ok (.ifCond .eq 51, 3) := by decide +kernel
theorem d_J_member_50 : decode b_J_member 50 = .ok (.aload 6, 2) := by decide +kernel
theorem d_J_member_52 : decode b_J_member 52 = .ok (.getfield 73, 3) := by decide +kernel
theorem d_J_member_55 : decode b_J_member 55 = .ok (.bipush 8, 2) := by decide +kernel
theorem d_J_member_57 : decode b_J_member 57 = .ok (.if_icmp .ge 41, 3) := by decide +kernel
theorem d_J_member_60 : decode b_J_member 60 = .ok (.aload 6, 2) := by decide +kernel
theorem d_J_member_62 : decode b_J_member 62 = .ok (.iload_n 3, 1) := by decide +kernel
theorem d_J_member_63 : decode b_J_member 63 = .ok (.iload 4, 2) := by decide +kernel
theorem d_J_member_65 : decode b_J_member 65 = .ok (.invokevirtual 76, 3) := by decide +kernel
theorem d_J_member_68 : decode b_J_member 68 = .ok (.ifnonnull 30, 3) := by decide +kernel
theorem d_J_member_71 : decode b_J_member 71 = .ok (.iload_n 3, 1) := by decide +kernel
theorem d_J_member_72 : decode b_J_member 72 = .ok (.iload 5, 2) := by decide +kernel
theorem d_J_member_74 : decode b_J_member 74 = .ok (.invokestatic 80, 3) := by decide +kernel
theorem d_J_member_77 : decode b_J_member 77 = .ok (.ifCond .eq 21, 3) := by decide +kernel
theorem d_J_member_80 : decode b_J_member 80 = .ok (.aload 6, 2) := by decide +kernel
theorem d_J_member_82 : decode b_J_member 82 = .ok (.getfield 83, 3) := by decide +kernel
theorem d_J_member_85 : decode b_J_member 85 = .ok (.iconst 1, 1) := by decide +kernel
theorem d_J_member_86 : decode b_J_member 86 = .ok (.if_icmp .ne 14, 3) := by decide +kernel
theorem d_J_member_89 : decode b_J_member 89 = .ok (.iload_n 3, 1) := by decide +kernel
theorem d_J_member_90 : decode b_J_member 90 = .ok (.iload 5, 2) := by decide +kernel
theorem d_J_member_92 : decode b_J_member 92 = .ok (.invokestatic 86, 3) := by decide +kernel
theorem d_J_member_95 : decode b_J_member 95 = .ok (.ifCond .ne 5, 3) := by decide +kernel
theorem d_J_member_98 : decode b_J_member 98 = .ok (.iconst (-1), 1) := by decide +kernel
theorem d_J_member_99 : decode b_J_member 99 = .ok (.ireturn, 1) := by decide +kernel
theorem d_J_member_100 : decode b_J_member 100 = .ok (.aload 6, 2) := by decide +kernel
theorem d_J_member_102 : decode b_J_member 102 = .ok (.iload_n 3, 1) := by decide +kernel
theorem d_J_member_103 : decode b_J_member 103 = .ok (.iload 4, 2) := by decide +kernel
theorem d_J_member_105 : decode b_J_member 105 = .ok (.iload 5, 2) := by decide +kernel
theorem d_J_member_107 : decode b_J_member 107 = .ok (.invokevirtual 89, 3) := by decide +kernel
theorem d_J_member_110 : decode b_J_member 110 = .ok (.aload_n 0, 1) := by decide +kernel
theorem d_J_member_111 : decode b_J_member 111 = .ok (.getfield 19, 3) := by decide +kernel
theorem d_J_member_114 : decode b_J_member 114 = .ok (.iconst 1, 1) := by decide +kernel
theorem d_J_member_115 : decode b_J_member 115 = .ok (.putfield 55, 3) := by decide +kernel
theorem d_J_member_118 : decode b_J_member 118 = .ok (.aload 6, 2) := by decide +kernel
theorem d_J_member_120 : decode b_J_member 120 = .ok (.getfield 73, 3) := by decide +kernel
theorem d_J_member_123 : decode b_J_member 123 = .ok (.iconst 1, 1) := by decide +kernel
theorem d_J_member_124 : decode b_J_member 124 = .ok (.isub, 1) := by decide +kernel
theorem d_J_member_125 : decode b_J_member 125 = .ok (.ireturn, 1) := by decide +kernel
theorem d_J_constant_0 : decode b_J_constant 0 = .ok (.aload_n 0, 1) := by decide +kernel
theorem d_J_constant_1 : decode b_J_constant 1 = .ok (.iload_n 1, 1) := by decide +kernel
theorem d_J_constant_2 : decode b_J_constant 2 = .ok (.iload_n 2, 1) := by decide +kernel
theorem d_J_constant_3 : decode b_J_constant 3 = .ok (.iload_n 3, 1) := by decide +kernel
theorem d_J_constant_4 : decode b_J_constant 4 = .ok (.invokevirtual 92, 3) := by decide +kernel
theorem d_J_constant_7 : decode b_J_constant 7 = .ok (.ifCond .ne 5, 3) := by decide +kernel
theorem d_J_constant_10 : decode b_J_constant 10 = .ok (.iconst (-1), 1) := by decide +kernel
theorem d_J_constant_11 : decode b_J_constant 11 = .ok (.ireturn, 1) := by decide +kernel
theorem d_J_constant_12 : decode b_J_constant 12 = .ok (.aload_n 0, 1) := by decide +kernel
theorem d_J_constant_13 : decode b_J_constant 13 = .ok (.getfield 12, 3) := by decide +kernel
theorem d_J_constant_16 : decode b_J_constant 16 = .ok (.iload_n 1, 1) := by decide +kernel
theorem d_J_constant_17 : decode b_J_constant 17 = .ok (.aaload, 1) := by decide +kernel
theorem d_J_constant_18 : decode b_J_constant 18 = .ok (.getfield 34, 3) := by decide +kernel
theorem d_J_constant_21 : decode b_J_constant 21 = .ok (.iload_n 2, 1) := by decide +kernel
theorem d_J_constant_22 : decode b_J_constant 22 = .ok (.aaload, 1) := by decide +kernel
theorem d_J_constant_23 : decode b_J_constant 23 = .ok (.getfield 95, 3) := by decide +kernel
theorem d_J_constant_26 : decode b_J_constant 26 = .ok (.iload_n 3, 1) := by decide +kernel
theorem d_J_constant_27 : decode b_J_constant 27 = .ok (.aaload, 1) := by decide +kernel
theorem d_J_constant_28 : decode b_J_constant 28 = .ok (.astore 5, 2) := by decide +kernel
theorem d_J_constant_30 : decode b_J_constant 30 = .ok (.aload 5, 2) := by decide +kernel
theorem d_J_constant_32 : decode b_J_constant 32 = .ok (.getfield 99, 3) := by decide +kernel
theorem d_J_constant_35 : decode b_J_constant 35 = .ok (.ifCond .eq 5, 3) := by decide +kernel
theorem d_J_constant_38 : decode b_J_constant 38 = .ok (.iconst (-1), 1) := by decide +kernel
theorem d_J_constant_39 : decode b_J_constant 39 = .ok (.ireturn, 1) := by decide +kernel
theorem d_J_constant_40 : decode b_J_constant 40 = .ok (.aload 5, 2) := by decide +kernel
theorem d_J_constant_42 : decode b_J_constant 42 = .ok (.getfield 102, 3) := by decide +kernel
theorem d_J_constant_45 : decode b_J_constant 45 = .ok (.ifCond .eq 7, 3) := by decide +kernel
theorem d_J_constant_48 : decode b_J_constant 48 = .ok (.iconst 1, 1) := by decide +kernel
theorem d_J_constant_49 : decode b_J_constant 49 = .ok (.goto 4, 3) := by decide +kernel
theorem d_J_constant_52 : decode b_J_constant 52 = .ok (.iconst 0, 1) := by decide +kernel
theorem d_J_constant_53 : decode b_J_constant 53 = .ok (.istore 6, 2) := by decide +kernel
theorem d_J_constant_55 : decode b_J_constant 55 = .ok (.aload 5, 2) := by decide +kernel
theorem d_J_constant_57 : decode b_J_constant 57 = .ok (.iconst 1, 1) := by decide +kernel
theorem d_J_constant_58 : decode b_J_constant 58 = .ok (.putfield 102, 3) := by decide +kernel
theorem d_J_constant_61 : decode b_J_constant 61 = .ok (.aload 5, 2) := by decide +kernel
theorem d_J_constant_63 : decode b_J_constant 63 = .ok (.iload 4, 2) := by decide +kernel
theorem d_J_constant_65 : decode b_J_constant 65 = .ok (.putfield 105, 3) := by decide +kernel
theorem d_J_constant_68 : decode b_J_constant 68 = .ok (.aload_n 0, 1) := by decide +kernel
theorem d_J_constant_69 : decode b_J_constant 69 = .ok (.getfield 19, 3) := by decide +kernel
theorem d_J_constant_72 : decode b_J_constant 72 = .ok (.iconst 1, 1) := by decide +kernel
theorem d_J_constant_73 : decode b_J_constant 73 = .ok (.putfield 55, 3) := by decide +kernel
theorem d_J_constant_76 : decode b_J_constant 76 = .ok (.iload 6, 2) := by decide +kernel
theorem d_J_constant_78 : decode b_J_constant 78 = .ok (.ireturn, 1) := by decide +kernel
theorem d_J_remove_0 : decode b_J_remove 0 = .ok (.iload_n 1, 1) := by decide +kernel
theorem d_J_remove_1 : decode b_J_remove 1 = .ok (.iload_n 2, 1) := by decide +kernel
theorem d_J_remove_2 : decode b_J_remove 2 = .ok (.invokestatic 27, 3) := by decide +kernel
theorem d_J_remove_5 : decode b_J_remove 5 = .ok (.ifCond .eq 20, 3) := by decide +kernel
theorem d_J_remove_8 : decode b_J_remove 8 = .ok (.aload_n 0, 1) := by decide +kernel
theorem d_J_remove_9 : decode b_J_remove 9 = .ok (.getfield 12, 3) := by decide +kernel
theorem d_J_remove_12 : decode b_J_remove 12 = .ok (.iload_n 1, 1) := by decide +kernel
theorem d_J_remove_13 : decode b_J_remove 13 = .ok (.aaload, 1) := by decide +kernel
theorem d_J_remove_14 : decode b_J_remove 14 = .ok (.getfield 34, 3) := by decide +kernel
theorem d_J_remove_17 : decode b_J_remove 17 = .ok (.iload_n 2, 1) := by decide +kernel
theorem d_J_remove_18 : decode b_J_remove 18 = .ok (.aaload, 1) := by decide +kernel
theorem d_J_remove_19 : decode b_J_remove 19 = .ok (.getfield 38, 3) := by decide +kernel
theorem d_J_remove_22 : decode b_J_remove 22 = .ok (.ifCond .ne 5, 3) := by decide +kernel
theorem d_J_remove_25 : decode b_J_remove 25 = .ok (.iconst (-1), 1) := by decide +kernel
theorem d_J_remove_26 : decode b_J_remove 26 = .ok (.ireturn, 1) := by decide +kernel
theorem d_J_remove_27 : decode b_J_remove 27 = .ok (.aload_n 0, 1) := by decide +kernel
theorem d_J_remove_28 : decode b_J_remove 28 = .ok (.getfield 12, 3) := by decide +kernel
theorem d_J_remove_31 : decode b_J_remove 31 = .ok (.iload_n 1, 1) := by decide +kernel
theorem d_J_remove_32 : decode b_J_remove 32 = .ok (.aaload, 1) := by decide +kernel
theorem d_J_remove_33 : decode b_J_remove 33 = .ok (.getfield 34, 3) := by decide +kernel
theorem d_J_remove_36 : decode b_J_remove 36 = .ok (.iload_n 2, 1) := by decide +kernel
theorem d_J_remove_37 : decode b_J_remove 37 = .ok (.aaload, 1) := by decide +kernel
theorem d_J_remove_38 : decode b_J_remove 38 = .ok (.invokevirtual 108, 3) := by decide +kernel
theorem d_J_remove_41 : decode b_J_remove 41 = .ok (.aload_n 0, 1) := by decide +kernel
theorem d_J_remove_42 : decode b_J_remove 42 = .ok (.getfield 12, 3) := by decide +kernel
theorem d_J_remove_45 : decode b_J_remove 45 = .ok (.iload_n 1, 1) := by decide +kernel
theorem d_J_remove_46 : decode b_J_remove 46 = .ok (.aaload, 1) := by decide +kernel
theorem d_J_remove_47 : decode b_J_remove 47 = .ok (.invokevirtual 52, 3) := by decide +kernel
theorem d_J_remove_50 : decode b_J_remove 50 = .ok (.aload_n 0, 1) := by decide +kernel
theorem d_J_remove_51 : decode b_J_remove 51 = .ok (.getfield 19, 3) := by decide +kernel
theorem d_J_remove_54 : decode b_J_remove 54 = .ok (.iconst 1, 1) := by decide +kernel
theorem d_J_remove_55 : decode b_J_remove 55 = .ok (.putfield 55, 3) := by decide +kernel
theorem d_J_remove_58 : decode b_J_remove 58 = .ok (.iconst 1, 1) := by decide +kernel
theorem d_J_remove_59 : decode b_J_remove 59 = .ok (.ireturn, 1) := by decide +kernel
theorem d_J_drop_0 : decode b_J_drop 0 = .ok (.aload_n 0, 1) := by decide +kernel
theorem d_J_drop_1 : decode b_J_drop 1 = .ok (.iload_n 1, 1) := by decide +kernel
theorem d_J_drop_2 : decode b_J_drop 2 = .ok (.iload_n 2, 1) := by decide +kernel
theorem d_J_drop_3 : decode b_J_drop 3 = .ok (.iload_n 3, 1) := by decide +kernel
theorem d_J_drop_4 : decode b_J_drop 4 = .ok (.invokevirtual 92, 3) := by decide +kernel
theorem d_J_drop_7 : decode b_J_drop 7 = .ok (.ifCond .ne 5, 3) := by decide +kernel
theorem d_J_drop_10 : decode b_J_drop 10 = .ok (.iconst (-1), 1) := by decide +kernel
theorem d_J_drop_11 : decode b_J_drop 11 = .ok (.ireturn, 1) := by decide +kernel
theorem d_J_drop_12 : decode b_J_drop 12 = .ok (.aload_n 0, 1) := by decide +kernel
theorem d_J_drop_13 : decode b_J_drop 13 = .ok (.getfield 12, 3) := by decide +kernel
theorem d_J_drop_16 : decode b_J_drop 16 = .ok (.iload_n 1, 1) := by decide +kernel
theorem d_J_drop_17 : decode b_J_drop 17 = .ok (.aaload, 1) := by decide +kernel
theorem d_J_drop_18 : decode b_J_drop 18 = .ok (.getfield 34, 3) := by decide +kernel
theorem d_J_drop_21 : decode b_J_drop 21 = .ok (.iload_n 2, 1) := by decide +kernel
theorem d_J_drop_22 : decode b_J_drop 22 = .ok (.aaload, 1) := by decide +kernel
theorem d_J_drop_23 : decode b_J_drop 23 = .ok (.astore 4, 2) := by decide +kernel
theorem d_J_drop_25 : decode b_J_drop 25 = .ok (.aload 4, 2) := by decide +kernel
theorem d_J_drop_27 : decode b_J_drop 27 = .ok (.iload_n 3, 1) := by decide +kernel
theorem d_J_drop_28 : decode b_J_drop 28 = .ok (.invokevirtual 111, 3) := by decide +kernel
theorem d_J_drop_31 : decode b_J_drop 31 = .ok (.aload_n 0, 1) := by decide +kernel
theorem d_J_drop_32 : decode b_J_drop 32 = .ok (.getfield 19, 3) := by decide +kernel
theorem d_J_drop_35 : decode b_J_drop 35 = .ok (.iconst 1, 1) := by decide +kernel
theorem d_J_drop_36 : decode b_J_drop 36 = .ok (.putfield 55, 3) := by decide +kernel
theorem d_J_drop_39 : decode b_J_drop 39 = .ok (.aload 4, 2) := by decide +kernel
theorem d_J_drop_41 : decode b_J_drop 41 = .ok (.getfield 73, 3) := by decide +kernel
theorem d_J_drop_44 : decode b_J_drop 44 = .ok (.ireturn, 1) := by decide +kernel
theorem d_J_copy_0 : decode b_J_copy 0 = .ok (.aload_n 0, 1) := by decide +kernel
theorem d_J_copy_1 : decode b_J_copy 1 = .ok (.getfield 12, 3) := by decide +kernel
theorem d_J_copy_4 : decode b_J_copy 4 = .ok (.iconst 1, 1) := by decide +kernel
theorem d_J_copy_5 : decode b_J_copy 5 = .ok (.aaload, 1) := by decide +kernel
theorem d_J_copy_6 : decode b_J_copy 6 = .ok (.aload_n 0, 1) := by decide +kernel
theorem d_J_copy_7 : decode b_J_copy 7 = .ok (.getfield 12, 3) := by decide +kernel
theorem d_J_copy_10 : decode b_J_copy 10 = .ok (.iconst 0, 1) := by decide +kernel
theorem d_J_copy_11 : decode b_J_copy 11 = .ok (.aaload, 1) := by decide +kernel
theorem d_J_copy_12 : decode b_J_copy 12 = .ok (.invokevirtual 114, 3) := by decide +kernel
theorem d_J_copy_15 : decode b_J_copy 15 = .ok (.aload_n 0, 1) := by decide +kernel
theorem d_J_copy_16 : decode b_J_copy 16 = .ok (.getfield 19, 3) := by decide +kernel
theorem d_J_copy_19 : decode b_J_copy 19 = .ok (.iconst 1, 1) := by decide +kernel
theorem d_J_copy_20 : decode b_J_copy 20 = .ok (.putfield 55, 3) := by decide +kernel
theorem d_J_copy_23 : decode b_J_copy 23 = .ok (.aload_n 0, 1) := by decide +kernel
theorem d_J_copy_24 : decode b_J_copy 24 = .ok (.getfield 12, 3) := by decide +kernel
theorem d_J_copy_27 : decode b_J_copy 27 = .ok (.iconst 1, 1) := by decide +kernel
theorem d_J_copy_28 : decode b_J_copy 28 = .ok (.aaload, 1) := by decide +kernel
theorem d_J_copy_29 : decode b_J_copy 29 = .ok (.invokevirtual 118, 3) := by decide +kernel
theorem d_J_copy_32 : decode b_J_copy 32 = .ok (.ireturn, 1) := by decide +kernel
theorem d_J_swap_0 : decode b_J_swap 0 = .ok (.aload_n 0, 1) := by decide +kernel
theorem d_J_swap_1 : decode b_J_swap 1 = .ok (.getfield 12, 3) := by decide +kernel
theorem d_J_swap_4 : decode b_J_swap 4 = .ok (.iconst 0, 1) := by decide +kernel
theorem d_J_swap_5 : decode b_J_swap 5 = .ok (.aaload, 1) := by decide +kernel
theorem d_J_swap_6 : decode b_J_swap 6 = .ok (.astore_n 1, 1) := by decide +kernel
theorem d_J_swap_7 : decode b_J_swap 7 = .ok (.aload_n 0, 1) := by decide +kernel
theorem d_J_swap_8 : decode b_J_swap 8 = .ok (.getfield 12, 3) := by decide +kernel
theorem d_J_swap_11 : decode b_J_swap 11 = .ok (.iconst 0, 1) := by decide +kernel
theorem d_J_swap_12 : decode b_J_swap 12 = .ok (.aload_n 0, 1) := by decide +kernel
theorem d_J_swap_13 : decode b_J_swap 13 = .ok (.getfield 12, 3) := by decide +kernel
theorem d_J_swap_16 : decode b_J_swap 16 = .ok (.iconst 1, 1) := by decide +kernel
theorem d_J_swap_17 : decode b_J_swap 17 = .ok (.aaload, 1) := by decide +kernel
theorem d_J_swap_18 : decode b_J_swap 18 = .ok (.aastore, 1) := by decide +kernel
theorem d_J_swap_19 : decode b_J_swap 19 = .ok (.aload_n 0, 1) := by decide +kernel
theorem d_J_swap_20 : decode b_J_swap 20 = .ok (.getfield 12, 3) := by decide +kernel
theorem d_J_swap_23 : decode b_J_swap 23 = .ok (.iconst 1, 1) := by decide +kernel
theorem d_J_swap_24 : decode b_J_swap 24 = .ok (.aload_n 1, 1) := by decide +kernel
theorem d_J_swap_25 : decode b_J_swap 25 = .ok (.aastore, 1) := by decide +kernel
theorem d_J_swap_26 : decode b_J_swap 26 = .ok (.aload_n 0, 1) := by decide +kernel
theorem d_J_swap_27 : decode b_J_swap 27 = .ok (.getfield 19, 3) := by decide +kernel
theorem d_J_swap_30 : decode b_J_swap 30 = .ok (.iconst 1, 1) := by decide +kernel
theorem d_J_swap_31 : decode b_J_swap 31 = .ok (.putfield 55, 3) := by decide +kernel
theorem d_J_swap_34 : decode b_J_swap 34 = .ok (.return_, 1) := by decide +kernel
theorem d_J_suppress_0 : decode b_J_suppress 0 = .ok (.iload_n 1, 1) := by decide +kernel
theorem d_J_suppress_1 : decode b_J_suppress 1 = .ok (.bipush 14, 2) := by decide +kernel
theorem d_J_suppress_3 : decode b_J_suppress 3 = .ok (.invokestatic 31, 3) := by decide +kernel
theorem d_J_suppress_6 : decode b_J_suppress 6 = .ok (.ifCond .eq 12, 3) := by decide +kernel
theorem d_J_suppress_9 : decode b_J_suppress 9 = .ok (.iload_n 2, 1) := by decide +kernel
theorem d_J_suppress_10 : decode b_J_suppress 10 = .ok (.bipush 12, 2) := by decide +kernel
theorem d_J_suppress_12 : decode b_J_suppress 12 = .ok (.invokestatic 31, 3) := by decide +kernel
theorem d_J_suppress_15 : decode b_J_suppress 15 = .ok (.ifCond .ne 5, 3) := by decide +kernel
theorem d_J_suppress_18 : decode b_J_suppress 18 = .ok (.iconst (-1), 1) := by decide +kernel
theorem d_J_suppress_19 : decode b_J_suppress 19 = .ok (.ireturn, 1) := by decide +kernel
theorem d_J_suppress_20 : decode b_J_suppress 20 = .ok (.aload_n 0, 1) := by decide +kernel
theorem d_J_suppress_21 : decode b_J_suppress 21 = .ok (.iload_n 1, 1) := by decide +kernel
theorem d_J_suppress_22 : decode b_J_suppress 22 = .ok (.iload_n 2, 1) := by decide +kernel
theorem d_J_suppress_23 : decode b_J_suppress 23 = .ok (.invokevirtual 122, 3) := by decide +kernel
theorem d_J_suppress_26 : decode b_J_suppress 26 = .ok (.iload_n 3, 1) := by decide +kernel
theorem d_J_suppress_27 : decode b_J_suppress 27 = .ok (.if_icmp .ne 5, 3) := by decide +kernel
theorem d_J_suppress_30 : decode b_J_suppress 30 = .ok (.iconst 0, 1) := by decide +kernel
theorem d_J_suppress_31 : decode b_J_suppress 31 = .ok (.ireturn, 1) := by decide +kernel
theorem d_J_suppress_32 : decode b_J_suppress 32 = .ok (.aload_n 0, 1) := by decide +kernel
theorem d_J_suppress_33 : decode b_J_suppress 33 = .ok (.getfield 23, 3) := by decide +kernel
theorem d_J_suppress_36 : decode b_J_suppress 36 = .ok (.iload_n 1, 1) := by decide +kernel
theorem d_J_suppress_37 : decode b_J_suppress 37 = .ok (.aload_n 0, 1) := by decide +kernel
theorem d_J_suppress_38 : decode b_J_suppress 38 = .ok (.getfield 23, 3) := by decide +kernel
theorem d_J_suppress_41 : decode b_J_suppress 41 = .ok (.iload_n 1, 1) := by decide +kernel
theorem d_J_suppress_42 : decode b_J_suppress 42 = .ok (.iaload, 1) := by decide +kernel
theorem d_J_suppress_43 : decode b_J_suppress 43 = .ok (.iconst 1, 1) := by decide +kernel
theorem d_J_suppress_44 : decode b_J_suppress 44 = .ok (.iload_n 2, 1) := by decide +kernel
theorem d_J_suppress_45 : decode b_J_suppress 45 = .ok (.ishl, 1) := by decide +kernel
theorem d_J_suppress_46 : decode b_J_suppress 46 = .ok (.ixor, 1) := by decide +kernel
theorem d_J_suppress_47 : decode b_J_suppress 47 = .ok (.iastore, 1) := by decide +kernel
theorem d_J_suppress_48 : decode b_J_suppress 48 = .ok (.iconst 1, 1) := by decide +kernel
theorem d_J_suppress_49 : decode b_J_suppress 49 = .ok (.ireturn, 1) := by decide +kernel
theorem d_J_supertypes_0 : decode b_J_supertypes 0 = .ok (.iload_n 1, 1) := by decide +kernel
theorem d_J_supertypes_1 : decode b_J_supertypes 1 = .ok (.iload_n 2, 1) := by decide +kernel
theorem d_J_supertypes_2 : decode b_J_supertypes 2 = .ok (.invokestatic 27, 3) := by decide +kernel
theorem d_J_supertypes_5 : decode b_J_supertypes 5 = .ok (.ifCond .ne 5, 3) := by decide +kernel
theorem d_J_supertypes_8 : decode b_J_supertypes 8 = .ok (.iconst (-1), 1) := by decide +kernel
theorem d_J_supertypes_9 : decode b_J_supertypes 9 = .ok (.ireturn, 1) := by decide +kernel
theorem d_J_supertypes_10 : decode b_J_supertypes 10 = .ok (.aload_n 0, 1) := by decide +kernel
theorem d_J_supertypes_11 : decode b_J_supertypes 11 = .ok (.getfield 12, 3) := by decide +kernel
theorem d_J_supertypes_14 : decode b_J_supertypes 14 = .ok (.iload_n 1, 1) := by decide +kernel
theorem d_J_supertypes_15 : decode b_J_supertypes 15 = .ok (.aaload, 1) := by decide +kernel
theorem d_J_supertypes_16 : decode b_J_supertypes 16 = .ok (.getfield 34, 3) := by decide +kernel
theorem d_J_supertypes_19 : decode b_J_supertypes 19 = .ok (.iload_n 2, 1) := by decide +kernel
theorem d_J_supertypes_20 : decode b_J_supertypes 20 = .ok (.aaload, 1) := by decide +kernel
theorem d_J_supertypes_21 : decode b_J_supertypes 21 = .ok (.getfield 125, 3) := by decide +kernel
theorem d_J_supertypes_24 : decode b_J_supertypes 24 = .ok (.ireturn, 1) := by decide +kernel
theorem d_J_look_0 : decode b_J_look 0 = .ok (.iload_n 1, 1) := by decide +kernel
theorem d_J_look_1 : decode b_J_look 1 = .ok (.iload_n 2, 1) := by decide +kernel
theorem d_J_look_2 : decode b_J_look 2 = .ok (.invokestatic 27, 3) := by decide +kernel
theorem d_J_look_5 : decode b_J_look 5 = .ok (.ifCond .eq 12, 3) := by decide +kernel
theorem d_J_look_8 : decode b_J_look 8 = .ok (.iload_n 3, 1) := by decide +kernel
theorem d_J_look_9 : decode b_J_look 9 = .ok (.iload 4, 2) := by decide +kernel
theorem d_J_look_11 : decode b_J_look 11 = .ok (.invokestatic 70, 3) := by decide +kernel
theorem d_J_look_14 : decode b_J_look 14 = .ok (.ifCond .ne 5, 3) := by decide +kernel
theorem d_J_look_17 : decode b_J_look 17 = .ok (.iconst (-1), 1) := by decide +kernel
theorem d_J_look_18 : decode b_J_look 18 = .ok (.ireturn, 1) := by decide +kernel
theorem d_J_look_19 : decode b_J_look 19 = .ok (.aload_n 0, 1) := by decide +kernel
theorem d_J_look_20 : decode b_J_look 20 = .ok (.getfield 12, 3) := by decide +kernel
theorem d_J_look_23 : decode b_J_look 23 = .ok (.iload_n 1, 1) := by decide +kernel
theorem d_J_look_24 : decode b_J_look 24 = .ok (.aaload, 1) := by decide +kernel
theorem d_J_look_25 : decode b_J_look 25 = .ok (.iload_n 2, 1) := by decide +kernel
theorem d_J_look_26 : decode b_J_look 26 = .ok (.iload_n 3, 1) := by decide +kernel
theorem d_J_look_27 : decode b_J_look 27 = .ok (.iload 4, 2) := by decide +kernel
theorem d_J_look_29 : decode b_J_look 29 = .ok (.invokevirtual 128, 3) := by decide +kernel
theorem d_J_look_32 : decode b_J_look 32 = .ok (.ireturn, 1) := by decide +kernel
theorem d_J_findings_0 : decode b_J_findings 0 = .ok (.aload_n 0, 1) := by decide +kernel
theorem d_J_findings_1 : decode b_J_findings 1 = .ok (.getfield 19, 3) := by decide +kernel
theorem d_J_findings_4 : decode b_J_findings 4 = .ok (.aload_n 0, 1) := by decide +kernel
theorem d_J_findings_5 : decode b_J_findings 5 = .ok (.getfield 12, 3) := by decide +kernel
theorem d_J_findings_8 : decode b_J_findings 8 = .ok (.iconst 0, 1) := by decide +kernel
theorem d_J_findings_9 : decode b_J_findings 9 = .ok (.aaload, 1) := by decide +kernel
theorem d_J_findings_10 : decode b_J_findings 10 = .ok (.aload_n 0, 1) := by decide +kernel
theorem d_J_findings_11 : decode b_J_findings 11 = .ok (.getfield 12, 3) := by decide +kernel
theorem d_J_findings_14 : decode b_J_findings 14 = .ok (.iconst 1, 1) := by decide +kernel
theorem d_J_findings_15 : decode b_J_findings 15 = .ok (.aaload, 1) := by decide +kernel
theorem d_J_findings_16 : decode b_J_findings 16 = .ok (.invokevirtual 132, 3) := by decide +kernel
theorem d_J_findings_19 : decode b_J_findings 19 = .ok (.aload_n 0, 1) := by decide +kernel
theorem d_J_findings_20 : decode b_J_findings 20 = .ok (.getfield 19, 3) := by decide +kernel
theorem d_J_findings_23 : decode b_J_findings 23 = .ok (.getfield 136, 3) := by decide +kernel
theorem d_J_findings_26 : decode b_J_findings 26 = .ok (.ireturn, 1) := by decide +kernel
theorem d_J_finding_0 : decode b_J_finding 0 = .ok (.aload_n 0, 1) := by decide +kernel
theorem d_J_finding_1 : decode b_J_finding 1 = .ok (.getfield 19, 3) := by decide +kernel
theorem d_J_finding_4 : decode b_J_finding 4 = .ok (.aload_n 0, 1) := by decide +kernel
theorem d_J_finding_5 : decode b_J_finding 5 = .ok (.getfield 12, 3) := by decide +kernel
theorem d_J_finding_8 : decode b_J_finding 8 = .ok (.iconst 0, 1) := by decide +kernel
theorem d_J_finding_9 : decode b_J_finding 9 = .ok (.aaload, 1) := by decide +kernel
theorem d_J_finding_10 : decode b_J_finding 10 = .ok (.aload_n 0, 1) := by decide +kernel
theorem d_J_finding_11 : decode b_J_finding 11 = .ok (.getfield 12, 3) := by decide +kernel
theorem d_J_finding_14 : decode b_J_finding 14 = .ok (.iconst 1, 1) := by decide +kernel
theorem d_J_finding_15 : decode b_J_finding 15 = .ok (.aaload, 1) := by decide +kernel
theorem d_J_finding_16 : decode b_J_finding 16 = .ok (.invokevirtual 132, 3) := by decide +kernel
theorem d_J_finding_19 : decode b_J_finding 19 = .ok (.iload_n 1, 1) := by decide +kernel
theorem d_J_finding_20 : decode b_J_finding 20 = .ok (.aload_n 0, 1) := by decide +kernel
theorem d_J_finding_21 : decode b_J_finding 21 = .ok (.getfield 19, 3) := by decide +kernel
theorem d_J_finding_24 : decode b_J_finding 24 = .ok (.getfield 136, 3) := by decide +kernel
theorem d_J_finding_27 : decode b_J_finding 27 = .ok (.invokestatic 31, 3) := by decide +kernel
theorem d_J_finding_30 : decode b_J_finding 30 = .ok (.ifCond .ne 5, 3) := by decide +kernel
theorem d_J_finding_33 : decode b_J_finding 33 = .ok (.iconst (-1), 1) := by decide +kernel
theorem d_J_finding_34 : decode b_J_finding 34 = .ok (.ireturn, 1) := by decide +kernel
theorem d_J_finding_35 : decode b_J_finding 35 = .ok (.aload_n 0, 1) := by decide +kernel
theorem d_J_finding_36 : decode b_J_finding 36 = .ok (.getfield 19, 3) := by decide +kernel
theorem d_J_finding_39 : decode b_J_finding 39 = .ok (.getfield 139, 3) := by decide +kernel
theorem d_J_finding_42 : decode b_J_finding 42 = .ok (.iload_n 1, 1) := by decide +kernel
theorem d_J_finding_43 : decode b_J_finding 43 = .ok (.iaload, 1) := by decide +kernel
theorem d_J_finding_44 : decode b_J_finding 44 = .ok (.istore_n 3, 1) := by decide +kernel
theorem d_J_finding_45 : decode b_J_finding 45 = .ok (.aload_n 0, 1) := by decide +kernel
theorem d_J_finding_46 : decode b_J_finding 46 = .ok (.getfield 19, 3) := by decide +kernel
theorem d_J_finding_49 : decode b_J_finding 49 = .ok (.getfield 142, 3) := by decide +kernel
theorem d_J_finding_52 : decode b_J_finding 52 = .ok (.iload_n 1, 1) := by decide +kernel
theorem d_J_finding_53 : decode b_J_finding 53 = .ok (.iaload, 1) := by decide +kernel
theorem d_J_finding_54 : decode b_J_finding 54 = .ok (.istore 4, 2) := by decide +kernel
theorem d_J_finding_56 : decode b_J_finding 56 = .ok (.iload_n 2, 1) := by decide +kernel
theorem d_J_finding_57 : decode b_J_finding 57 = .ok (.tableswitch 72 0 4 #[35, 37, 40, 50, 56], 35) := by decide +kernel
theorem d_J_finding_92 : decode b_J_finding 92 = .ok (.iload_n 3, 1) := by decide +kernel
theorem d_J_finding_93 : decode b_J_finding 93 = .ok (.ireturn, 1) := by decide +kernel
theorem d_J_finding_94 : decode b_J_finding 94 = .ok (.iload 4, 2) := by decide +kernel
theorem d_J_finding_96 : decode b_J_finding 96 = .ok (.ireturn, 1) := by decide +kernel
theorem d_J_finding_97 : decode b_J_finding 97 = .ok (.aload_n 0, 1) := by decide +kernel
theorem d_J_finding_98 : decode b_J_finding 98 = .ok (.getfield 19, 3) := by decide +kernel
theorem d_J_finding_101 : decode b_J_finding 101 = .ok (.getfield 144, 3) := by decide +kernel
theorem d_J_finding_104 : decode b_J_finding 104 = .ok (.iload_n 1, 1) := by decide +kernel
theorem d_J_finding_105 : decode b_J_finding 105 = .ok (.iaload, 1) := by decide +kernel
theorem d_J_finding_106 : decode b_J_finding 106 = .ok (.ireturn, 1) := by decide +kernel
theorem d_J_finding_107 : decode b_J_finding 107 = .ok (.getstatic 147, 3) := by decide +kernel
theorem d_J_finding_110 : decode b_J_finding 110 = .ok (.iload_n 3, 1) := by decide +kernel
theorem d_J_finding_111 : decode b_J_finding 111 = .ok (.iaload, 1) := by decide +kernel
theorem d_J_finding_112 : decode b_J_finding 112 = .ok (.ireturn, 1) := by decide +kernel
theorem d_J_finding_113 : decode b_J_finding 113 = .ok (.aload_n 0, 1) := by decide +kernel
theorem d_J_finding_114 : decode b_J_finding 114 = .ok (.iload_n 3, 1) := by decide +kernel
theorem d_J_finding_115 : decode b_J_finding 115 = .ok (.iload 4, 2) := by decide +kernel
theorem d_J_finding_117 : decode b_J_finding 117 = .ok (.invokevirtual 122, 3) := by decide +kernel
theorem d_J_finding_120 : decode b_J_finding 120 = .ok (.ifCond .eq 7, 3) := by decide +kernel
theorem d_J_finding_123 : decode b_J_finding 123 = .ok (.iconst 1, 1) := by decide +kernel
theorem d_J_finding_124 : decode b_J_finding 124 = .ok (.goto 4, 3) := by decide +kernel
theorem d_J_finding_127 : decode b_J_finding 127 = .ok (.iconst 0, 1) := by decide +kernel
theorem d_J_finding_128 : decode b_J_finding 128 = .ok (.ireturn, 1) := by decide +kernel
theorem d_J_finding_129 : decode b_J_finding 129 = .ok (.iconst (-1), 1) := by decide +kernel
theorem d_J_finding_130 : decode b_J_finding 130 = .ok (.ireturn, 1) := by decide +kernel
theorem d_J_verdict_0 : decode b_J_verdict 0 = .ok (.aload_n 0, 1) := by decide +kernel
theorem d_J_verdict_1 : decode b_J_verdict 1 = .ok (.getfield 19, 3) := by decide +kernel
theorem d_J_verdict_4 : decode b_J_verdict 4 = .ok (.aload_n 0, 1) := by decide +kernel
theorem d_J_verdict_5 : decode b_J_verdict 5 = .ok (.getfield 12, 3) := by decide +kernel
theorem d_J_verdict_8 : decode b_J_verdict 8 = .ok (.iconst 0, 1) := by decide +kernel
theorem d_J_verdict_9 : decode b_J_verdict 9 = .ok (.aaload, 1) := by decide +kernel
theorem d_J_verdict_10 : decode b_J_verdict 10 = .ok (.aload_n 0, 1) := by decide +kernel
theorem d_J_verdict_11 : decode b_J_verdict 11 = .ok (.getfield 12, 3) := by decide +kernel
theorem d_J_verdict_14 : decode b_J_verdict 14 = .ok (.iconst 1, 1) := by decide +kernel
theorem d_J_verdict_15 : decode b_J_verdict 15 = .ok (.aaload, 1) := by decide +kernel
theorem d_J_verdict_16 : decode b_J_verdict 16 = .ok (.invokevirtual 132, 3) := by decide +kernel
theorem d_J_verdict_19 : decode b_J_verdict 19 = .ok (.iconst 0, 1) := by decide +kernel
theorem d_J_verdict_20 : decode b_J_verdict 20 = .ok (.istore_n 1, 1) := by decide +kernel
theorem d_J_verdict_21 : decode b_J_verdict 21 = .ok (.iconst 0, 1) := by decide +kernel
theorem d_J_verdict_22 : decode b_J_verdict 22 = .ok (.istore_n 2, 1) := by decide +kernel
theorem d_J_verdict_23 : decode b_J_verdict 23 = .ok (.iload_n 2, 1) := by decide +kernel
theorem d_J_verdict_24 : decode b_J_verdict 24 = .ok (.aload_n 0, 1) := by decide +kernel
theorem d_J_verdict_25 : decode b_J_verdict 25 = .ok (.getfield 19, 3) := by decide +kernel
theorem d_J_verdict_28 : decode b_J_verdict 28 = .ok (.getfield 136, 3) := by decide +kernel
theorem d_J_verdict_31 : decode b_J_verdict 31 = .ok (.if_icmp .ge 46, 3) := by decide +kernel
theorem d_J_verdict_34 : decode b_J_verdict 34 = .ok (.aload_n 0, 1) := by decide +kernel
theorem d_J_verdict_35 : decode b_J_verdict 35 = .ok (.getfield 19, 3) := by decide +kernel
theorem d_J_verdict_38 : decode b_J_verdict 38 = .ok (.getfield 139, 3) := by decide +kernel
theorem d_J_verdict_41 : decode b_J_verdict 41 = .ok (.iload_n 2, 1) := by decide +kernel
theorem d_J_verdict_42 : decode b_J_verdict 42 = .ok (.iaload, 1) := by decide +kernel
theorem d_J_verdict_43 : decode b_J_verdict 43 = .ok (.istore_n 3, 1) := by decide +kernel
theorem d_J_verdict_44 : decode b_J_verdict 44 = .ok (.aload_n 0, 1) := by decide +kernel
theorem d_J_verdict_45 : decode b_J_verdict 45 = .ok (.iload_n 3, 1) := by decide +kernel
theorem d_J_verdict_46 : decode b_J_verdict 46 = .ok (.aload_n 0, 1) := by decide +kernel
theorem d_J_verdict_47 : decode b_J_verdict 47 = .ok (.getfield 19, 3) := by decide +kernel
theorem d_J_verdict_50 : decode b_J_verdict 50 = .ok (.getfield 142, 3) := by decide +kernel
theorem d_J_verdict_53 : decode b_J_verdict 53 = .ok (.iload_n 2, 1) := by decide +kernel
theorem d_J_verdict_54 : decode b_J_verdict 54 = .ok (.iaload, 1) := by decide +kernel
theorem d_J_verdict_55 : decode b_J_verdict 55 = .ok (.invokevirtual 122, 3) := by decide +kernel
theorem d_J_verdict_58 : decode b_J_verdict 58 = .ok (.ifCond .ne 13, 3) := by decide +kernel
theorem d_J_verdict_61 : decode b_J_verdict 61 = .ok (.iload_n 1, 1) := by decide +kernel
theorem d_J_verdict_62 : decode b_J_verdict 62 = .ok (.getstatic 147, 3) := by decide +kernel
theorem d_J_verdict_65 : decode b_J_verdict 65 = .ok (.iload_n 3, 1) := by decide +kernel
theorem d_J_verdict_66 : decode b_J_verdict 66 = .ok (.iaload, 1) := by decide +kernel
theorem d_J_verdict_67 : decode b_J_verdict 67 = .ok (.invokestatic 150, 3) := by decide +kernel
theorem d_J_verdict_70 : decode b_J_verdict 70 = .ok (.istore_n 1, 1) := by decide +kernel
theorem d_J_verdict_71 : decode b_J_verdict 71 = .ok (.iinc 2 1, 3) := by decide +kernel
theorem d_J_verdict_74 : decode b_J_verdict 74 = .ok (.goto (-51), 3) := by decide +kernel
theorem d_J_verdict_77 : decode b_J_verdict 77 = .ok (.iload_n 1, 1) := by decide +kernel
theorem d_J_verdict_78 : decode b_J_verdict 78 = .ok (.ireturn, 1) := by decide +kernel
theorem d_J_byRule_0 : decode b_J_byRule 0 = .ok (.iload_n 1, 1) := by decide +kernel
theorem d_J_byRule_1 : decode b_J_byRule 1 = .ok (.bipush 14, 2) := by decide +kernel
theorem d_J_byRule_3 : decode b_J_byRule 3 = .ok (.invokestatic 31, 3) := by decide +kernel
theorem d_J_byRule_6 : decode b_J_byRule 6 = .ok (.ifCond .ne 5, 3) := by decide +kernel
theorem d_J_byRule_9 : decode b_J_byRule 9 = .ok (.iconst (-1), 1) := by decide +kernel
theorem d_J_byRule_10 : decode b_J_byRule 10 = .ok (.ireturn, 1) := by decide +kernel
theorem d_J_byRule_11 : decode b_J_byRule 11 = .ok (.aload_n 0, 1) := by decide +kernel
theorem d_J_byRule_12 : decode b_J_byRule 12 = .ok (.getfield 19, 3) := by decide +kernel
theorem d_J_byRule_15 : decode b_J_byRule 15 = .ok (.aload_n 0, 1) := by decide +kernel
theorem d_J_byRule_16 : decode b_J_byRule 16 = .ok (.getfield 12, 3) := by decide +kernel
theorem d_J_byRule_19 : decode b_J_byRule 19 = .ok (.iconst 0, 1) := by decide +kernel
theorem d_J_byRule_20 : decode b_J_byRule 20 = .ok (.aaload, 1) := by decide +kernel
theorem d_J_byRule_21 : decode b_J_byRule 21 = .ok (.aload_n 0, 1) := by decide +kernel
theorem d_J_byRule_22 : decode b_J_byRule 22 = .ok (.getfield 12, 3) := by decide +kernel
theorem d_J_byRule_25 : decode b_J_byRule 25 = .ok (.iconst 1, 1) := by decide +kernel
theorem d_J_byRule_26 : decode b_J_byRule 26 = .ok (.aaload, 1) := by decide +kernel
theorem d_J_byRule_27 : decode b_J_byRule 27 = .ok (.invokevirtual 132, 3) := by decide +kernel
theorem d_J_byRule_30 : decode b_J_byRule 30 = .ok (.iconst 0, 1) := by decide +kernel
theorem d_J_byRule_31 : decode b_J_byRule 31 = .ok (.istore_n 2, 1) := by decide +kernel
theorem d_J_byRule_32 : decode b_J_byRule 32 = .ok (.iconst 0, 1) := by decide +kernel
theorem d_J_byRule_33 : decode b_J_byRule 33 = .ok (.istore_n 3, 1) := by decide +kernel
theorem d_J_byRule_34 : decode b_J_byRule 34 = .ok (.iload_n 3, 1) := by decide +kernel
theorem d_J_byRule_35 : decode b_J_byRule 35 = .ok (.aload_n 0, 1) := by decide +kernel
theorem d_J_byRule_36 : decode b_J_byRule 36 = .ok (.getfield 19, 3) := by decide +kernel
theorem d_J_byRule_39 : decode b_J_byRule 39 = .ok (.getfield 136, 3) := by decide +kernel
theorem d_J_byRule_42 : decode b_J_byRule 42 = .ok (.if_icmp .ge 42, 3) := by decide +kernel
theorem d_J_byRule_45 : decode b_J_byRule 45 = .ok (.aload_n 0, 1) := by decide +kernel
theorem d_J_byRule_46 : decode b_J_byRule 46 = .ok (.getfield 19, 3) := by decide +kernel
theorem d_J_byRule_49 : decode b_J_byRule 49 = .ok (.getfield 139, 3) := by decide +kernel
theorem d_J_byRule_52 : decode b_J_byRule 52 = .ok (.iload_n 3, 1) := by decide +kernel
theorem d_J_byRule_53 : decode b_J_byRule 53 = .ok (.iaload, 1) := by decide +kernel
theorem d_J_byRule_54 : decode b_J_byRule 54 = .ok (.iload_n 1, 1) := by decide +kernel
theorem d_J_byRule_55 : decode b_J_byRule 55 = .ok (.if_icmp .ne 23, 3) := by decide +kernel
theorem d_J_byRule_58 : decode b_J_byRule 58 = .ok (.aload_n 0, 1) := by decide +kernel
theorem d_J_byRule_59 : decode b_J_byRule 59 = .ok (.iload_n 1, 1) := by decide +kernel
theorem d_J_byRule_60 : decode b_J_byRule 60 = .ok (.aload_n 0, 1) := by decide +kernel
theorem d_J_byRule_61 : decode b_J_byRule 61 = .ok (.getfield 19, 3) := by decide +kernel
theorem d_J_byRule_64 : decode b_J_byRule 64 = .ok (.getfield 142, 3) := by decide +kernel
theorem d_J_byRule_67 : decode b_J_byRule 67 = .ok (.iload_n 3, 1) := by decide +kernel
theorem d_J_byRule_68 : decode b_J_byRule 68 = .ok (.iaload, 1) := by decide +kernel
theorem d_J_byRule_69 : decode b_J_byRule 69 = .ok (.invokevirtual 122, 3) := by decide +kernel
theorem d_J_byRule_72 : decode b_J_byRule 72 = .ok (.ifCond .ne 6, 3) := by decide +kernel
theorem d_J_byRule_75 : decode b_J_byRule 75 = .ok (.iinc 2 1, 3) := by decide +kernel
theorem d_J_byRule_78 : decode b_J_byRule 78 = .ok (.iinc 3 1, 3) := by decide +kernel
theorem d_J_byRule_81 : decode b_J_byRule 81 = .ok (.goto (-47), 3) := by decide +kernel
theorem d_J_byRule_84 : decode b_J_byRule 84 = .ok (.iload_n 2, 1) := by decide +kernel
theorem d_J_byRule_85 : decode b_J_byRule 85 = .ok (.ireturn, 1) := by decide +kernel
theorem d_J_count_0 : decode b_J_count 0 = .ok (.iload_n 1, 1) := by decide +kernel
theorem d_J_count_1 : decode b_J_count 1 = .ok (.tableswitch 80 0 4 #[35, 45, 55, 65, 75], 35) := by decide +kernel
theorem d_J_count_36 : decode b_J_count 36 = .ok (.aload_n 0, 1) := by decide +kernel
theorem d_J_count_37 : decode b_J_count 37 = .ok (.getfield 12, 3) := by decide +kernel
theorem d_J_count_40 : decode b_J_count 40 = .ok (.iconst 0, 1) := by decide +kernel
theorem d_J_count_41 : decode b_J_count 41 = .ok (.aaload, 1) := by decide +kernel
theorem d_J_count_42 : decode b_J_count 42 = .ok (.invokevirtual 118, 3) := by decide +kernel
theorem d_J_count_45 : decode b_J_count 45 = .ok (.ireturn, 1) := by decide +kernel
theorem d_J_count_46 : decode b_J_count 46 = .ok (.aload_n 0, 1) := by decide +kernel
theorem d_J_count_47 : decode b_J_count 47 = .ok (.getfield 12, 3) := by decide +kernel
theorem d_J_count_50 : decode b_J_count 50 = .ok (.iconst 1, 1) := by decide +kernel
theorem d_J_count_51 : decode b_J_count 51 = .ok (.aaload, 1) := by decide +kernel
theorem d_J_count_52 : decode b_J_count 52 = .ok (.invokevirtual 118, 3) := by decide +kernel
theorem d_J_count_55 : decode b_J_count 55 = .ok (.ireturn, 1) := by decide +kernel
theorem d_J_count_56 : decode b_J_count 56 = .ok (.aload_n 0, 1) := by decide +kernel
theorem d_J_count_57 : decode b_J_count 57 = .ok (.getfield 12, 3) := by decide +kernel
theorem d_J_count_60 : decode b_J_count 60 = .ok (.iconst 0, 1) := by decide +kernel
theorem d_J_count_61 : decode b_J_count 61 = .ok (.aaload, 1) := by decide +kernel
theorem d_J_count_62 : decode b_J_count 62 = .ok (.invokevirtual 156, 3) := by decide +kernel
theorem d_J_count_65 : decode b_J_count 65 = .ok (.ireturn, 1) := by decide +kernel
theorem d_J_count_66 : decode b_J_count 66 = .ok (.aload_n 0, 1) := by decide +kernel
theorem d_J_count_67 : decode b_J_count 67 = .ok (.getfield 12, 3) := by decide +kernel
theorem d_J_count_70 : decode b_J_count 70 = .ok (.iconst 1, 1) := by decide +kernel
theorem d_J_count_71 : decode b_J_count 71 = .ok (.aaload, 1) := by decide +kernel
theorem d_J_count_72 : decode b_J_count 72 = .ok (.invokevirtual 156, 3) := by decide +kernel
theorem d_J_count_75 : decode b_J_count 75 = .ok (.ireturn, 1) := by decide +kernel
theorem d_J_count_76 : decode b_J_count 76 = .ok (.aload_n 0, 1) := by decide +kernel
theorem d_J_count_77 : decode b_J_count 77 = .ok (.invokevirtual 158, 3) := by decide +kernel
theorem d_J_count_80 : decode b_J_count 80 = .ok (.ireturn, 1) := by decide +kernel
theorem d_J_count_81 : decode b_J_count 81 = .ok (.iconst (-1), 1) := by decide +kernel
theorem d_J_count_82 : decode b_J_count 82 = .ok (.ireturn, 1) := by decide +kernel
theorem d_J_isSuppressed_0 : decode b_J_isSuppressed 0 = .ok (.aload_n 0, 1) := by decide +kernel
theorem d_J_isSuppressed_1 : decode b_J_isSuppressed 1 = .ok (.getfield 23, 3) := by decide +kernel
theorem d_J_isSuppressed_4 : decode b_J_isSuppressed 4 = .ok (.iload_n 1, 1) := by decide +kernel
theorem d_J_isSuppressed_5 : decode b_J_isSuppressed 5 = .ok (.iaload, 1) := by decide +kernel
theorem d_J_isSuppressed_6 : decode b_J_isSuppressed 6 = .ok (.iload_n 2, 1) := by decide +kernel
theorem d_J_isSuppressed_7 : decode b_J_isSuppressed 7 = .ok (.invokestatic 161, 3) := by decide +kernel
theorem d_J_isSuppressed_10 : decode b_J_isSuppressed 10 = .ok (.ireturn, 1) := by decide +kernel
theorem d_J_suppressionCount_0 : decode b_J_suppressionCount 0 = .ok (.iconst 0, 1) := by decide +kernel
theorem d_J_suppressionCount_1 : decode b_J_suppressionCount 1 = .ok (.istore_n 1, 1) := by decide +kernel
theorem d_J_suppressionCount_2 : decode b_J_suppressionCount 2 = .ok (.iconst 0, 1) := by decide +kernel
theorem d_J_suppressionCount_3 : decode b_J_suppressionCount 3 = .ok (.istore_n 2, 1) := by decide +kernel
theorem d_J_suppressionCount_4 : decode b_J_suppressionCount 4 = .ok (.iload_n 2, 1) := by decide +kernel
theorem d_J_suppressionCount_5 : decode b_J_suppressionCount 5 = .ok (.bipush 14, 2) := by decide +kernel
theorem d_J_suppressionCount_7 : decode b_J_suppressionCount 7 = .ok (.if_icmp .ge 21, 3) := by decide +kernel
theorem d_J_suppressionCount_10 : decode b_J_suppressionCount 10 = .ok (.iload_n 1, 1) := by decide +kernel
theorem d_J_suppressionCount_11 : decode b_J_suppressionCount 11 = .ok (.aload_n 0, 1) := by decide +kernel
theorem d_J_suppressionCount_12 : decode b_J_suppressionCount 12 = .ok (.getfield 23, 3) := by decide +kernel
theorem d_J_suppressionCount_15 : decode b_J_suppressionCount 15 = .ok (.iload_n 2, 1) := by decide +kernel
theorem d_J_suppressionCount_16 : decode b_J_suppressionCount 16 = .ok (.iaload, 1) := by decide +kernel
theorem d_J_suppressionCount_17 : decode b_J_suppressionCount 17 = .ok (.invokestatic 164, 3) := by decide +kernel
theorem d_J_suppressionCount_20 : decode b_J_suppressionCount 20 = .ok (.iadd, 1) := by decide +kernel
theorem d_J_suppressionCount_21 : decode b_J_suppressionCount 21 = .ok (.istore_n 1, 1) := by decide +kernel
theorem d_J_suppressionCount_22 : decode b_J_suppressionCount 22 = .ok (.iinc 2 1, 3) := by decide +kernel
theorem d_J_suppressionCount_25 : decode b_J_suppressionCount 25 = .ok (.goto (-21), 3) := by decide +kernel
theorem d_J_suppressionCount_28 : decode b_J_suppressionCount 28 = .ok (.iload_n 1, 1) := by decide +kernel
theorem d_J_suppressionCount_29 : decode b_J_suppressionCount 29 = .ok (.ireturn, 1) := by decide +kernel
theorem d_J_isMemberOf_0 : decode b_J_isMemberOf 0 = .ok (.iload_n 1, 1) := by decide +kernel
theorem d_J_isMemberOf_1 : decode b_J_isMemberOf 1 = .ok (.iload_n 2, 1) := by decide +kernel
theorem d_J_isMemberOf_2 : decode b_J_isMemberOf 2 = .ok (.invokestatic 27, 3) := by decide +kernel
theorem d_J_isMemberOf_5 : decode b_J_isMemberOf 5 = .ok (.ifCond .eq 28, 3) := by decide +kernel
theorem d_J_isMemberOf_8 : decode b_J_isMemberOf 8 = .ok (.iload_n 3, 1) := by decide +kernel
theorem d_J_isMemberOf_9 : decode b_J_isMemberOf 9 = .ok (.aload_n 0, 1) := by decide +kernel
theorem d_J_isMemberOf_10 : decode b_J_isMemberOf 10 = .ok (.getfield 12, 3) := by decide +kernel
theorem d_J_isMemberOf_13 : decode b_J_isMemberOf 13 = .ok (.iload_n 1, 1) := by decide +kernel
theorem d_J_isMemberOf_14 : decode b_J_isMemberOf 14 = .ok (.aaload, 1) := by decide +kernel
theorem d_J_isMemberOf_15 : decode b_J_isMemberOf 15 = .ok (.getfield 34, 3) := by decide +kernel
theorem d_J_isMemberOf_18 : decode b_J_isMemberOf 18 = .ok (.iload_n 2, 1) := by decide +kernel
theorem d_J_isMemberOf_19 : decode b_J_isMemberOf 19 = .ok (.aaload, 1) := by decide +kernel
theorem d_J_isMemberOf_20 : decode b_J_isMemberOf 20 = .ok (.getfield 73, 3) := by decide +kernel
theorem d_J_isMemberOf_23 : decode b_J_isMemberOf 23 = .ok (.invokestatic 31, 3) := by decide +kernel
theorem d_J_isMemberOf_26 : decode b_J_isMemberOf 26 = .ok (.ifCond .eq 7, 3) := by decide +kernel
theorem d_J_isMemberOf_29 : decode b_J_isMemberOf 29 = .ok (.iconst 1, 1) := by decide +kernel
theorem d_J_isMemberOf_30 : decode b_J_isMemberOf 30 = .ok (.goto 4, 3) := by decide +kernel
theorem d_J_isMemberOf_33 : decode b_J_isMemberOf 33 = .ok (.iconst 0, 1) := by decide +kernel
theorem d_J_isMemberOf_34 : decode b_J_isMemberOf 34 = .ok (.ireturn, 1) := by decide +kernel
theorem d_J_isTypeOf_0 : decode b_J_isTypeOf 0 = .ok (.iload_n 0, 1) := by decide +kernel
theorem d_J_isTypeOf_1 : decode b_J_isTypeOf 1 = .ok (.iconst 2, 1) := by decide +kernel
theorem d_J_isTypeOf_2 : decode b_J_isTypeOf 2 = .ok (.invokestatic 31, 3) := by decide +kernel
theorem d_J_isTypeOf_5 : decode b_J_isTypeOf 5 = .ok (.ifCond .eq 16, 3) := by decide +kernel
theorem d_J_isTypeOf_8 : decode b_J_isTypeOf 8 = .ok (.iload_n 1, 1) := by decide +kernel
theorem d_J_isTypeOf_9 : decode b_J_isTypeOf 9 = .ok (.bipush 12, 2) := by decide +kernel
theorem d_J_isTypeOf_11 : decode b_J_isTypeOf 11 = .ok (.invokestatic 31, 3) := by decide +kernel
theorem d_J_isTypeOf_14 : decode b_J_isTypeOf 14 = .ok (.ifCond .eq 7, 3) := by decide +kernel
theorem d_J_isTypeOf_17 : decode b_J_isTypeOf 17 = .ok (.iconst 1, 1) := by decide +kernel
theorem d_J_isTypeOf_18 : decode b_J_isTypeOf 18 = .ok (.goto 4, 3) := by decide +kernel
theorem d_J_isTypeOf_21 : decode b_J_isTypeOf 21 = .ok (.iconst 0, 1) := by decide +kernel
theorem d_J_isTypeOf_22 : decode b_J_isTypeOf 22 = .ok (.ireturn, 1) := by decide +kernel
theorem d_J_isKey_0 : decode b_J_isKey 0 = .ok (.iload_n 0, 1) := by decide +kernel
theorem d_J_isKey_1 : decode b_J_isKey 1 = .ok (.iconst 3, 1) := by decide +kernel
theorem d_J_isKey_2 : decode b_J_isKey 2 = .ok (.invokestatic 31, 3) := by decide +kernel
theorem d_J_isKey_5 : decode b_J_isKey 5 = .ok (.ifCond .eq 19, 3) := by decide +kernel
theorem d_J_isKey_8 : decode b_J_isKey 8 = .ok (.iload_n 1, 1) := by decide +kernel
theorem d_J_isKey_9 : decode b_J_isKey 9 = .ok (.getstatic 170, 3) := by decide +kernel
theorem d_J_isKey_12 : decode b_J_isKey 12 = .ok (.iload_n 0, 1) := by decide +kernel
theorem d_J_isKey_13 : decode b_J_isKey 13 = .ok (.iaload, 1) := by decide +kernel
theorem d_J_isKey_14 : decode b_J_isKey 14 = .ok (.invokestatic 31, 3) := by decide +kernel
theorem d_J_isKey_17 : decode b_J_isKey 17 = .ok (.ifCond .eq 7, 3) := by decide +kernel
theorem d_J_isKey_20 : decode b_J_isKey 20 = .ok (.iconst 1, 1) := by decide +kernel
theorem d_J_isKey_21 : decode b_J_isKey 21 = .ok (.goto 4, 3) := by decide +kernel
theorem d_J_isKey_24 : decode b_J_isKey 24 = .ok (.iconst 0, 1) := by decide +kernel
theorem d_J_isKey_25 : decode b_J_isKey 25 = .ok (.ireturn, 1) := by decide +kernel
theorem d_J_isWithin_0 : decode b_J_isWithin 0 = .ok (.iload_n 0, 1) := by decide +kernel
theorem d_J_isWithin_1 : decode b_J_isWithin 1 = .ok (.ifCond .lt 12, 3) := by decide +kernel
theorem d_J_isWithin_4 : decode b_J_isWithin 4 = .ok (.iload_n 0, 1) := by decide +kernel
theorem d_J_isWithin_5 : decode b_J_isWithin 5 = .ok (.iload_n 1, 1) := by decide +kernel
theorem d_J_isWithin_6 : decode b_J_isWithin 6 = .ok (.if_icmp .ge 7, 3) := by decide +kernel
theorem d_J_isWithin_9 : decode b_J_isWithin 9 = .ok (.iconst 1, 1) := by decide +kernel
theorem d_J_isWithin_10 : decode b_J_isWithin 10 = .ok (.goto 4, 3) := by decide +kernel
theorem d_J_isWithin_13 : decode b_J_isWithin 13 = .ok (.iconst 0, 1) := by decide +kernel
theorem d_J_isWithin_14 : decode b_J_isWithin 14 = .ok (.ireturn, 1) := by decide +kernel
theorem d_J_contains_0 : decode b_J_contains 0 = .ok (.iload_n 0, 1) := by decide +kernel
theorem d_J_contains_1 : decode b_J_contains 1 = .ok (.iload_n 1, 1) := by decide +kernel
theorem d_J_contains_2 : decode b_J_contains 2 = .ok (.ishr, 1) := by decide +kernel
theorem d_J_contains_3 : decode b_J_contains 3 = .ok (.iconst 1, 1) := by decide +kernel
theorem d_J_contains_4 : decode b_J_contains 4 = .ok (.iand, 1) := by decide +kernel
theorem d_J_contains_5 : decode b_J_contains 5 = .ok (.ifCond .eq 7, 3) := by decide +kernel
theorem d_J_contains_8 : decode b_J_contains 8 = .ok (.iconst 1, 1) := by decide +kernel
theorem d_J_contains_9 : decode b_J_contains 9 = .ok (.goto 4, 3) := by decide +kernel
theorem d_J_contains_12 : decode b_J_contains 12 = .ok (.iconst 0, 1) := by decide +kernel
theorem d_J_contains_13 : decode b_J_contains 13 = .ok (.ireturn, 1) := by decide +kernel
theorem d_J_isTypeAllowed_0 : decode b_J_isTypeAllowed 0 = .ok (.iload_n 1, 1) := by decide +kernel
theorem d_J_isTypeAllowed_1 : decode b_J_isTypeAllowed 1 = .ok (.iconst 2, 1) := by decide +kernel
theorem d_J_isTypeAllowed_2 : decode b_J_isTypeAllowed 2 = .ok (.iand, 1) := by decide +kernel
theorem d_J_isTypeAllowed_3 : decode b_J_isTypeAllowed 3 = .ok (.ifCond .eq 7, 3) := by decide +kernel
theorem d_J_isTypeAllowed_6 : decode b_J_isTypeAllowed 6 = .ok (.iconst 1, 1) := by decide +kernel
theorem d_J_isTypeAllowed_7 : decode b_J_isTypeAllowed 7 = .ok (.goto 4, 3) := by decide +kernel
theorem d_J_isTypeAllowed_10 : decode b_J_isTypeAllowed 10 = .ok (.iconst 0, 1) := by decide +kernel
theorem d_J_isTypeAllowed_11 : decode b_J_isTypeAllowed 11 = .ok (.istore_n 3, 1) := by decide +kernel
theorem d_J_isTypeAllowed_12 : decode b_J_isTypeAllowed 12 = .ok (.iload_n 1, 1) := by decide +kernel
theorem d_J_isTypeAllowed_13 : decode b_J_isTypeAllowed 13 = .ok (.iconst 4, 1) := by decide +kernel
theorem d_J_isTypeAllowed_14 : decode b_J_isTypeAllowed 14 = .ok (.iand, 1) := by decide +kernel
theorem d_J_isTypeAllowed_15 : decode b_J_isTypeAllowed 15 = .ok (.ifCond .eq 7, 3) := by decide +kernel
theorem d_J_isTypeAllowed_18 : decode b_J_isTypeAllowed 18 = .ok (.iconst 1, 1) := by decide +kernel
theorem d_J_isTypeAllowed_19 : decode b_J_isTypeAllowed 19 = .ok (.goto 4, 3) := by decide +kernel
theorem d_J_isTypeAllowed_22 : decode b_J_isTypeAllowed 22 = .ok (.iconst 0, 1) := by decide +kernel
theorem d_J_isTypeAllowed_23 : decode b_J_isTypeAllowed 23 = .ok (.istore 4, 2) := by decide +kernel
theorem d_J_isTypeAllowed_25 : decode b_J_isTypeAllowed 25 = .ok (.iload_n 0, 1) := by decide +kernel
theorem d_J_isTypeAllowed_26 : decode b_J_isTypeAllowed 26 = .ok (.iconst 1, 1) := by decide +kernel
theorem d_J_isTypeAllowed_27 : decode b_J_isTypeAllowed 27 = .ok (.if_icmp .ne 23, 3) := by decide +kernel
theorem d_J_isTypeAllowed_30 : decode b_J_isTypeAllowed 30 = .ok (.iload_n 3, 1) := by decide +kernel
theorem d_J_isTypeAllowed_31 : decode b_J_isTypeAllowed 31 = .ok (.ifCond .ne 17, 3) := by decide +kernel
theorem d_J_isTypeAllowed_34 : decode b_J_isTypeAllowed 34 = .ok (.iload 4, 2) := by decide +kernel
theorem d_J_isTypeAllowed_36 : decode b_J_isTypeAllowed 36 = .ok (.ifCond .ne 12, 3) := by decide +kernel
theorem d_J_isTypeAllowed_39 : decode b_J_isTypeAllowed 39 = .ok (.iload_n 2, 1) := by decide +kernel
theorem d_J_isTypeAllowed_40 : decode b_J_isTypeAllowed 40 = .ok (.iconst (-1), 1) := by decide +kernel
theorem d_J_isTypeAllowed_41 : decode b_J_isTypeAllowed 41 = .ok (.if_icmp .ne 7, 3) := by decide +kernel
theorem d_J_isTypeAllowed_44 : decode b_J_isTypeAllowed 44 = .ok (.iconst 1, 1) := by decide +kernel
theorem d_J_isTypeAllowed_45 : decode b_J_isTypeAllowed 45 = .ok (.goto 4, 3) := by decide +kernel
theorem d_J_isTypeAllowed_48 : decode b_J_isTypeAllowed 48 = .ok (.iconst 0, 1) := by decide +kernel
theorem d_J_isTypeAllowed_49 : decode b_J_isTypeAllowed 49 = .ok (.ireturn, 1) := by decide +kernel
theorem d_J_isTypeAllowed_50 : decode b_J_isTypeAllowed 50 = .ok (.iload_n 3, 1) := by decide +kernel
theorem d_J_isTypeAllowed_51 : decode b_J_isTypeAllowed 51 = .ok (.ifCond .eq 8, 3) := by decide +kernel
theorem d_J_isTypeAllowed_54 : decode b_J_isTypeAllowed 54 = .ok (.iload 4, 2) := by decide +kernel
theorem d_J_isTypeAllowed_56 : decode b_J_isTypeAllowed 56 = .ok (.ifCond .ne 7, 3) := by decide +kernel
theorem d_J_isTypeAllowed_59 : decode b_J_isTypeAllowed 59 = .ok (.iconst 1, 1) := by decide +kernel
theorem d_J_isTypeAllowed_60 : decode b_J_isTypeAllowed 60 = .ok (.goto 4, 3) := by decide +kernel
theorem d_J_isTypeAllowed_63 : decode b_J_isTypeAllowed 63 = .ok (.iconst 0, 1) := by decide +kernel
theorem d_J_isTypeAllowed_64 : decode b_J_isTypeAllowed 64 = .ok (.ireturn, 1) := by decide +kernel
theorem d_J_isMemberAllowed_0 : decode b_J_isMemberAllowed 0 = .ok (.iload_n 1, 1) := by decide +kernel
theorem d_J_isMemberAllowed_1 : decode b_J_isMemberAllowed 1 = .ok (.bipush 16, 2) := by decide +kernel
theorem d_J_isMemberAllowed_3 : decode b_J_isMemberAllowed 3 = .ok (.iand, 1) := by decide +kernel
theorem d_J_isMemberAllowed_4 : decode b_J_isMemberAllowed 4 = .ok (.ifCond .eq 7, 3) := by decide +kernel
theorem d_J_isMemberAllowed_7 : decode b_J_isMemberAllowed 7 = .ok (.iconst 1, 1) := by decide +kernel
theorem d_J_isMemberAllowed_8 : decode b_J_isMemberAllowed 8 = .ok (.goto 4, 3) := by decide +kernel
theorem d_J_isMemberAllowed_11 : decode b_J_isMemberAllowed 11 = .ok (.iconst 0, 1) := by decide +kernel
theorem d_J_isMemberAllowed_12 : decode b_J_isMemberAllowed 12 = .ok (.istore_n 2, 1) := by decide +kernel
theorem d_J_isMemberAllowed_13 : decode b_J_isMemberAllowed 13 = .ok (.iload_n 2, 1) := by decide +kernel
theorem d_J_isMemberAllowed_14 : decode b_J_isMemberAllowed 14 = .ok (.ifCond .eq 23, 3) := by decide +kernel
theorem d_J_isMemberAllowed_17 : decode b_J_isMemberAllowed 17 = .ok (.iload_n 0, 1) := by decide +kernel
theorem d_J_isMemberAllowed_18 : decode b_J_isMemberAllowed 18 = .ok (.iconst 1, 1) := by decide +kernel
theorem d_J_isMemberAllowed_19 : decode b_J_isMemberAllowed 19 = .ok (.if_icmp .ne 16, 3) := by decide +kernel
theorem d_J_isMemberAllowed_22 : decode b_J_isMemberAllowed 22 = .ok (.iload_n 1, 1) := by decide +kernel
theorem d_J_isMemberAllowed_23 : decode b_J_isMemberAllowed 23 = .ok (.bipush 12, 2) := by decide +kernel
theorem d_J_isMemberAllowed_25 : decode b_J_isMemberAllowed 25 = .ok (.iand, 1) := by decide +kernel
theorem d_J_isMemberAllowed_26 : decode b_J_isMemberAllowed 26 = .ok (.ifCond .ne 9, 3) := by decide +kernel
theorem d_J_isMemberAllowed_29 : decode b_J_isMemberAllowed 29 = .ok (.iload_n 1, 1) := by decide +kernel
theorem d_J_isMemberAllowed_30 : decode b_J_isMemberAllowed 30 = .ok (.iconst 3, 1) := by decide +kernel
theorem d_J_isMemberAllowed_31 : decode b_J_isMemberAllowed 31 = .ok (.iand, 1) := by decide +kernel
theorem d_J_isMemberAllowed_32 : decode b_J_isMemberAllowed 32 = .ok (.ifCond .ne 5, 3) := by decide +kernel
theorem d_J_isMemberAllowed_35 : decode b_J_isMemberAllowed 35 = .ok (.iconst 0, 1) := by decide +kernel
theorem d_J_isMemberAllowed_36 : decode b_J_isMemberAllowed 36 = .ok (.ireturn, 1) := by decide +kernel
theorem d_J_isMemberAllowed_37 : decode b_J_isMemberAllowed 37 = .ok (.iload_n 0, 1) := by decide +kernel
theorem d_J_isMemberAllowed_38 : decode b_J_isMemberAllowed 38 = .ok (.iconst 2, 1) := by decide +kernel
theorem d_J_isMemberAllowed_39 : decode b_J_isMemberAllowed 39 = .ok (.if_icmp .ne 10, 3) := by decide +kernel
theorem d_J_isMemberAllowed_42 : decode b_J_isMemberAllowed 42 = .ok (.iload_n 1, 1) := by decide +kernel
theorem d_J_isMemberAllowed_43 : decode b_J_isMemberAllowed 43 = .ok (.bipush 12, 2) := by decide +kernel
theorem d_J_isMemberAllowed_45 : decode b_J_isMemberAllowed 45 = .ok (.iand, 1) := by decide +kernel
theorem d_J_isMemberAllowed_46 : decode b_J_isMemberAllowed 46 = .ok (.ifCond .ne 7, 3) := by decide +kernel
theorem d_J_isMemberAllowed_49 : decode b_J_isMemberAllowed 49 = .ok (.iconst 1, 1) := by decide +kernel
theorem d_J_isMemberAllowed_50 : decode b_J_isMemberAllowed 50 = .ok (.goto 4, 3) := by decide +kernel
theorem d_J_isMemberAllowed_53 : decode b_J_isMemberAllowed 53 = .ok (.iconst 0, 1) := by decide +kernel
theorem d_J_isMemberAllowed_54 : decode b_J_isMemberAllowed 54 = .ok (.ireturn, 1) := by decide +kernel
theorem d_J_isAllowedInInterface_0 : decode b_J_isAllowedInInterface 0 = .ok (.iload_n 1, 1) := by decide +kernel
theorem d_J_isAllowedInInterface_1 : decode b_J_isAllowedInInterface 1 = .ok (.iconst 3, 1) := by decide +kernel
theorem d_J_isAllowedInInterface_2 : decode b_J_isAllowedInInterface 2 = .ok (.iand, 1) := by decide +kernel
theorem d_J_isAllowedInInterface_3 : decode b_J_isAllowedInInterface 3 = .ok (.istore_n 2, 1) := by decide +kernel
theorem d_J_isAllowedInInterface_4 : decode b_J_isAllowedInInterface 4 = .ok (.iload_n 0, 1) := by decide +kernel
theorem d_J_isAllowedInInterface_5 : decode b_J_isAllowedInInterface 5 = .ok (.ifCond .ne 27, 3) := by decide +kernel
theorem d_J_isAllowedInInterface_8 : decode b_J_isAllowedInInterface 8 = .ok (.iload_n 2, 1) := by decide +kernel
theorem d_J_isAllowedInInterface_9 : decode b_J_isAllowedInInterface 9 = .ok (.iconst 3, 1) := by decide +kernel
theorem d_J_isAllowedInInterface_10 : decode b_J_isAllowedInInterface 10 = .ok (.if_icmp .ne 20, 3) := by decide +kernel
theorem d_J_isAllowedInInterface_13 : decode b_J_isAllowedInInterface 13 = .ok (.iload_n 1, 1) := by decide +kernel
theorem d_J_isAllowedInInterface_14 : decode b_J_isAllowedInInterface 14 = .ok (.iconst 4, 1) := by decide +kernel
theorem d_J_isAllowedInInterface_15 : decode b_J_isAllowedInInterface 15 = .ok (.iand, 1) := by decide +kernel
theorem d_J_isAllowedInInterface_16 : decode b_J_isAllowedInInterface 16 = .ok (.ifCond .eq 14, 3) := by decide +kernel
theorem d_J_isAllowedInInterface_19 : decode b_J_isAllowedInInterface 19 = .ok (.iload_n 1, 1) := by decide +kernel
theorem d_J_isAllowedInInterface_20 : decode b_J_isAllowedInInterface 20 = .ok (.bipush 8, 2) := by decide +kernel
theorem d_J_isAllowedInInterface_22 : decode b_J_isAllowedInInterface 22 = .ok (.iand, 1) := by decide +kernel
theorem d_J_isAllowedInInterface_23 : decode b_J_isAllowedInInterface 23 = .ok (.ifCond .eq 7, 3) := by decide +kernel
theorem d_J_isAllowedInInterface_26 : decode b_J_isAllowedInInterface 26 = .ok (.iconst 1, 1) := by decide +kernel
theorem d_J_isAllowedInInterface_27 : decode b_J_isAllowedInInterface 27 = .ok (.goto 4, 3) := by decide +kernel
theorem d_J_isAllowedInInterface_30 : decode b_J_isAllowedInInterface 30 = .ok (.iconst 0, 1) := by decide +kernel
theorem d_J_isAllowedInInterface_31 : decode b_J_isAllowedInInterface 31 = .ok (.ireturn, 1) := by decide +kernel
theorem d_J_isAllowedInInterface_32 : decode b_J_isAllowedInInterface 32 = .ok (.iload_n 0, 1) := by decide +kernel
theorem d_J_isAllowedInInterface_33 : decode b_J_isAllowedInInterface 33 = .ok (.iconst 1, 1) := by decide +kernel
theorem d_J_isAllowedInInterface_34 : decode b_J_isAllowedInInterface 34 = .ok (.if_icmp .ne 23, 3) := by decide +kernel
theorem d_J_isAllowedInInterface_37 : decode b_J_isAllowedInInterface 37 = .ok (.iload_n 1, 1) := by decide +kernel
theorem d_J_isAllowedInInterface_38 : decode b_J_isAllowedInInterface 38 = .ok (.bipush 8, 2) := by decide +kernel
theorem d_J_isAllowedInInterface_40 : decode b_J_isAllowedInInterface 40 = .ok (.iand, 1) := by decide +kernel
theorem d_J_isAllowedInInterface_41 : decode b_J_isAllowedInInterface 41 = .ok (.ifCond .ne 16, 3) := by decide +kernel
theorem d_J_isAllowedInInterface_44 : decode b_J_isAllowedInInterface 44 = .ok (.iload_n 2, 1) := by decide +kernel
theorem d_J_isAllowedInInterface_45 : decode b_J_isAllowedInInterface 45 = .ok (.iconst 3, 1) := by decide +kernel
theorem d_J_isAllowedInInterface_46 : decode b_J_isAllowedInInterface 46 = .ok (.if_icmp .eq 7, 3) := by decide +kernel
theorem d_J_isAllowedInInterface_49 : decode b_J_isAllowedInInterface 49 = .ok (.iload_n 2, 1) := by decide +kernel
theorem d_J_isAllowedInInterface_50 : decode b_J_isAllowedInInterface 50 = .ok (.ifCond .ne 7, 3) := by decide +kernel
theorem d_J_isAllowedInInterface_53 : decode b_J_isAllowedInInterface 53 = .ok (.iconst 1, 1) := by decide +kernel
theorem d_J_isAllowedInInterface_54 : decode b_J_isAllowedInInterface 54 = .ok (.goto 4, 3) := by decide +kernel
theorem d_J_isAllowedInInterface_57 : decode b_J_isAllowedInInterface 57 = .ok (.iconst 0, 1) := by decide +kernel
theorem d_J_isAllowedInInterface_58 : decode b_J_isAllowedInInterface 58 = .ok (.ireturn, 1) := by decide +kernel
theorem d_R_init_0 : decode b_R_init 0 = .ok (.aload_n 0, 1) := by decide +kernel
theorem d_R_init_1 : decode b_R_init 1 = .ok (.invokespecial 1, 3) := by decide +kernel
theorem d_R_init_4 : decode b_R_init 4 = .ok (.aload_n 0, 1) := by decide +kernel
theorem d_R_init_5 : decode b_R_init 5 = .ok (.bipush 24, 2) := by decide +kernel
theorem d_R_init_7 : decode b_R_init 7 = .ok (.newarray .boolean, 2) := by decide +kernel
theorem d_R_init_9 : decode b_R_init 9 = .ok (.putfield 7, 3) := by decide +kernel
theorem d_R_init_12 : decode b_R_init 12 = .ok (.aload_n 0, 1) := by decide +kernel
theorem d_R_init_13 : decode b_R_init 13 = .ok (.bipush 24, 2) := by decide +kernel
theorem d_R_init_15 : decode b_R_init 15 = .ok (.newarray .int, 2) := by decide +kernel
theorem d_R_init_17 : decode b_R_init 17 = .ok (.putfield 13, 3) := by decide +kernel
theorem d_R_init_20 : decode b_R_init 20 = .ok (.aload_n 0, 1) := by decide +kernel
theorem d_R_init_21 : decode b_R_init 21 = .ok (.bipush 24, 2) := by decide +kernel
theorem d_R_init_23 : decode b_R_init 23 = .ok (.newarray .int, 2) := by decide +kernel
theorem d_R_init_25 : decode b_R_init 25 = .ok (.putfield 17, 3) := by decide +kernel
theorem d_R_init_28 : decode b_R_init 28 = .ok (.aload_n 0, 1) := by decide +kernel
theorem d_R_init_29 : decode b_R_init 29 = .ok (.bipush 24, 2) := by decide +kernel
theorem d_R_init_31 : decode b_R_init 31 = .ok (.newarray .int, 2) := by decide +kernel
theorem d_R_init_33 : decode b_R_init 33 = .ok (.putfield 20, 3) := by decide +kernel
theorem d_R_init_36 : decode b_R_init 36 = .ok (.aload_n 0, 1) := by decide +kernel
theorem d_R_init_37 : decode b_R_init 37 = .ok (.bipush 24, 2) := by decide +kernel
theorem d_R_init_39 : decode b_R_init 39 = .ok (.newarray .int, 2) := by decide +kernel
theorem d_R_init_41 : decode b_R_init 41 = .ok (.putfield 23, 3) := by decide +kernel
theorem d_R_init_44 : decode b_R_init 44 = .ok (.aload_n 0, 1) := by decide +kernel
theorem d_R_init_45 : decode b_R_init 45 = .ok (.bipush 72, 2) := by decide +kernel
theorem d_R_init_47 : decode b_R_init 47 = .ok (.newarray .int, 2) := by decide +kernel
theorem d_R_init_49 : decode b_R_init 49 = .ok (.putfield 26, 3) := by decide +kernel
theorem d_R_init_52 : decode b_R_init 52 = .ok (.aload_n 0, 1) := by decide +kernel
theorem d_R_init_53 : decode b_R_init 53 = .ok (.bipush 24, 2) := by decide +kernel
theorem d_R_init_55 : decode b_R_init 55 = .ok (.newarray .int, 2) := by decide +kernel
theorem d_R_init_57 : decode b_R_init 57 = .ok (.putfield 29, 3) := by decide +kernel
theorem d_R_init_60 : decode b_R_init 60 = .ok (.aload_n 0, 1) := by decide +kernel
theorem d_R_init_61 : decode b_R_init 61 = .ok (.sipush 192, 3) := by decide +kernel
theorem d_R_init_64 : decode b_R_init 64 = .ok (.newarray .int, 2) := by decide +kernel
theorem d_R_init_66 : decode b_R_init 66 = .ok (.putfield 32, 3) := by decide +kernel
theorem d_R_init_69 : decode b_R_init 69 = .ok (.aload_n 0, 1) := by decide +kernel
theorem d_R_init_70 : decode b_R_init 70 = .ok (.sipush 192, 3) := by decide +kernel
theorem d_R_init_73 : decode b_R_init 73 = .ok (.newarray .int, 2) := by decide +kernel
theorem d_R_init_75 : decode b_R_init 75 = .ok (.putfield 35, 3) := by decide +kernel
theorem d_R_init_78 : decode b_R_init 78 = .ok (.aload_n 0, 1) := by decide +kernel
theorem d_R_init_79 : decode b_R_init 79 = .ok (.sipush 192, 3) := by decide +kernel
theorem d_R_init_82 : decode b_R_init 82 = .ok (.newarray .int, 2) := by decide +kernel
theorem d_R_init_84 : decode b_R_init 84 = .ok (.putfield 38, 3) := by decide +kernel
theorem d_R_init_87 : decode b_R_init 87 = .ok (.aload_n 0, 1) := by decide +kernel
theorem d_R_init_88 : decode b_R_init 88 = .ok (.sipush 192, 3) := by decide +kernel
theorem d_R_init_91 : decode b_R_init 91 = .ok (.newarray .boolean, 2) := by decide +kernel
theorem d_R_init_93 : decode b_R_init 93 = .ok (.putfield 41, 3) := by decide +kernel
theorem d_R_init_96 : decode b_R_init 96 = .ok (.aload_n 0, 1) := by decide +kernel
theorem d_R_init_97 : decode b_R_init 97 = .ok (.sipush 192, 3) := by decide +kernel
theorem d_R_init_100 : decode b_R_init 100 = .ok (.newarray .int, 2) := by decide +kernel
theorem d_R_init_102 : decode b_R_init 102 = .ok (.putfield 44, 3) := by decide +kernel
theorem d_R_init_105 : decode b_R_init 105 = .ok (.aload_n 0, 1) := by decide +kernel
theorem d_R_init_106 : decode b_R_init 106 = .ok (.sipush 168, 3) := by decide +kernel
theorem d_R_init_109 : decode b_R_init 109 = .ok (.newarray .boolean, 2) := by decide +kernel
theorem d_R_init_111 : decode b_R_init 111 = .ok (.putfield 47, 3) := by decide +kernel
theorem d_R_init_114 : decode b_R_init 114 = .ok (.aload_n 0, 1) := by decide +kernel
theorem d_R_init_115 : decode b_R_init 115 = .ok (.bipush 12, 2) := by decide +kernel
theorem d_R_init_117 : decode b_R_init 117 = .ok (.newarray .boolean, 2) := by decide +kernel
theorem d_R_init_119 : decode b_R_init 119 = .ok (.putfield 50, 3) := by decide +kernel
theorem d_R_init_122 : decode b_R_init 122 = .ok (.aload_n 0, 1) := by decide +kernel
theorem d_R_init_123 : decode b_R_init 123 = .ok (.bipush 48, 2) := by decide +kernel
theorem d_R_init_125 : decode b_R_init 125 = .ok (.newarray .int, 2) := by decide +kernel
theorem d_R_init_127 : decode b_R_init 127 = .ok (.putfield 53, 3) := by decide +kernel
theorem d_R_init_130 : decode b_R_init 130 = .ok (.aload_n 0, 1) := by decide +kernel
theorem d_R_init_131 : decode b_R_init 131 = .ok (.bipush 14, 2) := by decide +kernel
theorem d_R_init_133 : decode b_R_init 133 = .ok (.newarray .int, 2) := by decide +kernel
theorem d_R_init_135 : decode b_R_init 135 = .ok (.putfield 56, 3) := by decide +kernel
theorem d_R_init_138 : decode b_R_init 138 = .ok (.return_, 1) := by decide +kernel
theorem d_R_out_0 : decode b_R_out 0 = .ok (.iload_n 0, 1) := by decide +kernel
theorem d_R_out_1 : decode b_R_out 1 = .ok (.ifCond .lt 8, 3) := by decide +kernel
theorem d_R_out_4 : decode b_R_out 4 = .ok (.iload_n 0, 1) := by decide +kernel
theorem d_R_out_5 : decode b_R_out 5 = .ok (.iload_n 1, 1) := by decide +kernel
theorem d_R_out_6 : decode b_R_out 6 = .ok (.if_icmp .le 7, 3) := by decide +kernel
theorem d_R_out_9 : decode b_R_out 9 = .ok (.iconst 1, 1) := by decide +kernel
theorem d_R_out_10 : decode b_R_out 10 = .ok (.goto 4, 3) := by decide +kernel
theorem d_R_out_13 : decode b_R_out 13 = .ok (.iconst 0, 1) := by decide +kernel
theorem d_R_out_14 : decode b_R_out 14 = .ok (.ireturn, 1) := by decide +kernel
theorem d_R_bad_0 : decode b_R_bad 0 = .ok (.iload_n 0, 1) := by decide +kernel
theorem d_R_bad_1 : decode b_R_bad 1 = .ok (.iconst 1, 1) := by decide +kernel
theorem d_R_bad_2 : decode b_R_bad 2 = .ok (.invokestatic 59, 3) := by decide +kernel
theorem d_R_bad_5 : decode b_R_bad 5 = .ok (.ifCond .ne 12, 3) := by decide +kernel
theorem d_R_bad_8 : decode b_R_bad 8 = .ok (.iload_n 1, 1) := by decide +kernel
theorem d_R_bad_9 : decode b_R_bad 9 = .ok (.bipush 11, 2) := by decide +kernel
theorem d_R_bad_11 : decode b_R_bad 11 = .ok (.invokestatic 59, 3) := by decide +kernel
theorem d_R_bad_14 : decode b_R_bad 14 = .ok (.ifCond .eq 7, 3) := by decide +kernel
theorem d_R_bad_17 : decode b_R_bad 17 = .ok (.iconst 1, 1) := by decide +kernel
theorem d_R_bad_18 : decode b_R_bad 18 = .ok (.goto 4, 3) := by decide +kernel
theorem d_R_bad_21 : decode b_R_bad 21 = .ok (.iconst 0, 1) := by decide +kernel
theorem d_R_bad_22 : decode b_R_bad 22 = .ok (.ireturn, 1) := by decide +kernel
theorem d_R_type_0 : decode b_R_type 0 = .ok (.iload_n 1, 1) := by decide +kernel
theorem d_R_type_1 : decode b_R_type 1 = .ok (.iload_n 2, 1) := by decide +kernel
theorem d_R_type_2 : decode b_R_type 2 = .ok (.invokestatic 63, 3) := by decide +kernel
theorem d_R_type_5 : decode b_R_type 5 = .ok (.ifCond .ne 47, 3) := by decide +kernel
theorem d_R_type_8 : decode b_R_type 8 = .ok (.iload_n 3, 1) := by decide +kernel
theorem d_R_type_9 : decode b_R_type 9 = .ok (.iconst 1, 1) := by decide +kernel
theorem d_R_type_10 : decode b_R_type 10 = .ok (.invokestatic 59, 3) := by decide +kernel
theorem d_R_type_13 : decode b_R_type 13 = .ok (.ifCond .ne 39, 3) := by decide +kernel
theorem d_R_type_16 : decode b_R_type 16 = .ok (.iload 4, 2) := by decide +kernel
theorem d_R_type_18 : decode b_R_type 18 = .ok (.bipush 7, 2) := by decide +kernel
theorem d_R_type_20 : decode b_R_type 20 = .ok (.invokestatic 59, 3) := by decide +kernel
theorem d_R_type_23 : decode b_R_type 23 = .ok (.ifCond .ne 29, 3) := by decide +kernel
theorem d_R_type_26 : decode b_R_type 26 = .ok (.iload 5, 2) := by decide +kernel
theorem d_R_type_28 : decode b_R_type 28 = .ok (.iconst 1, 1) := by decide +kernel
theorem d_R_type_29 : decode b_R_type 29 = .ok (.iadd, 1) := by decide +kernel
theorem d_R_type_30 : decode b_R_type 30 = .ok (.bipush 12, 2) := by decide +kernel
theorem d_R_type_32 : decode b_R_type 32 = .ok (.invokestatic 59, 3) := by decide +kernel
theorem d_R_type_35 : decode b_R_type 35 = .ok (.ifCond .ne 17, 3) := by decide +kernel
theorem d_R_type_38 : decode b_R_type 38 = .ok (.aload_n 0, 1) := by decide +kernel
theorem d_R_type_39 : decode b_R_type 39 = .ok (.getfield 7, 3) := by decide +kernel
theorem d_R_type_42 : decode b_R_type 42 = .ok (.bipush 12, 2) := by decide +kernel
theorem d_R_type_44 : decode b_R_type 44 = .ok (.iload_n 1, 1) := by decide +kernel
theorem d_R_type_45 : decode b_R_type 45 = .ok (.imul, 1) := by decide +kernel
theorem d_R_type_46 : decode b_R_type 46 = .ok (.iload_n 2, 1) := by decide +kernel
theorem d_R_type_47 : decode b_R_type 47 = .ok (.iadd, 1) := by decide +kernel
theorem d_R_type_48 : decode b_R_type 48 = .ok (.baload, 1) := by decide +kernel
theorem d_R_type_49 : decode b_R_type 49 = .ok (.ifCond .eq 5, 3) := by decide +kernel
theorem d_R_type_52 : decode b_R_type 52 = .ok (.iconst (-1), 1) := by decide +kernel
theorem d_R_type_53 : decode b_R_type 53 = .ok (.ireturn, 1) := by decide +kernel
theorem d_R_type_54 : decode b_R_type 54 = .ok (.iload 5, 2) := by decide +kernel
theorem d_R_type_56 : decode b_R_type 56 = .ok (.iload_n 2, 1) := by decide +kernel
theorem d_R_type_57 : decode b_R_type 57 = .ok (.if_icmp .ge 26, 3) := by decide +kernel
theorem d_R_type_60 : decode b_R_type 60 = .ok (.iload_n 3, 1) := by decide +kernel
theorem d_R_type_61 : decode b_R_type 61 = .ok (.iconst 1, 1) := by decide +kernel
theorem d_R_type_62 : decode b_R_type 62 = .ok (.if_icmp .ne 14, 3) := by decide +kernel
theorem d_R_type_65 : decode b_R_type 65 = .ok (.iload 4, 2) := by decide +kernel
theorem d_R_type_67 : decode b_R_type 67 = .ok (.iconst 1, 1) := by decide +kernel
theorem d_R_type_68 : decode b_R_type 68 = .ok (.if_icmp .gt 15, 3) := by decide +kernel
theorem d_R_type_71 : decode b_R_type 71 = .ok (.iload 5, 2) := by decide +kernel
theorem d_R_type_73 : decode b_R_type 73 = .ok (.ifCond .ge 10, 3) := by decide +kernel
theorem d_R_type_76 : decode b_R_type 76 = .ok (.iload 4, 2) := by decide +kernel
theorem d_R_type_78 : decode b_R_type 78 = .ok (.bipush 6, 2) := by decide +kernel
theorem d_R_type_80 : decode b_R_type 80 = .ok (.if_icmp .lt 5, 3) := by decide +kernel
theorem d_R_type_83 : decode b_R_type 83 = .ok (.iconst (-1), 1) := by decide +kernel
theorem d_R_type_84 : decode b_R_type 84 = .ok (.ireturn, 1) := by decide +kernel
theorem d_R_type_85 : decode b_R_type 85 = .ok (.bipush 12, 2) := by decide +kernel
theorem d_R_type_87 : decode b_R_type 87 = .ok (.iload_n 1, 1) := by decide +kernel
theorem d_R_type_88 : decode b_R_type 88 = .ok (.imul, 1) := by decide +kernel
theorem d_R_type_89 : decode b_R_type 89 = .ok (.iload_n 2, 1) := by decide +kernel
theorem d_R_type_90 : decode b_R_type 90 = .ok (.iadd, 1) := by decide +kernel
theorem d_R_type_91 : decode b_R_type 91 = .ok (.istore 6, 2) := by decide +kernel
theorem d_R_type_93 : decode b_R_type 93 = .ok (.aload_n 0, 1) := by decide +kernel
theorem d_R_type_94 : decode b_R_type 94 = .ok (.getfield 7, 3) := by decide +kernel
theorem d_R_type_97 : decode b_R_type 97 = .ok (.iload 6, 2) := by decide +kernel
theorem d_R_type_99 : decode b_R_type 99 = .ok (.iconst 1, 1) := by decide +kernel
theorem d_R_type_100 : decode b_R_type 100 = .ok (.bastore, 1) := by decide +kernel
theorem d_R_type_101 : decode b_R_type 101 = .ok (.aload_n 0, 1) := by decide +kernel
theorem d_R_type_102 : decode b_R_type 102 = .ok (.getfield 13, 3) := by decide +kernel
theorem d_R_type_105 : decode b_R_type 105 = .ok (.iload 6, 2) := by decide +kernel
theorem d_R_type_107 : decode b_R_type 107 = .ok (.iload_n 3, 1) := by decide +kernel
theorem d_R_type_108 : decode b_R_type 108 = .ok (.iastore, 1) := by decide +kernel
theorem d_R_type_109 : decode b_R_type 109 = .ok (.aload_n 0, 1) := by decide +kernel
theorem d_R_type_110 : decode b_R_type 110 = .ok (.getfield 17, 3) := by decide +kernel
theorem d_R_type_113 : decode b_R_type 113 = .ok (.iload 6, 2) := by decide +kernel
theorem d_R_type_115 : decode b_R_type 115 = .ok (.iload 4, 2) := by decide +kernel
theorem d_R_type_117 : decode b_R_type 117 = .ok (.iastore, 1) := by decide +kernel
theorem d_R_type_118 : decode b_R_type 118 = .ok (.aload_n 0, 1) := by decide +kernel
theorem d_R_type_119 : decode b_R_type 119 = .ok (.getfield 20, 3) := by decide +kernel
theorem d_R_type_122 : decode b_R_type 122 = .ok (.iload 6, 2) := by decide +kernel
theorem d_R_type_124 : decode b_R_type 124 = .ok (.iload 5, 2) := by decide +kernel
theorem d_R_type_126 : decode b_R_type 126 = .ok (.iastore, 1) := by decide +kernel
theorem d_R_type_127 : decode b_R_type 127 = .ok (.aload_n 0, 1) := by decide +kernel
theorem d_R_type_128 : decode b_R_type 128 = .ok (.getfield 23, 3) := by decide +kernel
theorem d_R_type_131 : decode b_R_type 131 = .ok (.iload 6, 2) := by decide +kernel
theorem d_R_type_133 : decode b_R_type 133 = .ok (.iconst 0, 1) := by decide +kernel
theorem d_R_type_134 : decode b_R_type 134 = .ok (.iastore, 1) := by decide +kernel
theorem d_R_type_135 : decode b_R_type 135 = .ok (.aload_n 0, 1) := by decide +kernel
theorem d_R_type_136 : decode b_R_type 136 = .ok (.getfield 29, 3) := by decide +kernel
theorem d_R_type_139 : decode b_R_type 139 = .ok (.iload 6, 2) := by decide +kernel
theorem d_R_type_141 : decode b_R_type 141 = .ok (.iconst 0, 1) := by decide +kernel
theorem d_R_type_142 : decode b_R_type 142 = .ok (.iastore, 1) := by decide +kernel
theorem d_R_type_143 : decode b_R_type 143 = .ok (.iconst 1, 1) := by decide +kernel
theorem d_R_type_144 : decode b_R_type 144 = .ok (.ireturn, 1) := by decide +kernel
theorem d_R_implement_0 : decode b_R_implement 0 = .ok (.iload_n 1, 1) := by decide +kernel
theorem d_R_implement_1 : decode b_R_implement 1 = .ok (.iload_n 2, 1) := by decide +kernel
theorem d_R_implement_2 : decode b_R_implement 2 = .ok (.invokestatic 63, 3) := by decide +kernel
theorem d_R_implement_5 : decode b_R_implement 5 = .ok (.ifCond .ne 17, 3) := by decide +kernel
theorem d_R_implement_8 : decode b_R_implement 8 = .ok (.iload_n 3, 1) := by decide +kernel
theorem d_R_implement_9 : decode b_R_implement 9 = .ok (.bipush 11, 2) := by decide +kernel
theorem d_R_implement_11 : decode b_R_implement 11 = .ok (.invokestatic 59, 3) := by decide +kernel
theorem d_R_implement_14 : decode b_R_implement 14 = .ok (.ifCond .ne 8, 3) := by decide +kernel
theorem d_R_implement_17 : decode b_R_implement 17 = .ok (.iload_n 3, 1) := by decide +kernel
theorem d_R_implement_18 : decode b_R_implement 18 = .ok (.iload_n 2, 1) := by decide +kernel
theorem d_R_implement_19 : decode b_R_implement 19 = .ok (.if_icmp .lt 5, 3) := by decide +kernel
theorem d_R_implement_22 : decode b_R_implement 22 = .ok (.iconst (-1), 1) := by decide +kernel
theorem d_R_implement_23 : decode b_R_implement 23 = .ok (.ireturn, 1) := by decide +kernel
theorem d_R_implement_24 : decode b_R_implement 24 = .ok (.bipush 12, 2) := by decide +kernel
theorem d_R_implement_26 : decode b_R_implement 26 = .ok (.iload_n 1, 1) := by decide +kernel
theorem d_R_implement_27 : decode b_R_implement 27 = .ok (.imul, 1) := by decide +kernel
theorem d_R_implement_28 : decode b_R_implement 28 = .ok (.iload_n 2, 1) := by decide +kernel
theorem d_R_implement_29 : decode b_R_implement 29 = .ok (.iadd, 1) := by decide +kernel
theorem d_R_implement_30 : decode b_R_implement 30 = .ok (.istore 4, 2) := by decide +kernel
theorem d_R_implement_32 : decode b_R_implement 32 = .ok (.aload_n 0, 1) := by decide +kernel
theorem d_R_implement_33 : decode b_R_implement 33 = .ok (.getfield 7, 3) := by decide +kernel
theorem d_R_implement_36 : decode b_R_implement 36 = .ok (.iload 4, 2) := by decide +kernel
theorem d_R_implement_38 : decode b_R_implement 38 = .ok (.baload, 1) := by decide +kernel
theorem d_R_implement_39 : decode b_R_implement 39 = .ok (.ifCond .eq 14, 3) := by decide +kernel
theorem d_R_implement_42 : decode b_R_implement 42 = .ok (.aload_n 0, 1) := by decide +kernel
theorem d_R_implement_43 : decode b_R_implement 43 = .ok (.getfield 23, 3) := by decide +kernel
theorem d_R_implement_46 : decode b_R_implement 46 = .ok (.iload 4, 2) := by decide +kernel
theorem d_R_implement_48 : decode b_R_implement 48 = .ok (.iaload, 1) := by decide +kernel
theorem d_R_implement_49 : decode b_R_implement 49 = .ok (.iconst 3, 1) := by decide +kernel
theorem d_R_implement_50 : decode b_R_implement 50 = .ok (.if_icmp .ne 5, 3) := by decide +kernel
theorem d_R_implement_53 : decode b_R_implement 53 = .ok (.iconst (-1), 1) := by decide +kernel
theorem d_R_implement_54 : decode b_R_implement 54 = .ok (.ireturn, 1) := by decide +kernel
theorem d_R_implement_55 : decode b_R_implement 55 = .ok (.iconst 0, 1) := by decide +kernel
theorem d_R_implement_56 : decode b_R_implement 56 = .ok (.istore 5, 2) := by decide +kernel
theorem d_R_implement_58 : decode b_R_implement 58 = .ok (.iload 5, 2) := by decide +kernel
theorem d_R_implement_60 : decode b_R_implement 60 = .ok (.aload_n 0, 1) := by decide +kernel
theorem d_R_implement_61 : decode b_R_implement 61 = .ok (.getfield 23, 3) := by decide +kernel
theorem d_R_implement_64 : decode b_R_implement 64 = .ok (.iload 4, 2) := by decide +kernel
theorem d_R_implement_66 : decode b_R_implement 66 = .ok (.iaload, 1) := by decide +kernel
theorem d_R_implement_67 : decode b_R_implement 67 = .ok (.if_icmp .ge 27, 3) := by decide +kernel
theorem d_R_implement_70 : decode b_R_implement 70 = .ok (.aload_n 0, 1) := by decide +kernel
theorem d_R_implement_71 : decode b_R_implement 71 = .ok (.getfield 26, 3) := by decide +kernel
theorem d_R_implement_74 : decode b_R_implement 74 = .ok (.iconst 3, 1) := by decide +kernel
theorem d_R_implement_75 : decode b_R_implement 75 = .ok (.iload 4, 2) := by decide +kernel
theorem d_R_implement_77 : decode b_R_implement 77 = .ok (.imul, 1) := by decide +kernel
theorem d_R_implement_78 : decode b_R_implement 78 = .ok (.iload 5, 2) := by decide +kernel
theorem d_R_implement_80 : decode b_R_implement 80 = .ok (.iadd, 1) := by decide +kernel
theorem d_R_implement_81 : decode b_R_implement 81 = .ok (.iaload, 1) := by decide +kernel
theorem d_R_implement_82 : decode b_R_implement 82 = .ok (.iload_n 3, 1) := by decide +kernel
theorem d_R_implement_83 : decode b_R_implement 83 = .ok (.if_icmp .ne 5, 3) := by decide +kernel
theorem d_R_implement_86 : decode b_R_implement 86 = .ok (.iconst (-1), 1) := by decide +kernel
theorem d_R_implement_87 : decode b_R_implement 87 = .ok (.ireturn, 1) := by decide +kernel
theorem d_R_implement_88 : decode b_R_implement 88 = .ok (.iinc 5 1, 3) := by decide +kernel
theorem d_R_implement_91 : decode b_R_implement 91 = .ok (.goto (-33), 3) := by decide +kernel
theorem d_R_implement_94 : decode b_R_implement 94 = .ok (.aload_n 0, 1) := by decide +kernel
theorem d_R_implement_95 : decode b_R_implement 95 = .ok (.getfield 26, 3) := by decide +kernel
theorem d_R_implement_98 : decode b_R_implement 98 = .ok (.iconst 3, 1) := by decide +kernel
theorem d_R_implement_99 : decode b_R_implement 99 = .ok (.iload 4, 2) := by decide +kernel
theorem d_R_implement_101 : decode b_R_implement 101 = .ok (.imul, 1) := by decide +kernel
theorem d_R_implement_102 : decode b_R_implement 102 = .ok (.aload_n 0, 1) := by decide +kernel
theorem d_R_implement_103 : decode b_R_implement 103 = .ok (.getfield 23, 3) := by decide +kernel
theorem d_R_implement_106 : decode b_R_implement 106 = .ok (.iload 4, 2) := by decide +kernel
theorem d_R_implement_108 : decode b_R_implement 108 = .ok (.iaload, 1) := by decide +kernel
theorem d_R_implement_109 : decode b_R_implement 109 = .ok (.iadd, 1) := by decide +kernel
theorem d_R_implement_110 : decode b_R_implement 110 = .ok (.iload_n 3, 1) := by decide +kernel
theorem d_R_implement_111 : decode b_R_implement 111 = .ok (.iastore, 1) := by decide +kernel
theorem d_R_implement_112 : decode b_R_implement 112 = .ok (.aload_n 0, 1) := by decide +kernel
theorem d_R_implement_113 : decode b_R_implement 113 = .ok (.getfield 23, 3) := by decide +kernel
theorem d_R_implement_116 : decode b_R_implement 116 = .ok (.iload 4, 2) := by decide +kernel
theorem d_R_implement_118 : decode b_R_implement 118 = .ok (.dup2, 1) := by decide +kernel
theorem d_R_implement_119 : decode b_R_implement 119 = .ok (.iaload, 1) := by decide +kernel
theorem d_R_implement_120 : decode b_R_implement 120 = .ok (.iconst 1, 1) := by decide +kernel
theorem d_R_implement_121 : decode b_R_implement 121 = .ok (.iadd, 1) := by decide +kernel
theorem d_R_implement_122 : decode b_R_implement 122 = .ok (.iastore, 1) := by decide +kernel
theorem d_R_implement_123 : decode b_R_implement 123 = .ok (.aload_n 0, 1) := by decide +kernel
theorem d_R_implement_124 : decode b_R_implement 124 = .ok (.getfield 23, 3) := by decide +kernel
theorem d_R_implement_127 : decode b_R_implement 127 = .ok (.iload 4, 2) := by decide +kernel
theorem d_R_implement_129 : decode b_R_implement 129 = .ok (.iaload, 1) := by decide +kernel
theorem d_R_implement_130 : decode b_R_implement 130 = .ok (.ireturn, 1) := by decide +kernel
theorem d_R_badKey_0 : decode b_R_badKey 0 = .ok (.iload_n 0, 1) := by decide +kernel
theorem d_R_badKey_1 : decode b_R_badKey 1 = .ok (.iconst 2, 1) := by decide +kernel
theorem d_R_badKey_2 : decode b_R_badKey 2 = .ok (.invokestatic 59, 3) := by decide +kernel
theorem d_R_badKey_5 : decode b_R_badKey 5 = .ok (.ifCond .ne 32, 3) := by decide +kernel
theorem d_R_badKey_8 : decode b_R_badKey 8 = .ok (.iload_n 1, 1) := by decide +kernel
theorem d_R_badKey_9 : decode b_R_badKey 9 = .ok (.iload_n 0, 1) := by decide +kernel
theorem d_R_badKey_10 : decode b_R_badKey 10 = .ok (.ifCond .ne 8, 3) := by decide +kernel
theorem d_R_badKey_13 : decode b_R_badKey 13 = .ok (.bipush 63, 2) := by decide +kernel
theorem d_R_badKey_15 : decode b_R_badKey 15 = .ok (.goto 16, 3) := by decide +kernel
theorem d_R_badKey_18 : decode b_R_badKey 18 = .ok (.iload_n 0, 1) := by decide +kernel
theorem d_R_badKey_19 : decode b_R_badKey 19 = .ok (.iconst 1, 1) := by decide +kernel
theorem d_R_badKey_20 : decode b_R_badKey 20 = .ok (.if_icmp .ne 9, 3) := by decide +kernel
theorem d_R_badKey_23 : decode b_R_badKey 23 = .ok (.sipush 511, 3) := by decide +kernel
theorem d_R_badKey_26 : decode b_R_badKey 26 = .ok (.goto 5, 3) := by decide +kernel
theorem d_R_badKey_29 : decode b_R_badKey 29 = .ok (.bipush 7, 2) := by decide +kernel
theorem d_R_badKey_31 : decode b_R_badKey 31 = .ok (.invokestatic 59, 3) := by decide +kernel
theorem d_R_badKey_34 : decode b_R_badKey 34 = .ok (.ifCond .eq 7, 3) := by decide +kernel
theorem d_R_badKey_37 : decode b_R_badKey 37 = .ok (.iconst 1, 1) := by decide +kernel
theorem d_R_badKey_38 : decode b_R_badKey 38 = .ok (.goto 4, 3) := by decide +kernel
theorem d_R_badKey_41 : decode b_R_badKey 41 = .ok (.iconst 0, 1) := by decide +kernel
theorem d_R_badKey_42 : decode b_R_badKey 42 = .ok (.ireturn, 1) := by decide +kernel
theorem d_R_own_0 : decode b_R_own 0 = .ok (.aload_n 0, 1) := by decide +kernel
theorem d_R_own_1 : decode b_R_own 1 = .ok (.getfield 7, 3) := by decide +kernel
theorem d_R_own_4 : decode b_R_own 4 = .ok (.iload_n 1, 1) := by decide +kernel
theorem d_R_own_5 : decode b_R_own 5 = .ok (.baload, 1) := by decide +kernel
theorem d_R_own_6 : decode b_R_own 6 = .ok (.ifCond .ne 5, 3) := by decide +kernel
theorem d_R_own_9 : decode b_R_own 9 = .ok (.iconst (-1), 1) := by decide +kernel
theorem d_R_own_10 : decode b_R_own 10 = .ok (.ireturn, 1) := by decide +kernel
theorem d_R_own_11 : decode b_R_own 11 = .ok (.bipush 8, 2) := by decide +kernel
theorem d_R_own_13 : decode b_R_own 13 = .ok (.iload_n 1, 1) := by decide +kernel
theorem d_R_own_14 : decode b_R_own 14 = .ok (.imul, 1) := by decide +kernel
theorem d_R_own_15 : decode b_R_own 15 = .ok (.istore 4, 2) := by decide +kernel
theorem d_R_own_17 : decode b_R_own 17 = .ok (.iload 4, 2) := by decide +kernel
theorem d_R_own_19 : decode b_R_own 19 = .ok (.bipush 8, 2) := by decide +kernel
theorem d_R_own_21 : decode b_R_own 21 = .ok (.iload_n 1, 1) := by decide +kernel
theorem d_R_own_22 : decode b_R_own 22 = .ok (.imul, 1) := by decide +kernel
theorem d_R_own_23 : decode b_R_own 23 = .ok (.aload_n 0, 1) := by decide +kernel
theorem d_R_own_24 : decode b_R_own 24 = .ok (.getfield 29, 3) := by decide +kernel
theorem d_R_own_27 : decode b_R_own 27 = .ok (.iload_n 1, 1) := by decide +kernel
theorem d_R_own_28 : decode b_R_own 28 = .ok (.iaload, 1) := by decide +kernel
theorem d_R_own_29 : decode b_R_own 29 = .ok (.iadd, 1) := by decide +kernel
theorem d_R_own_30 : decode b_R_own 30 = .ok (.if_icmp .ge 34, 3) := by decide +kernel
theorem d_R_own_33 : decode b_R_own 33 = .ok (.aload_n 0, 1) := by decide +kernel
theorem d_R_own_34 : decode b_R_own 34 = .ok (.getfield 32, 3) := by decide +kernel
theorem d_R_own_37 : decode b_R_own 37 = .ok (.iload 4, 2) := by decide +kernel
theorem d_R_own_39 : decode b_R_own 39 = .ok (.iaload, 1) := by decide +kernel
theorem d_R_own_40 : decode b_R_own 40 = .ok (.iload_n 2, 1) := by decide +kernel
theorem d_R_own_41 : decode b_R_own 41 = .ok (.if_icmp .ne 17, 3) := by decide +kernel
theorem d_R_own_44 : decode b_R_own 44 = .ok (.aload_n 0, 1) := by decide +kernel
theorem d_R_own_45 : decode b_R_own 45 = .ok (.getfield 35, 3) := by decide +kernel
theorem d_R_own_48 : decode b_R_own 48 = .ok (.iload 4, 2) := by decide +kernel
theorem d_R_own_50 : decode b_R_own 50 = .ok (.iaload, 1) := by decide +kernel
theorem d_R_own_51 : decode b_R_own 51 = .ok (.iload_n 3, 1) := by decide +kernel
theorem d_R_own_52 : decode b_R_own 52 = .ok (.if_icmp .ne 6, 3) := by decide +kernel
theorem d_R_own_55 : decode b_R_own 55 = .ok (.iload 4, 2) := by decide +kernel
theorem d_R_own_57 : decode b_R_own 57 = .ok (.ireturn, 1) := by decide +kernel
theorem d_R_own_58 : decode b_R_own 58 = .ok (.iinc 4 1, 3) := by decide +kernel
theorem d_R_own_61 : decode b_R_own 61 = .ok (.goto (-44), 3) := by decide +kernel
theorem d_R_own_64 : decode b_R_own 64 = .ok (.iconst (-1), 1) := by decide +kernel
theorem d_R_own_65 : decode b_R_own 65 = .ok (.ireturn, 1) := by decide +kernel
theorem d_R_has_0 : decode b_R_has 0 = .ok (.iload_n 0, 1) := by decide +kernel
theorem d_R_has_1 : decode b_R_has 1 = .ok (.iload_n 1, 1) := by decide +kernel
theorem d_R_has_2 : decode b_R_has 2 = .ok (.iand, 1) := by decide +kernel
theorem d_R_has_3 : decode b_R_has 3 = .ok (.ifCond .eq 7, 3) := by decide +kernel
theorem d_R_has_6 : decode b_R_has 6 = .ok (.iconst 1, 1) := by decide +kernel
theorem d_R_has_7 : decode b_R_has 7 = .ok (.goto 4, 3) := by decide +kernel
theorem d_R_has_10 : decode b_R_has 10 = .ok (.iconst 0, 1) := by decide +kernel
theorem d_R_has_11 : decode b_R_has 11 = .ok (.ireturn, 1) := by decide +kernel
theorem d_R_badFlags_0 : decode b_R_badFlags 0 = .ok (.iload_n 1, 1) := by decide +kernel
theorem d_R_badFlags_1 : decode b_R_badFlags 1 = .ok (.iconst 1, 1) := by decide +kernel
theorem d_R_badFlags_2 : decode b_R_badFlags 2 = .ok (.if_icmp .eq 12, 3) := by decide +kernel
theorem d_R_badFlags_5 : decode b_R_badFlags 5 = .ok (.iload_n 2, 1) := by decide +kernel
theorem d_R_badFlags_6 : decode b_R_badFlags 6 = .ok (.bipush 16, 2) := by decide +kernel
theorem d_R_badFlags_8 : decode b_R_badFlags 8 = .ok (.invokestatic 66, 3) := by decide +kernel
theorem d_R_badFlags_11 : decode b_R_badFlags 11 = .ok (.ifCond .ne 17, 3) := by decide +kernel
theorem d_R_badFlags_14 : decode b_R_badFlags 14 = .ok (.iload_n 1, 1) := by decide +kernel
theorem d_R_badFlags_15 : decode b_R_badFlags 15 = .ok (.iconst 2, 1) := by decide +kernel
theorem d_R_badFlags_16 : decode b_R_badFlags 16 = .ok (.if_icmp .ne 14, 3) := by decide +kernel
theorem d_R_badFlags_19 : decode b_R_badFlags 19 = .ok (.iload_n 2, 1) := by decide +kernel
theorem d_R_badFlags_20 : decode b_R_badFlags 20 = .ok (.bipush 12, 2) := by decide +kernel
theorem d_R_badFlags_22 : decode b_R_badFlags 22 = .ok (.invokestatic 66, 3) := by decide +kernel
theorem d_R_badFlags_25 : decode b_R_badFlags 25 = .ok (.ifCond .eq 5, 3) := by decide +kernel
theorem d_R_badFlags_28 : decode b_R_badFlags 28 = .ok (.iconst 1, 1) := by decide +kernel
theorem d_R_badFlags_29 : decode b_R_badFlags 29 = .ok (.ireturn, 1) := by decide +kernel
theorem d_R_badFlags_30 : decode b_R_badFlags 30 = .ok (.iload_n 2, 1) := by decide +kernel
theorem d_R_badFlags_31 : decode b_R_badFlags 31 = .ok (.bipush 16, 2) := by decide +kernel
theorem d_R_badFlags_33 : decode b_R_badFlags 33 = .ok (.invokestatic 66, 3) := by decide +kernel
theorem d_R_badFlags_36 : decode b_R_badFlags 36 = .ok (.ifCond .eq 20, 3) := by decide +kernel
theorem d_R_badFlags_39 : decode b_R_badFlags 39 = .ok (.iload_n 2, 1) := by decide +kernel
theorem d_R_badFlags_40 : decode b_R_badFlags 40 = .ok (.iconst 3, 1) := by decide +kernel
theorem d_R_badFlags_41 : decode b_R_badFlags 41 = .ok (.iand, 1) := by decide +kernel
theorem d_R_badFlags_42 : decode b_R_badFlags 42 = .ok (.ifCond .eq 12, 3) := by decide +kernel
theorem d_R_badFlags_45 : decode b_R_badFlags 45 = .ok (.iload_n 2, 1) := by decide +kernel
theorem d_R_badFlags_46 : decode b_R_badFlags 46 = .ok (.bipush 12, 2) := by decide +kernel
theorem d_R_badFlags_48 : decode b_R_badFlags 48 = .ok (.invokestatic 66, 3) := by decide +kernel
theorem d_R_badFlags_51 : decode b_R_badFlags 51 = .ok (.ifCond .eq 5, 3) := by decide +kernel
theorem d_R_badFlags_54 : decode b_R_badFlags 54 = .ok (.iconst 1, 1) := by decide +kernel
theorem d_R_badFlags_55 : decode b_R_badFlags 55 = .ok (.ireturn, 1) := by decide +kernel
theorem d_R_badFlags_56 : decode b_R_badFlags 56 = .ok (.iload_n 0, 1) := by decide +kernel
theorem d_R_badFlags_57 : decode b_R_badFlags 57 = .ok (.ifCond .ne 5, 3) := by decide +kernel
theorem d_R_badFlags_60 : decode b_R_badFlags 60 = .ok (.iconst 0, 1) := by decide +kernel
theorem d_R_badFlags_61 : decode b_R_badFlags 61 = .ok (.ireturn, 1) := by decide +kernel
theorem d_R_badFlags_62 : decode b_R_badFlags 62 = .ok (.iload_n 2, 1) := by decide +kernel
theorem d_R_badFlags_63 : decode b_R_badFlags 63 = .ok (.iconst 3, 1) := by decide +kernel
theorem d_R_badFlags_64 : decode b_R_badFlags 64 = .ok (.iand, 1) := by decide +kernel
theorem d_R_badFlags_65 : decode b_R_badFlags 65 = .ok (.istore_n 3, 1) := by decide +kernel
theorem d_R_badFlags_66 : decode b_R_badFlags 66 = .ok (.iload_n 1, 1) := by decide +kernel
theorem d_R_badFlags_67 : decode b_R_badFlags 67 = .ok (.iconst 2, 1) := by decide +kernel
theorem d_R_badFlags_68 : decode b_R_badFlags 68 = .ok (.if_icmp .eq 37, 3) := by decide +kernel
theorem d_R_badFlags_71 : decode b_R_badFlags 71 = .ok (.iload_n 1, 1) := by decide +kernel
theorem d_R_badFlags_72 : decode b_R_badFlags 72 = .ok (.ifCond .ne 9, 3) := by decide +kernel
theorem d_R_badFlags_75 : decode b_R_badFlags 75 = .ok (.iload_n 2, 1) := by decide +kernel
theorem d_R_badFlags_76 : decode b_R_badFlags 76 = .ok (.bipush 15, 2) := by decide +kernel
theorem d_R_badFlags_78 : decode b_R_badFlags 78 = .ok (.if_icmp .ne 27, 3) := by decide +kernel
theorem d_R_badFlags_81 : decode b_R_badFlags 81 = .ok (.iload_n 1, 1) := by decide +kernel
theorem d_R_badFlags_82 : decode b_R_badFlags 82 = .ok (.iconst 1, 1) := by decide +kernel
theorem d_R_badFlags_83 : decode b_R_badFlags 83 = .ok (.if_icmp .ne 26, 3) := by decide +kernel
theorem d_R_badFlags_86 : decode b_R_badFlags 86 = .ok (.iload_n 2, 1) := by decide +kernel
theorem d_R_badFlags_87 : decode b_R_badFlags 87 = .ok (.bipush 8, 2) := by decide +kernel
theorem d_R_badFlags_89 : decode b_R_badFlags 89 = .ok (.invokestatic 66, 3) := by decide +kernel
theorem d_R_badFlags_92 : decode b_R_badFlags 92 = .ok (.ifCond .ne 13, 3) := by decide +kernel
theorem d_R_badFlags_95 : decode b_R_badFlags 95 = .ok (.iload_n 3, 1) := by decide +kernel
theorem d_R_badFlags_96 : decode b_R_badFlags 96 = .ok (.iconst 1, 1) := by decide +kernel
theorem d_R_badFlags_97 : decode b_R_badFlags 97 = .ok (.if_icmp .eq 8, 3) := by decide +kernel
theorem d_R_badFlags_100 : decode b_R_badFlags 100 = .ok (.iload_n 3, 1) := by decide +kernel
theorem d_R_badFlags_101 : decode b_R_badFlags 101 = .ok (.iconst 2, 1) := by decide +kernel
theorem d_R_badFlags_102 : decode b_R_badFlags 102 = .ok (.if_icmp .ne 7, 3) := by decide +kernel
end
section
theorem d_R_badFlags_105 : decode b_R_badFlags 105 = .ok (.iconst 1, 1) := by decide +kernel
theorem d_R_badFlags_106 : decode b_R_badFlags 106 = .ok (.goto 4, 3) := by decide +kernel
theorem d_R_badFlags_109 : decode b_R_badFlags 109 = .ok (.iconst 0, 1) := by decide +kernel
theorem d_R_badFlags_110 : decode b_R_badFlags 110 = .ok (.ireturn, 1) := by decide +kernel
theorem d_R_member_0 : decode b_R_member 0 = .ok (.iload_n 1, 1) := by decide +kernel
theorem d_R_member_1 : decode b_R_member 1 = .ok (.iload_n 2, 1) := by decide +kernel
theorem d_R_member_2 : decode b_R_member 2 = .ok (.invokestatic 63, 3) := by decide +kernel
theorem d_R_member_5 : decode b_R_member 5 = .ok (.ifCond .ne 22, 3) := by decide +kernel
theorem d_R_member_8 : decode b_R_member 8 = .ok (.iload_n 3, 1) := by decide +kernel
theorem d_R_member_9 : decode b_R_member 9 = .ok (.iload 4, 2) := by decide +kernel
theorem d_R_member_11 : decode b_R_member 11 = .ok (.invokestatic 69, 3) := by decide +kernel
theorem d_R_member_14 : decode b_R_member 14 = .ok (.ifCond .ne 13, 3) := by decide +kernel
theorem d_R_member_17 : decode b_R_member 17 = .ok (.iload 5, 2) := by decide +kernel
theorem d_R_member_19 : decode b_R_member 19 = .ok (.bipush 31, 2) := by decide +kernel
theorem d_R_member_21 : decode b_R_member 21 = .ok (.invokestatic 59, 3) := by decide +kernel
theorem d_R_member_24 : decode b_R_member 24 = .ok (.ifCond .eq 5, 3) := by decide +kernel
theorem d_R_member_27 : decode b_R_member 27 = .ok (.iconst (-1), 1) := by decide +kernel
theorem d_R_member_28 : decode b_R_member 28 = .ok (.ireturn, 1) := by decide +kernel
theorem d_R_member_29 : decode b_R_member 29 = .ok (.bipush 12, 2) := by decide +kernel
theorem d_R_member_31 : decode b_R_member 31 = .ok (.iload_n 1, 1) := by decide +kernel
theorem d_R_member_32 : decode b_R_member 32 = .ok (.imul, 1) := by decide +kernel
theorem d_R_member_33 : decode b_R_member 33 = .ok (.iload_n 2, 1) := by decide +kernel
theorem d_R_member_34 : decode b_R_member 34 = .ok (.iadd, 1) := by decide +kernel
theorem d_R_member_35 : decode b_R_member 35 = .ok (.istore 6, 2) := by decide +kernel
theorem d_R_member_37 : decode b_R_member 37 = .ok (.aload_n 0, 1) := by decide +kernel
theorem d_R_member_38 : decode b_R_member 38 = .ok (.getfield 7, 3) := by decide +kernel
theorem d_R_member_41 : decode b_R_member 41 = .ok (.iload 6, 2) := by decide +kernel
theorem d_R_member_43 : decode b_R_member 43 = .ok (.baload, 1) := by decide +kernel
theorem d_R_member_44 : decode b_R_member 44 = .ok (.ifCond .eq 52, 3) := by decide +kernel
theorem d_R_member_47 : decode b_R_member 47 = .ok (.aload_n 0, 1) := by decide +kernel
theorem d_R_member_48 : decode b_R_member 48 = .ok (.getfield 29, 3) := by decide +kernel
theorem d_R_member_51 : decode b_R_member 51 = .ok (.iload 6, 2) := by decide +kernel
theorem d_R_member_53 : decode b_R_member 53 = .ok (.iaload, 1) := by decide +kernel
theorem d_R_member_54 : decode b_R_member 54 = .ok (.bipush 8, 2) := by decide +kernel
theorem d_R_member_56 : decode b_R_member 56 = .ok (.if_icmp .eq 40, 3) := by decide +kernel
theorem d_R_member_59 : decode b_R_member 59 = .ok (.aload_n 0, 1) := by decide +kernel
theorem d_R_member_60 : decode b_R_member 60 = .ok (.iload 6, 2) := by decide +kernel
theorem d_R_member_62 : decode b_R_member 62 = .ok (.iload_n 3, 1) := by decide +kernel
theorem d_R_member_63 : decode b_R_member 63 = .ok (.iload 4, 2) := by decide +kernel
theorem d_R_member_65 : decode b_R_member 65 = .ok (.invokevirtual 72, 3) := by decide +kernel
theorem d_R_member_68 : decode b_R_member 68 = .ok (.ifCond .ge 28, 3) := by decide +kernel
theorem d_R_member_71 : decode b_R_member 71 = .ok (.aload_n 0, 1) := by decide +kernel
theorem d_R_member_72 : decode b_R_member 72 = .ok (.getfield 13, 3) := by decide +kernel
theorem d_R_member_75 : decode b_R_member 75 = .ok (.iload 6, 2) := by decide +kernel
theorem d_R_member_77 : decode b_R_member 77 = .ok (.iaload, 1) := by decide +kernel
theorem d_R_member_78 : decode b_R_member 78 = .ok (.iconst 1, 1) := by decide +kernel
theorem d_R_member_79 : decode b_R_member 79 = .ok (.if_icmp .ne 7, 3) := by decide +kernel
theorem d_R_member_82 : decode b_R_member 82 = .ok (.iconst 1, 1) := by decide +kernel
theorem d_R_member_83 : decode b_R_member 83 = .ok (.goto 4, 3) := by decide +kernel
theorem d_R_member_86 : decode b_R_member 86 = .ok (.iconst 0, 1) := by decide +kernel
theorem d_R_member_87 : decode b_R_member 87 = .ok (.iload_n 3, 1) := by decide +kernel
theorem d_R_member_88 : decode b_R_member 88 = .ok (.iload 5, 2) := by decide +kernel
theorem d_R_member_90 : decode b_R_member 90 = .ok (.invokestatic 76, 3) := by decide +kernel
theorem d_R_member_93 : decode b_R_member 93 = .ok (.ifCond .eq 5, 3) := by decide +kernel
theorem d_R_member_96 : decode b_R_member 96 = .ok (.iconst (-1), 1) := by decide +kernel
theorem d_R_member_97 : decode b_R_member 97 = .ok (.ireturn, 1) := by decide +kernel
theorem d_R_member_98 : decode b_R_member 98 = .ok (.bipush 8, 2) := by decide +kernel
theorem d_R_member_100 : decode b_R_member 100 = .ok (.iload 6, 2) := by decide +kernel
theorem d_R_member_102 : decode b_R_member 102 = .ok (.imul, 1) := by decide +kernel
theorem d_R_member_103 : decode b_R_member 103 = .ok (.aload_n 0, 1) := by decide +kernel
theorem d_R_member_104 : decode b_R_member 104 = .ok (.getfield 29, 3) := by decide +kernel
theorem d_R_member_107 : decode b_R_member 107 = .ok (.iload 6, 2) := by decide +kernel
theorem d_R_member_109 : decode b_R_member 109 = .ok (.iaload, 1) := by decide +kernel
theorem d_R_member_110 : decode b_R_member 110 = .ok (.iadd, 1) := by decide +kernel
theorem d_R_member_111 : decode b_R_member 111 = .ok (.istore 7, 2) := by decide +kernel
theorem d_R_member_113 : decode b_R_member 113 = .ok (.aload_n 0, 1) := by decide +kernel
theorem d_R_member_114 : decode b_R_member 114 = .ok (.getfield 32, 3) := by decide +kernel
theorem d_R_member_117 : decode b_R_member 117 = .ok (.iload 7, 2) := by decide +kernel
theorem d_R_member_119 : decode b_R_member 119 = .ok (.iload_n 3, 1) := by decide +kernel
theorem d_R_member_120 : decode b_R_member 120 = .ok (.iastore, 1) := by decide +kernel
theorem d_R_member_121 : decode b_R_member 121 = .ok (.aload_n 0, 1) := by decide +kernel
theorem d_R_member_122 : decode b_R_member 122 = .ok (.getfield 35, 3) := by decide +kernel
theorem d_R_member_125 : decode b_R_member 125 = .ok (.iload 7, 2) := by decide +kernel
theorem d_R_member_127 : decode b_R_member 127 = .ok (.iload 4, 2) := by decide +kernel
theorem d_R_member_129 : decode b_R_member 129 = .ok (.iastore, 1) := by decide +kernel
theorem d_R_member_130 : decode b_R_member 130 = .ok (.aload_n 0, 1) := by decide +kernel
theorem d_R_member_131 : decode b_R_member 131 = .ok (.getfield 38, 3) := by decide +kernel
theorem d_R_member_134 : decode b_R_member 134 = .ok (.iload 7, 2) := by decide +kernel
theorem d_R_member_136 : decode b_R_member 136 = .ok (.iload 5, 2) := by decide +kernel
theorem d_R_member_138 : decode b_R_member 138 = .ok (.iastore, 1) := by decide +kernel
theorem d_R_member_139 : decode b_R_member 139 = .ok (.aload_n 0, 1) := by decide +kernel
theorem d_R_member_140 : decode b_R_member 140 = .ok (.getfield 41, 3) := by decide +kernel
theorem d_R_member_143 : decode b_R_member 143 = .ok (.iload 7, 2) := by decide +kernel
theorem d_R_member_145 : decode b_R_member 145 = .ok (.iconst 0, 1) := by decide +kernel
theorem d_R_member_146 : decode b_R_member 146 = .ok (.bastore, 1) := by decide +kernel
theorem d_R_member_147 : decode b_R_member 147 = .ok (.aload_n 0, 1) := by decide +kernel
theorem d_R_member_148 : decode b_R_member 148 = .ok (.getfield 29, 3) := by decide +kernel
theorem d_R_member_151 : decode b_R_member 151 = .ok (.iload 6, 2) := by decide +kernel
theorem d_R_member_153 : decode b_R_member 153 = .ok (.dup2, 1) := by decide +kernel
theorem d_R_member_154 : decode b_R_member 154 = .ok (.iaload, 1) := by decide +kernel
theorem d_R_member_155 : decode b_R_member 155 = .ok (.iconst 1, 1) := by decide +kernel
theorem d_R_member_156 : decode b_R_member 156 = .ok (.iadd, 1) := by decide +kernel
theorem d_R_member_157 : decode b_R_member 157 = .ok (.iastore, 1) := by decide +kernel
theorem d_R_member_158 : decode b_R_member 158 = .ok (.aload_n 0, 1) := by decide +kernel
theorem d_R_member_159 : decode b_R_member 159 = .ok (.getfield 29, 3) := by decide +kernel
theorem d_R_member_162 : decode b_R_member 162 = .ok (.iload 6, 2) := by decide +kernel
theorem d_R_member_164 : decode b_R_member 164 = .ok (.iaload, 1) := by decide +kernel
theorem d_R_member_165 : decode b_R_member 165 = .ok (.iconst 1, 1) := by decide +kernel
theorem d_R_member_166 : decode b_R_member 166 = .ok (.isub, 1) := by decide +kernel
theorem d_R_member_167 : decode b_R_member 167 = .ok (.ireturn, 1) := by decide +kernel
theorem d_R_cell_0 : decode b_R_cell 0 = .ok (.iload_n 1, 1) := by decide +kernel
theorem d_R_cell_1 : decode b_R_cell 1 = .ok (.iload_n 2, 1) := by decide +kernel
theorem d_R_cell_2 : decode b_R_cell 2 = .ok (.invokestatic 63, 3) := by decide +kernel
theorem d_R_cell_5 : decode b_R_cell 5 = .ok (.ifCond .eq 5, 3) := by decide +kernel
theorem d_R_cell_8 : decode b_R_cell 8 = .ok (.iconst (-1), 1) := by decide +kernel
theorem d_R_cell_9 : decode b_R_cell 9 = .ok (.ireturn, 1) := by decide +kernel
theorem d_R_cell_10 : decode b_R_cell 10 = .ok (.bipush 12, 2) := by decide +kernel
theorem d_R_cell_12 : decode b_R_cell 12 = .ok (.iload_n 1, 1) := by decide +kernel
theorem d_R_cell_13 : decode b_R_cell 13 = .ok (.imul, 1) := by decide +kernel
theorem d_R_cell_14 : decode b_R_cell 14 = .ok (.iload_n 2, 1) := by decide +kernel
theorem d_R_cell_15 : decode b_R_cell 15 = .ok (.iadd, 1) := by decide +kernel
theorem d_R_cell_16 : decode b_R_cell 16 = .ok (.istore 4, 2) := by decide +kernel
theorem d_R_cell_18 : decode b_R_cell 18 = .ok (.aload_n 0, 1) := by decide +kernel
theorem d_R_cell_19 : decode b_R_cell 19 = .ok (.getfield 7, 3) := by decide +kernel
theorem d_R_cell_22 : decode b_R_cell 22 = .ok (.iload 4, 2) := by decide +kernel
theorem d_R_cell_24 : decode b_R_cell 24 = .ok (.baload, 1) := by decide +kernel
theorem d_R_cell_25 : decode b_R_cell 25 = .ok (.ifCond .eq 19, 3) := by decide +kernel
theorem d_R_cell_28 : decode b_R_cell 28 = .ok (.iload_n 3, 1) := by decide +kernel
theorem d_R_cell_29 : decode b_R_cell 29 = .ok (.aload_n 0, 1) := by decide +kernel
theorem d_R_cell_30 : decode b_R_cell 30 = .ok (.getfield 29, 3) := by decide +kernel
theorem d_R_cell_33 : decode b_R_cell 33 = .ok (.iload 4, 2) := by decide +kernel
theorem d_R_cell_35 : decode b_R_cell 35 = .ok (.iaload, 1) := by decide +kernel
theorem d_R_cell_36 : decode b_R_cell 36 = .ok (.iconst 1, 1) := by decide +kernel
theorem d_R_cell_37 : decode b_R_cell 37 = .ok (.isub, 1) := by decide +kernel
theorem d_R_cell_38 : decode b_R_cell 38 = .ok (.invokestatic 59, 3) := by decide +kernel
theorem d_R_cell_41 : decode b_R_cell 41 = .ok (.ifCond .eq 7, 3) := by decide +kernel
theorem d_R_cell_44 : decode b_R_cell 44 = .ok (.iconst (-1), 1) := by decide +kernel
theorem d_R_cell_45 : decode b_R_cell 45 = .ok (.goto 10, 3) := by decide +kernel
theorem d_R_cell_48 : decode b_R_cell 48 = .ok (.bipush 8, 2) := by decide +kernel
theorem d_R_cell_50 : decode b_R_cell 50 = .ok (.iload 4, 2) := by decide +kernel
theorem d_R_cell_52 : decode b_R_cell 52 = .ok (.imul, 1) := by decide +kernel
theorem d_R_cell_53 : decode b_R_cell 53 = .ok (.iload_n 3, 1) := by decide +kernel
theorem d_R_cell_54 : decode b_R_cell 54 = .ok (.iadd, 1) := by decide +kernel
theorem d_R_cell_55 : decode b_R_cell 55 = .ok (.ireturn, 1) := by decide +kernel
theorem d_R_constant_0 : decode b_R_constant 0 = .ok (.aload_n 0, 1) := by decide +kernel
theorem d_R_constant_1 : decode b_R_constant 1 = .ok (.iload_n 1, 1) := by decide +kernel
theorem d_R_constant_2 : decode b_R_constant 2 = .ok (.iload_n 2, 1) := by decide +kernel
theorem d_R_constant_3 : decode b_R_constant 3 = .ok (.iload_n 3, 1) := by decide +kernel
theorem d_R_constant_4 : decode b_R_constant 4 = .ok (.invokevirtual 80, 3) := by decide +kernel
theorem d_R_constant_7 : decode b_R_constant 7 = .ok (.istore 5, 2) := by decide +kernel
theorem d_R_constant_9 : decode b_R_constant 9 = .ok (.iload 5, 2) := by decide +kernel
theorem d_R_constant_11 : decode b_R_constant 11 = .ok (.ifCond .lt 13, 3) := by decide +kernel
theorem d_R_constant_14 : decode b_R_constant 14 = .ok (.aload_n 0, 1) := by decide +kernel
theorem d_R_constant_15 : decode b_R_constant 15 = .ok (.getfield 32, 3) := by decide +kernel
theorem d_R_constant_18 : decode b_R_constant 18 = .ok (.iload 5, 2) := by decide +kernel
theorem d_R_constant_20 : decode b_R_constant 20 = .ok (.iaload, 1) := by decide +kernel
theorem d_R_constant_21 : decode b_R_constant 21 = .ok (.ifCond .eq 5, 3) := by decide +kernel
theorem d_R_constant_24 : decode b_R_constant 24 = .ok (.iconst (-1), 1) := by decide +kernel
theorem d_R_constant_25 : decode b_R_constant 25 = .ok (.ireturn, 1) := by decide +kernel
theorem d_R_constant_26 : decode b_R_constant 26 = .ok (.aload_n 0, 1) := by decide +kernel
theorem d_R_constant_27 : decode b_R_constant 27 = .ok (.getfield 41, 3) := by decide +kernel
theorem d_R_constant_30 : decode b_R_constant 30 = .ok (.iload 5, 2) := by decide +kernel
theorem d_R_constant_32 : decode b_R_constant 32 = .ok (.baload, 1) := by decide +kernel
theorem d_R_constant_33 : decode b_R_constant 33 = .ok (.ifCond .eq 7, 3) := by decide +kernel
theorem d_R_constant_36 : decode b_R_constant 36 = .ok (.iconst 1, 1) := by decide +kernel
theorem d_R_constant_37 : decode b_R_constant 37 = .ok (.goto 4, 3) := by decide +kernel
theorem d_R_constant_40 : decode b_R_constant 40 = .ok (.iconst 0, 1) := by decide +kernel
theorem d_R_constant_41 : decode b_R_constant 41 = .ok (.istore 6, 2) := by decide +kernel
theorem d_R_constant_43 : decode b_R_constant 43 = .ok (.aload_n 0, 1) := by decide +kernel
theorem d_R_constant_44 : decode b_R_constant 44 = .ok (.getfield 41, 3) := by decide +kernel
theorem d_R_constant_47 : decode b_R_constant 47 = .ok (.iload 5, 2) := by decide +kernel
theorem d_R_constant_49 : decode b_R_constant 49 = .ok (.iconst 1, 1) := by decide +kernel
theorem d_R_constant_50 : decode b_R_constant 50 = .ok (.bastore, 1) := by decide +kernel
theorem d_R_constant_51 : decode b_R_constant 51 = .ok (.aload_n 0, 1) := by decide +kernel
theorem d_R_constant_52 : decode b_R_constant 52 = .ok (.getfield 44, 3) := by decide +kernel
theorem d_R_constant_55 : decode b_R_constant 55 = .ok (.iload 5, 2) := by decide +kernel
theorem d_R_constant_57 : decode b_R_constant 57 = .ok (.iload 4, 2) := by decide +kernel
theorem d_R_constant_59 : decode b_R_constant 59 = .ok (.iastore, 1) := by decide +kernel
theorem d_R_constant_60 : decode b_R_constant 60 = .ok (.iload 6, 2) := by decide +kernel
theorem d_R_constant_62 : decode b_R_constant 62 = .ok (.ireturn, 1) := by decide +kernel
theorem d_R_remove_0 : decode b_R_remove 0 = .ok (.iload_n 1, 1) := by decide +kernel
theorem d_R_remove_1 : decode b_R_remove 1 = .ok (.iload_n 2, 1) := by decide +kernel
theorem d_R_remove_2 : decode b_R_remove 2 = .ok (.invokestatic 63, 3) := by decide +kernel
theorem d_R_remove_5 : decode b_R_remove 5 = .ok (.ifCond .ne 17, 3) := by decide +kernel
theorem d_R_remove_8 : decode b_R_remove 8 = .ok (.aload_n 0, 1) := by decide +kernel
theorem d_R_remove_9 : decode b_R_remove 9 = .ok (.getfield 7, 3) := by decide +kernel
theorem d_R_remove_12 : decode b_R_remove 12 = .ok (.bipush 12, 2) := by decide +kernel
theorem d_R_remove_14 : decode b_R_remove 14 = .ok (.iload_n 1, 1) := by decide +kernel
theorem d_R_remove_15 : decode b_R_remove 15 = .ok (.imul, 1) := by decide +kernel
theorem d_R_remove_16 : decode b_R_remove 16 = .ok (.iload_n 2, 1) := by decide +kernel
theorem d_R_remove_17 : decode b_R_remove 17 = .ok (.iadd, 1) := by decide +kernel
theorem d_R_remove_18 : decode b_R_remove 18 = .ok (.baload, 1) := by decide +kernel
theorem d_R_remove_19 : decode b_R_remove 19 = .ok (.ifCond .ne 5, 3) := by decide +kernel
theorem d_R_remove_22 : decode b_R_remove 22 = .ok (.iconst (-1), 1) := by decide +kernel
theorem d_R_remove_23 : decode b_R_remove 23 = .ok (.ireturn, 1) := by decide +kernel
theorem d_R_remove_24 : decode b_R_remove 24 = .ok (.aload_n 0, 1) := by decide +kernel
theorem d_R_remove_25 : decode b_R_remove 25 = .ok (.getfield 7, 3) := by decide +kernel
theorem d_R_remove_28 : decode b_R_remove 28 = .ok (.bipush 12, 2) := by decide +kernel
theorem d_R_remove_30 : decode b_R_remove 30 = .ok (.iload_n 1, 1) := by decide +kernel
theorem d_R_remove_31 : decode b_R_remove 31 = .ok (.imul, 1) := by decide +kernel
theorem d_R_remove_32 : decode b_R_remove 32 = .ok (.iload_n 2, 1) := by decide +kernel
theorem d_R_remove_33 : decode b_R_remove 33 = .ok (.iadd, 1) := by decide +kernel
theorem d_R_remove_34 : decode b_R_remove 34 = .ok (.iconst 0, 1) := by decide +kernel
theorem d_R_remove_35 : decode b_R_remove 35 = .ok (.bastore, 1) := by decide +kernel
theorem d_R_remove_36 : decode b_R_remove 36 = .ok (.iconst 1, 1) := by decide +kernel
theorem d_R_remove_37 : decode b_R_remove 37 = .ok (.ireturn, 1) := by decide +kernel
theorem d_R_copyCell_0 : decode b_R_copyCell 0 = .ok (.aload_n 0, 1) := by decide +kernel
theorem d_R_copyCell_1 : decode b_R_copyCell 1 = .ok (.getfield 32, 3) := by decide +kernel
theorem d_R_copyCell_4 : decode b_R_copyCell 4 = .ok (.iload_n 2, 1) := by decide +kernel
theorem d_R_copyCell_5 : decode b_R_copyCell 5 = .ok (.aload_n 0, 1) := by decide +kernel
theorem d_R_copyCell_6 : decode b_R_copyCell 6 = .ok (.getfield 32, 3) := by decide +kernel
theorem d_R_copyCell_9 : decode b_R_copyCell 9 = .ok (.iload_n 1, 1) := by decide +kernel
theorem d_R_copyCell_10 : decode b_R_copyCell 10 = .ok (.iaload, 1) := by decide +kernel
theorem d_R_copyCell_11 : decode b_R_copyCell 11 = .ok (.iastore, 1) := by decide +kernel
theorem d_R_copyCell_12 : decode b_R_copyCell 12 = .ok (.aload_n 0, 1) := by decide +kernel
theorem d_R_copyCell_13 : decode b_R_copyCell 13 = .ok (.getfield 35, 3) := by decide +kernel
theorem d_R_copyCell_16 : decode b_R_copyCell 16 = .ok (.iload_n 2, 1) := by decide +kernel
theorem d_R_copyCell_17 : decode b_R_copyCell 17 = .ok (.aload_n 0, 1) := by decide +kernel
theorem d_R_copyCell_18 : decode b_R_copyCell 18 = .ok (.getfield 35, 3) := by decide +kernel
theorem d_R_copyCell_21 : decode b_R_copyCell 21 = .ok (.iload_n 1, 1) := by decide +kernel
theorem d_R_copyCell_22 : decode b_R_copyCell 22 = .ok (.iaload, 1) := by decide +kernel
theorem d_R_copyCell_23 : decode b_R_copyCell 23 = .ok (.iastore, 1) := by decide +kernel
theorem d_R_copyCell_24 : decode b_R_copyCell 24 = .ok (.aload_n 0, 1) := by decide +kernel
theorem d_R_copyCell_25 : decode b_R_copyCell 25 = .ok (.getfield 38, 3) := by decide +kernel
theorem d_R_copyCell_28 : decode b_R_copyCell 28 = .ok (.iload_n 2, 1) := by decide +kernel
theorem d_R_copyCell_29 : decode b_R_copyCell 29 = .ok (.aload_n 0, 1) := by decide +kernel
theorem d_R_copyCell_30 : decode b_R_copyCell 30 = .ok (.getfield 38, 3) := by decide +kernel
theorem d_R_copyCell_33 : decode b_R_copyCell 33 = .ok (.iload_n 1, 1) := by decide +kernel
theorem d_R_copyCell_34 : decode b_R_copyCell 34 = .ok (.iaload, 1) := by decide +kernel
theorem d_R_copyCell_35 : decode b_R_copyCell 35 = .ok (.iastore, 1) := by decide +kernel
theorem d_R_copyCell_36 : decode b_R_copyCell 36 = .ok (.aload_n 0, 1) := by decide +kernel
theorem d_R_copyCell_37 : decode b_R_copyCell 37 = .ok (.getfield 41, 3) := by decide +kernel
theorem d_R_copyCell_40 : decode b_R_copyCell 40 = .ok (.iload_n 2, 1) := by decide +kernel
theorem d_R_copyCell_41 : decode b_R_copyCell 41 = .ok (.aload_n 0, 1) := by decide +kernel
theorem d_R_copyCell_42 : decode b_R_copyCell 42 = .ok (.getfield 41, 3) := by decide +kernel
theorem d_R_copyCell_45 : decode b_R_copyCell 45 = .ok (.iload_n 1, 1) := by decide +kernel
theorem d_R_copyCell_46 : decode b_R_copyCell 46 = .ok (.baload, 1) := by decide +kernel
theorem d_R_copyCell_47 : decode b_R_copyCell 47 = .ok (.bastore, 1) := by decide +kernel
theorem d_R_copyCell_48 : decode b_R_copyCell 48 = .ok (.aload_n 0, 1) := by decide +kernel
theorem d_R_copyCell_49 : decode b_R_copyCell 49 = .ok (.getfield 44, 3) := by decide +kernel
theorem d_R_copyCell_52 : decode b_R_copyCell 52 = .ok (.iload_n 2, 1) := by decide +kernel
theorem d_R_copyCell_53 : decode b_R_copyCell 53 = .ok (.aload_n 0, 1) := by decide +kernel
theorem d_R_copyCell_54 : decode b_R_copyCell 54 = .ok (.getfield 44, 3) := by decide +kernel
theorem d_R_copyCell_57 : decode b_R_copyCell 57 = .ok (.iload_n 1, 1) := by decide +kernel
theorem d_R_copyCell_58 : decode b_R_copyCell 58 = .ok (.iaload, 1) := by decide +kernel
theorem d_R_copyCell_59 : decode b_R_copyCell 59 = .ok (.iastore, 1) := by decide +kernel
theorem d_R_copyCell_60 : decode b_R_copyCell 60 = .ok (.return_, 1) := by decide +kernel
theorem d_R_drop_0 : decode b_R_drop 0 = .ok (.aload_n 0, 1) := by decide +kernel
theorem d_R_drop_1 : decode b_R_drop 1 = .ok (.iload_n 1, 1) := by decide +kernel
theorem d_R_drop_2 : decode b_R_drop 2 = .ok (.iload_n 2, 1) := by decide +kernel
theorem d_R_drop_3 : decode b_R_drop 3 = .ok (.iload_n 3, 1) := by decide +kernel
theorem d_R_drop_4 : decode b_R_drop 4 = .ok (.invokevirtual 80, 3) := by decide +kernel
theorem d_R_drop_7 : decode b_R_drop 7 = .ok (.istore 4, 2) := by decide +kernel
theorem d_R_drop_9 : decode b_R_drop 9 = .ok (.iload 4, 2) := by decide +kernel
theorem d_R_drop_11 : decode b_R_drop 11 = .ok (.ifCond .ge 5, 3) := by decide +kernel
theorem d_R_drop_14 : decode b_R_drop 14 = .ok (.iconst (-1), 1) := by decide +kernel
theorem d_R_drop_15 : decode b_R_drop 15 = .ok (.ireturn, 1) := by decide +kernel
theorem d_R_drop_16 : decode b_R_drop 16 = .ok (.iload 4, 2) := by decide +kernel
theorem d_R_drop_18 : decode b_R_drop 18 = .ok (.bipush 8, 2) := by decide +kernel
theorem d_R_drop_20 : decode b_R_drop 20 = .ok (.idiv, 1) := by decide +kernel
theorem d_R_drop_21 : decode b_R_drop 21 = .ok (.istore 5, 2) := by decide +kernel
theorem d_R_drop_23 : decode b_R_drop 23 = .ok (.aload_n 0, 1) := by decide +kernel
theorem d_R_drop_24 : decode b_R_drop 24 = .ok (.getfield 29, 3) := by decide +kernel
theorem d_R_drop_27 : decode b_R_drop 27 = .ok (.iload 5, 2) := by decide +kernel
theorem d_R_drop_29 : decode b_R_drop 29 = .ok (.dup2, 1) := by decide +kernel
theorem d_R_drop_30 : decode b_R_drop 30 = .ok (.iaload, 1) := by decide +kernel
theorem d_R_drop_31 : decode b_R_drop 31 = .ok (.iconst 1, 1) := by decide +kernel
theorem d_R_drop_32 : decode b_R_drop 32 = .ok (.isub, 1) := by decide +kernel
theorem d_R_drop_33 : decode b_R_drop 33 = .ok (.iastore, 1) := by decide +kernel
theorem d_R_drop_34 : decode b_R_drop 34 = .ok (.iload 4, 2) := by decide +kernel
theorem d_R_drop_36 : decode b_R_drop 36 = .ok (.istore 6, 2) := by decide +kernel
theorem d_R_drop_38 : decode b_R_drop 38 = .ok (.iload 6, 2) := by decide +kernel
theorem d_R_drop_40 : decode b_R_drop 40 = .ok (.bipush 8, 2) := by decide +kernel
theorem d_R_drop_42 : decode b_R_drop 42 = .ok (.iload 5, 2) := by decide +kernel
theorem d_R_drop_44 : decode b_R_drop 44 = .ok (.imul, 1) := by decide +kernel
theorem d_R_drop_45 : decode b_R_drop 45 = .ok (.aload_n 0, 1) := by decide +kernel
theorem d_R_drop_46 : decode b_R_drop 46 = .ok (.getfield 29, 3) := by decide +kernel
theorem d_R_drop_49 : decode b_R_drop 49 = .ok (.iload 5, 2) := by decide +kernel
theorem d_R_drop_51 : decode b_R_drop 51 = .ok (.iaload, 1) := by decide +kernel
theorem d_R_drop_52 : decode b_R_drop 52 = .ok (.iadd, 1) := by decide +kernel
theorem d_R_drop_53 : decode b_R_drop 53 = .ok (.if_icmp .ge 19, 3) := by decide +kernel
theorem d_R_drop_56 : decode b_R_drop 56 = .ok (.aload_n 0, 1) := by decide +kernel
theorem d_R_drop_57 : decode b_R_drop 57 = .ok (.iload 6, 2) := by decide +kernel
theorem d_R_drop_59 : decode b_R_drop 59 = .ok (.iconst 1, 1) := by decide +kernel
theorem d_R_drop_60 : decode b_R_drop 60 = .ok (.iadd, 1) := by decide +kernel
theorem d_R_drop_61 : decode b_R_drop 61 = .ok (.iload 6, 2) := by decide +kernel
theorem d_R_drop_63 : decode b_R_drop 63 = .ok (.invokevirtual 83, 3) := by decide +kernel
theorem d_R_drop_66 : decode b_R_drop 66 = .ok (.iinc 6 1, 3) := by decide +kernel
theorem d_R_drop_69 : decode b_R_drop 69 = .ok (.goto (-31), 3) := by decide +kernel
theorem d_R_drop_72 : decode b_R_drop 72 = .ok (.aload_n 0, 1) := by decide +kernel
theorem d_R_drop_73 : decode b_R_drop 73 = .ok (.getfield 29, 3) := by decide +kernel
theorem d_R_drop_76 : decode b_R_drop 76 = .ok (.iload 5, 2) := by decide +kernel
theorem d_R_drop_78 : decode b_R_drop 78 = .ok (.iaload, 1) := by decide +kernel
theorem d_R_drop_79 : decode b_R_drop 79 = .ok (.ireturn, 1) := by decide +kernel
theorem d_R_copyRow_0 : decode b_R_copyRow 0 = .ok (.aload_n 0, 1) := by decide +kernel
theorem d_R_copyRow_1 : decode b_R_copyRow 1 = .ok (.getfield 7, 3) := by decide +kernel
theorem d_R_copyRow_4 : decode b_R_copyRow 4 = .ok (.iload_n 2, 1) := by decide +kernel
theorem d_R_copyRow_5 : decode b_R_copyRow 5 = .ok (.aload_n 0, 1) := by decide +kernel
theorem d_R_copyRow_6 : decode b_R_copyRow 6 = .ok (.getfield 7, 3) := by decide +kernel
theorem d_R_copyRow_9 : decode b_R_copyRow 9 = .ok (.iload_n 1, 1) := by decide +kernel
theorem d_R_copyRow_10 : decode b_R_copyRow 10 = .ok (.baload, 1) := by decide +kernel
theorem d_R_copyRow_11 : decode b_R_copyRow 11 = .ok (.bastore, 1) := by decide +kernel
theorem d_R_copyRow_12 : decode b_R_copyRow 12 = .ok (.aload_n 0, 1) := by decide +kernel
theorem d_R_copyRow_13 : decode b_R_copyRow 13 = .ok (.getfield 13, 3) := by decide +kernel
theorem d_R_copyRow_16 : decode b_R_copyRow 16 = .ok (.iload_n 2, 1) := by decide +kernel
theorem d_R_copyRow_17 : decode b_R_copyRow 17 = .ok (.aload_n 0, 1) := by decide +kernel
theorem d_R_copyRow_18 : decode b_R_copyRow 18 = .ok (.getfield 13, 3) := by decide +kernel
theorem d_R_copyRow_21 : decode b_R_copyRow 21 = .ok (.iload_n 1, 1) := by decide +kernel
theorem d_R_copyRow_22 : decode b_R_copyRow 22 = .ok (.iaload, 1) := by decide +kernel
theorem d_R_copyRow_23 : decode b_R_copyRow 23 = .ok (.iastore, 1) := by decide +kernel
theorem d_R_copyRow_24 : decode b_R_copyRow 24 = .ok (.aload_n 0, 1) := by decide +kernel
theorem d_R_copyRow_25 : decode b_R_copyRow 25 = .ok (.getfield 17, 3) := by decide +kernel
theorem d_R_copyRow_28 : decode b_R_copyRow 28 = .ok (.iload_n 2, 1) := by decide +kernel
theorem d_R_copyRow_29 : decode b_R_copyRow 29 = .ok (.aload_n 0, 1) := by decide +kernel
theorem d_R_copyRow_30 : decode b_R_copyRow 30 = .ok (.getfield 17, 3) := by decide +kernel
theorem d_R_copyRow_33 : decode b_R_copyRow 33 = .ok (.iload_n 1, 1) := by decide +kernel
theorem d_R_copyRow_34 : decode b_R_copyRow 34 = .ok (.iaload, 1) := by decide +kernel
theorem d_R_copyRow_35 : decode b_R_copyRow 35 = .ok (.iastore, 1) := by decide +kernel
theorem d_R_copyRow_36 : decode b_R_copyRow 36 = .ok (.aload_n 0, 1) := by decide +kernel
theorem d_R_copyRow_37 : decode b_R_copyRow 37 = .ok (.getfield 20, 3) := by decide +kernel
theorem d_R_copyRow_40 : decode b_R_copyRow 40 = .ok (.iload_n 2, 1) := by decide +kernel
theorem d_R_copyRow_41 : decode b_R_copyRow 41 = .ok (.aload_n 0, 1) := by decide +kernel
theorem d_R_copyRow_42 : decode b_R_copyRow 42 = .ok (.getfield 20, 3) := by decide +kernel
theorem d_R_copyRow_45 : decode b_R_copyRow 45 = .ok (.iload_n 1, 1) := by decide +kernel
theorem d_R_copyRow_46 : decode b_R_copyRow 46 = .ok (.iaload, 1) := by decide +kernel
theorem d_R_copyRow_47 : decode b_R_copyRow 47 = .ok (.iastore, 1) := by decide +kernel
theorem d_R_copyRow_48 : decode b_R_copyRow 48 = .ok (.aload_n 0, 1) := by decide +kernel
theorem d_R_copyRow_49 : decode b_R_copyRow 49 = .ok (.getfield 23, 3) := by decide +kernel
theorem d_R_copyRow_52 : decode b_R_copyRow 52 = .ok (.iload_n 2, 1) := by decide +kernel
theorem d_R_copyRow_53 : decode b_R_copyRow 53 = .ok (.aload_n 0, 1) := by decide +kernel
theorem d_R_copyRow_54 : decode b_R_copyRow 54 = .ok (.getfield 23, 3) := by decide +kernel
theorem d_R_copyRow_57 : decode b_R_copyRow 57 = .ok (.iload_n 1, 1) := by decide +kernel
theorem d_R_copyRow_58 : decode b_R_copyRow 58 = .ok (.iaload, 1) := by decide +kernel
theorem d_R_copyRow_59 : decode b_R_copyRow 59 = .ok (.iastore, 1) := by decide +kernel
theorem d_R_copyRow_60 : decode b_R_copyRow 60 = .ok (.aload_n 0, 1) := by decide +kernel
theorem d_R_copyRow_61 : decode b_R_copyRow 61 = .ok (.getfield 29, 3) := by decide +kernel
theorem d_R_copyRow_64 : decode b_R_copyRow 64 = .ok (.iload_n 2, 1) := by decide +kernel
theorem d_R_copyRow_65 : decode b_R_copyRow 65 = .ok (.aload_n 0, 1) := by decide +kernel
theorem d_R_copyRow_66 : decode b_R_copyRow 66 = .ok (.getfield 29, 3) := by decide +kernel
theorem d_R_copyRow_69 : decode b_R_copyRow 69 = .ok (.iload_n 1, 1) := by decide +kernel
theorem d_R_copyRow_70 : decode b_R_copyRow 70 = .ok (.iaload, 1) := by decide +kernel
theorem d_R_copyRow_71 : decode b_R_copyRow 71 = .ok (.iastore, 1) := by decide +kernel
theorem d_R_copyRow_72 : decode b_R_copyRow 72 = .ok (.iconst 0, 1) := by decide +kernel
theorem d_R_copyRow_73 : decode b_R_copyRow 73 = .ok (.istore_n 3, 1) := by decide +kernel
theorem d_R_copyRow_74 : decode b_R_copyRow 74 = .ok (.iload_n 3, 1) := by decide +kernel
theorem d_R_copyRow_75 : decode b_R_copyRow 75 = .ok (.iconst 3, 1) := by decide +kernel
theorem d_R_copyRow_76 : decode b_R_copyRow 76 = .ok (.if_icmp .ge 29, 3) := by decide +kernel
theorem d_R_copyRow_79 : decode b_R_copyRow 79 = .ok (.aload_n 0, 1) := by decide +kernel
theorem d_R_copyRow_80 : decode b_R_copyRow 80 = .ok (.getfield 26, 3) := by decide +kernel
theorem d_R_copyRow_83 : decode b_R_copyRow 83 = .ok (.iconst 3, 1) := by decide +kernel
theorem d_R_copyRow_84 : decode b_R_copyRow 84 = .ok (.iload_n 2, 1) := by decide +kernel
theorem d_R_copyRow_85 : decode b_R_copyRow 85 = .ok (.imul, 1) := by decide +kernel
theorem d_R_copyRow_86 : decode b_R_copyRow 86 = .ok (.iload_n 3, 1) := by decide +kernel
theorem d_R_copyRow_87 : decode b_R_copyRow 87 = .ok (.iadd, 1) := by decide +kernel
theorem d_R_copyRow_88 : decode b_R_copyRow 88 = .ok (.aload_n 0, 1) := by decide +kernel
theorem d_R_copyRow_89 : decode b_R_copyRow 89 = .ok (.getfield 26, 3) := by decide +kernel
theorem d_R_copyRow_92 : decode b_R_copyRow 92 = .ok (.iconst 3, 1) := by decide +kernel
theorem d_R_copyRow_93 : decode b_R_copyRow 93 = .ok (.iload_n 1, 1) := by decide +kernel
theorem d_R_copyRow_94 : decode b_R_copyRow 94 = .ok (.imul, 1) := by decide +kernel
theorem d_R_copyRow_95 : decode b_R_copyRow 95 = .ok (.iload_n 3, 1) := by decide +kernel
theorem d_R_copyRow_96 : decode b_R_copyRow 96 = .ok (.iadd, 1) := by decide +kernel
theorem d_R_copyRow_97 : decode b_R_copyRow 97 = .ok (.iaload, 1) := by decide +kernel
theorem d_R_copyRow_98 : decode b_R_copyRow 98 = .ok (.iastore, 1) := by decide +kernel
theorem d_R_copyRow_99 : decode b_R_copyRow 99 = .ok (.iinc 3 1, 3) := by decide +kernel
theorem d_R_copyRow_102 : decode b_R_copyRow 102 = .ok (.goto (-28), 3) := by decide +kernel
theorem d_R_copyRow_105 : decode b_R_copyRow 105 = .ok (.iconst 0, 1) := by decide +kernel
theorem d_R_copyRow_106 : decode b_R_copyRow 106 = .ok (.istore_n 3, 1) := by decide +kernel
theorem d_R_copyRow_107 : decode b_R_copyRow 107 = .ok (.iload_n 3, 1) := by decide +kernel
theorem d_R_copyRow_108 : decode b_R_copyRow 108 = .ok (.bipush 8, 2) := by decide +kernel
theorem d_R_copyRow_110 : decode b_R_copyRow 110 = .ok (.if_icmp .ge 25, 3) := by decide +kernel
theorem d_R_copyRow_113 : decode b_R_copyRow 113 = .ok (.aload_n 0, 1) := by decide +kernel
theorem d_R_copyRow_114 : decode b_R_copyRow 114 = .ok (.bipush 8, 2) := by decide +kernel
theorem d_R_copyRow_116 : decode b_R_copyRow 116 = .ok (.iload_n 1, 1) := by decide +kernel
theorem d_R_copyRow_117 : decode b_R_copyRow 117 = .ok (.imul, 1) := by decide +kernel
theorem d_R_copyRow_118 : decode b_R_copyRow 118 = .ok (.iload_n 3, 1) := by decide +kernel
theorem d_R_copyRow_119 : decode b_R_copyRow 119 = .ok (.iadd, 1) := by decide +kernel
theorem d_R_copyRow_120 : decode b_R_copyRow 120 = .ok (.bipush 8, 2) := by decide +kernel
theorem d_R_copyRow_122 : decode b_R_copyRow 122 = .ok (.iload_n 2, 1) := by decide +kernel
theorem d_R_copyRow_123 : decode b_R_copyRow 123 = .ok (.imul, 1) := by decide +kernel
theorem d_R_copyRow_124 : decode b_R_copyRow 124 = .ok (.iload_n 3, 1) := by decide +kernel
theorem d_R_copyRow_125 : decode b_R_copyRow 125 = .ok (.iadd, 1) := by decide +kernel
theorem d_R_copyRow_126 : decode b_R_copyRow 126 = .ok (.invokevirtual 83, 3) := by decide +kernel
theorem d_R_copyRow_129 : decode b_R_copyRow 129 = .ok (.iinc 3 1, 3) := by decide +kernel
theorem d_R_copyRow_132 : decode b_R_copyRow 132 = .ok (.goto (-25), 3) := by decide +kernel
theorem d_R_copyRow_135 : decode b_R_copyRow 135 = .ok (.return_, 1) := by decide +kernel
theorem d_R_copy_0 : decode b_R_copy 0 = .ok (.iconst 0, 1) := by decide +kernel
theorem d_R_copy_1 : decode b_R_copy 1 = .ok (.istore_n 1, 1) := by decide +kernel
theorem d_R_copy_2 : decode b_R_copy 2 = .ok (.iload_n 1, 1) := by decide +kernel
theorem d_R_copy_3 : decode b_R_copy 3 = .ok (.bipush 12, 2) := by decide +kernel
theorem d_R_copy_5 : decode b_R_copy 5 = .ok (.if_icmp .ge 18, 3) := by decide +kernel
theorem d_R_copy_8 : decode b_R_copy 8 = .ok (.aload_n 0, 1) := by decide +kernel
theorem d_R_copy_9 : decode b_R_copy 9 = .ok (.iload_n 1, 1) := by decide +kernel
theorem d_R_copy_10 : decode b_R_copy 10 = .ok (.bipush 12, 2) := by decide +kernel
theorem d_R_copy_12 : decode b_R_copy 12 = .ok (.iload_n 1, 1) := by decide +kernel
theorem d_R_copy_13 : decode b_R_copy 13 = .ok (.iadd, 1) := by decide +kernel
theorem d_R_copy_14 : decode b_R_copy 14 = .ok (.invokevirtual 87, 3) := by decide +kernel
theorem d_R_copy_17 : decode b_R_copy 17 = .ok (.iinc 1 1, 3) := by decide +kernel
theorem d_R_copy_20 : decode b_R_copy 20 = .ok (.goto (-18), 3) := by decide +kernel
theorem d_R_copy_23 : decode b_R_copy 23 = .ok (.aload_n 0, 1) := by decide +kernel
theorem d_R_copy_24 : decode b_R_copy 24 = .ok (.iconst 1, 1) := by decide +kernel
theorem d_R_copy_25 : decode b_R_copy 25 = .ok (.invokevirtual 90, 3) := by decide +kernel
theorem d_R_copy_28 : decode b_R_copy 28 = .ok (.ireturn, 1) := by decide +kernel
theorem d_R_swap_0 : decode b_R_swap 0 = .ok (.iconst 0, 1) := by decide +kernel
theorem d_R_swap_1 : decode b_R_swap 1 = .ok (.istore_n 1, 1) := by decide +kernel
theorem d_R_swap_2 : decode b_R_swap 2 = .ok (.iload_n 1, 1) := by decide +kernel
theorem d_R_swap_3 : decode b_R_swap 3 = .ok (.bipush 12, 2) := by decide +kernel
theorem d_R_swap_5 : decode b_R_swap 5 = .ok (.if_icmp .ge 128, 3) := by decide +kernel
theorem d_R_swap_8 : decode b_R_swap 8 = .ok (.aload_n 0, 1) := by decide +kernel
theorem d_R_swap_9 : decode b_R_swap 9 = .ok (.getfield 7, 3) := by decide +kernel
theorem d_R_swap_12 : decode b_R_swap 12 = .ok (.iload_n 1, 1) := by decide +kernel
theorem d_R_swap_13 : decode b_R_swap 13 = .ok (.baload, 1) := by decide +kernel
theorem d_R_swap_14 : decode b_R_swap 14 = .ok (.istore_n 2, 1) := by decide +kernel
theorem d_R_swap_15 : decode b_R_swap 15 = .ok (.aload_n 0, 1) := by decide +kernel
theorem d_R_swap_16 : decode b_R_swap 16 = .ok (.getfield 13, 3) := by decide +kernel
theorem d_R_swap_19 : decode b_R_swap 19 = .ok (.iload_n 1, 1) := by decide +kernel
theorem d_R_swap_20 : decode b_R_swap 20 = .ok (.iaload, 1) := by decide +kernel
theorem d_R_swap_21 : decode b_R_swap 21 = .ok (.istore_n 3, 1) := by decide +kernel
theorem d_R_swap_22 : decode b_R_swap 22 = .ok (.aload_n 0, 1) := by decide +kernel
theorem d_R_swap_23 : decode b_R_swap 23 = .ok (.getfield 17, 3) := by decide +kernel
theorem d_R_swap_26 : decode b_R_swap 26 = .ok (.iload_n 1, 1) := by decide +kernel
theorem d_R_swap_27 : decode b_R_swap 27 = .ok (.iaload, 1) := by decide +kernel
theorem d_R_swap_28 : decode b_R_swap 28 = .ok (.istore 4, 2) := by decide +kernel
theorem d_R_swap_30 : decode b_R_swap 30 = .ok (.aload_n 0, 1) := by decide +kernel
theorem d_R_swap_31 : decode b_R_swap 31 = .ok (.getfield 20, 3) := by decide +kernel
theorem d_R_swap_34 : decode b_R_swap 34 = .ok (.iload_n 1, 1) := by decide +kernel
theorem d_R_swap_35 : decode b_R_swap 35 = .ok (.iaload, 1) := by decide +kernel
theorem d_R_swap_36 : decode b_R_swap 36 = .ok (.istore 5, 2) := by decide +kernel
theorem d_R_swap_38 : decode b_R_swap 38 = .ok (.aload_n 0, 1) := by decide +kernel
theorem d_R_swap_39 : decode b_R_swap 39 = .ok (.getfield 23, 3) := by decide +kernel
theorem d_R_swap_42 : decode b_R_swap 42 = .ok (.iload_n 1, 1) := by decide +kernel
theorem d_R_swap_43 : decode b_R_swap 43 = .ok (.iaload, 1) := by decide +kernel
theorem d_R_swap_44 : decode b_R_swap 44 = .ok (.istore 6, 2) := by decide +kernel
theorem d_R_swap_46 : decode b_R_swap 46 = .ok (.aload_n 0, 1) := by decide +kernel
theorem d_R_swap_47 : decode b_R_swap 47 = .ok (.getfield 29, 3) := by decide +kernel
theorem d_R_swap_50 : decode b_R_swap 50 = .ok (.iload_n 1, 1) := by decide +kernel
theorem d_R_swap_51 : decode b_R_swap 51 = .ok (.iaload, 1) := by decide +kernel
theorem d_R_swap_52 : decode b_R_swap 52 = .ok (.istore 7, 2) := by decide +kernel
theorem d_R_swap_54 : decode b_R_swap 54 = .ok (.aload_n 0, 1) := by decide +kernel
theorem d_R_swap_55 : decode b_R_swap 55 = .ok (.bipush 12, 2) := by decide +kernel
theorem d_R_swap_57 : decode b_R_swap 57 = .ok (.iload_n 1, 1) := by decide +kernel
theorem d_R_swap_58 : decode b_R_swap 58 = .ok (.iadd, 1) := by decide +kernel
theorem d_R_swap_59 : decode b_R_swap 59 = .ok (.iload_n 1, 1) := by decide +kernel
theorem d_R_swap_60 : decode b_R_swap 60 = .ok (.invokevirtual 94, 3) := by decide +kernel
theorem d_R_swap_63 : decode b_R_swap 63 = .ok (.aload_n 0, 1) := by decide +kernel
theorem d_R_swap_64 : decode b_R_swap 64 = .ok (.getfield 7, 3) := by decide +kernel
theorem d_R_swap_67 : decode b_R_swap 67 = .ok (.bipush 12, 2) := by decide +kernel
theorem d_R_swap_69 : decode b_R_swap 69 = .ok (.iload_n 1, 1) := by decide +kernel
theorem d_R_swap_70 : decode b_R_swap 70 = .ok (.iadd, 1) := by decide +kernel
theorem d_R_swap_71 : decode b_R_swap 71 = .ok (.iload_n 2, 1) := by decide +kernel
theorem d_R_swap_72 : decode b_R_swap 72 = .ok (.bastore, 1) := by decide +kernel
theorem d_R_swap_73 : decode b_R_swap 73 = .ok (.aload_n 0, 1) := by decide +kernel
theorem d_R_swap_74 : decode b_R_swap 74 = .ok (.getfield 13, 3) := by decide +kernel
theorem d_R_swap_77 : decode b_R_swap 77 = .ok (.bipush 12, 2) := by decide +kernel
theorem d_R_swap_79 : decode b_R_swap 79 = .ok (.iload_n 1, 1) := by decide +kernel
theorem d_R_swap_80 : decode b_R_swap 80 = .ok (.iadd, 1) := by decide +kernel
theorem d_R_swap_81 : decode b_R_swap 81 = .ok (.iload_n 3, 1) := by decide +kernel
theorem d_R_swap_82 : decode b_R_swap 82 = .ok (.iastore, 1) := by decide +kernel
theorem d_R_swap_83 : decode b_R_swap 83 = .ok (.aload_n 0, 1) := by decide +kernel
theorem d_R_swap_84 : decode b_R_swap 84 = .ok (.getfield 17, 3) := by decide +kernel
theorem d_R_swap_87 : decode b_R_swap 87 = .ok (.bipush 12, 2) := by decide +kernel
theorem d_R_swap_89 : decode b_R_swap 89 = .ok (.iload_n 1, 1) := by decide +kernel
theorem d_R_swap_90 : decode b_R_swap 90 = .ok (.iadd, 1) := by decide +kernel
theorem d_R_swap_91 : decode b_R_swap 91 = .ok (.iload 4, 2) := by decide +kernel
theorem d_R_swap_93 : decode b_R_swap 93 = .ok (.iastore, 1) := by decide +kernel
theorem d_R_swap_94 : decode b_R_swap 94 = .ok (.aload_n 0, 1) := by decide +kernel
theorem d_R_swap_95 : decode b_R_swap 95 = .ok (.getfield 20, 3) := by decide +kernel
theorem d_R_swap_98 : decode b_R_swap 98 = .ok (.bipush 12, 2) := by decide +kernel
theorem d_R_swap_100 : decode b_R_swap 100 = .ok (.iload_n 1, 1) := by decide +kernel
theorem d_R_swap_101 : decode b_R_swap 101 = .ok (.iadd, 1) := by decide +kernel
theorem d_R_swap_102 : decode b_R_swap 102 = .ok (.iload 5, 2) := by decide +kernel
theorem d_R_swap_104 : decode b_R_swap 104 = .ok (.iastore, 1) := by decide +kernel
theorem d_R_swap_105 : decode b_R_swap 105 = .ok (.aload_n 0, 1) := by decide +kernel
theorem d_R_swap_106 : decode b_R_swap 106 = .ok (.getfield 23, 3) := by decide +kernel
theorem d_R_swap_109 : decode b_R_swap 109 = .ok (.bipush 12, 2) := by decide +kernel
theorem d_R_swap_111 : decode b_R_swap 111 = .ok (.iload_n 1, 1) := by decide +kernel
theorem d_R_swap_112 : decode b_R_swap 112 = .ok (.iadd, 1) := by decide +kernel
theorem d_R_swap_113 : decode b_R_swap 113 = .ok (.iload 6, 2) := by decide +kernel
theorem d_R_swap_115 : decode b_R_swap 115 = .ok (.iastore, 1) := by decide +kernel
theorem d_R_swap_116 : decode b_R_swap 116 = .ok (.aload_n 0, 1) := by decide +kernel
theorem d_R_swap_117 : decode b_R_swap 117 = .ok (.getfield 29, 3) := by decide +kernel
theorem d_R_swap_120 : decode b_R_swap 120 = .ok (.bipush 12, 2) := by decide +kernel
theorem d_R_swap_122 : decode b_R_swap 122 = .ok (.iload_n 1, 1) := by decide +kernel
theorem d_R_swap_123 : decode b_R_swap 123 = .ok (.iadd, 1) := by decide +kernel
theorem d_R_swap_124 : decode b_R_swap 124 = .ok (.iload 7, 2) := by decide +kernel
theorem d_R_swap_126 : decode b_R_swap 126 = .ok (.iastore, 1) := by decide +kernel
theorem d_R_swap_127 : decode b_R_swap 127 = .ok (.iinc 1 1, 3) := by decide +kernel
theorem d_R_swap_130 : decode b_R_swap 130 = .ok (.goto (-128), 3) := by decide +kernel
theorem d_R_swap_133 : decode b_R_swap 133 = .ok (.iconst 0, 1) := by decide +kernel
theorem d_R_swap_134 : decode b_R_swap 134 = .ok (.istore_n 1, 1) := by decide +kernel
theorem d_R_swap_135 : decode b_R_swap 135 = .ok (.iload_n 1, 1) := by decide +kernel
theorem d_R_swap_136 : decode b_R_swap 136 = .ok (.bipush 36, 2) := by decide +kernel
theorem d_R_swap_138 : decode b_R_swap 138 = .ok (.if_icmp .ge 41, 3) := by decide +kernel
theorem d_R_swap_141 : decode b_R_swap 141 = .ok (.aload_n 0, 1) := by decide +kernel
theorem d_R_swap_142 : decode b_R_swap 142 = .ok (.getfield 26, 3) := by decide +kernel
theorem d_R_swap_145 : decode b_R_swap 145 = .ok (.iload_n 1, 1) := by decide +kernel
theorem d_R_swap_146 : decode b_R_swap 146 = .ok (.iaload, 1) := by decide +kernel
theorem d_R_swap_147 : decode b_R_swap 147 = .ok (.istore_n 2, 1) := by decide +kernel
theorem d_R_swap_148 : decode b_R_swap 148 = .ok (.aload_n 0, 1) := by decide +kernel
theorem d_R_swap_149 : decode b_R_swap 149 = .ok (.getfield 26, 3) := by decide +kernel
theorem d_R_swap_152 : decode b_R_swap 152 = .ok (.iload_n 1, 1) := by decide +kernel
theorem d_R_swap_153 : decode b_R_swap 153 = .ok (.aload_n 0, 1) := by decide +kernel
theorem d_R_swap_154 : decode b_R_swap 154 = .ok (.getfield 26, 3) := by decide +kernel
theorem d_R_swap_157 : decode b_R_swap 157 = .ok (.bipush 36, 2) := by decide +kernel
theorem d_R_swap_159 : decode b_R_swap 159 = .ok (.iload_n 1, 1) := by decide +kernel
theorem d_R_swap_160 : decode b_R_swap 160 = .ok (.iadd, 1) := by decide +kernel
theorem d_R_swap_161 : decode b_R_swap 161 = .ok (.iaload, 1) := by decide +kernel
theorem d_R_swap_162 : decode b_R_swap 162 = .ok (.iastore, 1) := by decide +kernel
theorem d_R_swap_163 : decode b_R_swap 163 = .ok (.aload_n 0, 1) := by decide +kernel
theorem d_R_swap_164 : decode b_R_swap 164 = .ok (.getfield 26, 3) := by decide +kernel
theorem d_R_swap_167 : decode b_R_swap 167 = .ok (.bipush 36, 2) := by decide +kernel
theorem d_R_swap_169 : decode b_R_swap 169 = .ok (.iload_n 1, 1) := by decide +kernel
theorem d_R_swap_170 : decode b_R_swap 170 = .ok (.iadd, 1) := by decide +kernel
theorem d_R_swap_171 : decode b_R_swap 171 = .ok (.iload_n 2, 1) := by decide +kernel
theorem d_R_swap_172 : decode b_R_swap 172 = .ok (.iastore, 1) := by decide +kernel
theorem d_R_swap_173 : decode b_R_swap 173 = .ok (.iinc 1 1, 3) := by decide +kernel
theorem d_R_swap_176 : decode b_R_swap 176 = .ok (.goto (-41), 3) := by decide +kernel
theorem d_R_swap_179 : decode b_R_swap 179 = .ok (.iconst 0, 1) := by decide +kernel
theorem d_R_swap_180 : decode b_R_swap 180 = .ok (.istore_n 1, 1) := by decide +kernel
theorem d_R_swap_181 : decode b_R_swap 181 = .ok (.iload_n 1, 1) := by decide +kernel
theorem d_R_swap_182 : decode b_R_swap 182 = .ok (.bipush 96, 2) := by decide +kernel
theorem d_R_swap_184 : decode b_R_swap 184 = .ok (.if_icmp .ge 18, 3) := by decide +kernel
theorem d_R_swap_187 : decode b_R_swap 187 = .ok (.aload_n 0, 1) := by decide +kernel
theorem d_R_swap_188 : decode b_R_swap 188 = .ok (.iload_n 1, 1) := by decide +kernel
theorem d_R_swap_189 : decode b_R_swap 189 = .ok (.bipush 96, 2) := by decide +kernel
theorem d_R_swap_191 : decode b_R_swap 191 = .ok (.iload_n 1, 1) := by decide +kernel
theorem d_R_swap_192 : decode b_R_swap 192 = .ok (.iadd, 1) := by decide +kernel
theorem d_R_swap_193 : decode b_R_swap 193 = .ok (.invokevirtual 97, 3) := by decide +kernel
theorem d_R_swap_196 : decode b_R_swap 196 = .ok (.iinc 1 1, 3) := by decide +kernel
theorem d_R_swap_199 : decode b_R_swap 199 = .ok (.goto (-18), 3) := by decide +kernel
theorem d_R_swap_202 : decode b_R_swap 202 = .ok (.return_, 1) := by decide +kernel
theorem d_R_copyHead_0 : decode b_R_copyHead 0 = .ok (.aload_n 0, 1) := by decide +kernel
theorem d_R_copyHead_1 : decode b_R_copyHead 1 = .ok (.getfield 7, 3) := by decide +kernel
theorem d_R_copyHead_4 : decode b_R_copyHead 4 = .ok (.iload_n 2, 1) := by decide +kernel
theorem d_R_copyHead_5 : decode b_R_copyHead 5 = .ok (.aload_n 0, 1) := by decide +kernel
theorem d_R_copyHead_6 : decode b_R_copyHead 6 = .ok (.getfield 7, 3) := by decide +kernel
theorem d_R_copyHead_9 : decode b_R_copyHead 9 = .ok (.iload_n 1, 1) := by decide +kernel
theorem d_R_copyHead_10 : decode b_R_copyHead 10 = .ok (.baload, 1) := by decide +kernel
theorem d_R_copyHead_11 : decode b_R_copyHead 11 = .ok (.bastore, 1) := by decide +kernel
theorem d_R_copyHead_12 : decode b_R_copyHead 12 = .ok (.aload_n 0, 1) := by decide +kernel
theorem d_R_copyHead_13 : decode b_R_copyHead 13 = .ok (.getfield 13, 3) := by decide +kernel
theorem d_R_copyHead_16 : decode b_R_copyHead 16 = .ok (.iload_n 2, 1) := by decide +kernel
theorem d_R_copyHead_17 : decode b_R_copyHead 17 = .ok (.aload_n 0, 1) := by decide +kernel
theorem d_R_copyHead_18 : decode b_R_copyHead 18 = .ok (.getfield 13, 3) := by decide +kernel
theorem d_R_copyHead_21 : decode b_R_copyHead 21 = .ok (.iload_n 1, 1) := by decide +kernel
theorem d_R_copyHead_22 : decode b_R_copyHead 22 = .ok (.iaload, 1) := by decide +kernel
theorem d_R_copyHead_23 : decode b_R_copyHead 23 = .ok (.iastore, 1) := by decide +kernel
theorem d_R_copyHead_24 : decode b_R_copyHead 24 = .ok (.aload_n 0, 1) := by decide +kernel
theorem d_R_copyHead_25 : decode b_R_copyHead 25 = .ok (.getfield 17, 3) := by decide +kernel
theorem d_R_copyHead_28 : decode b_R_copyHead 28 = .ok (.iload_n 2, 1) := by decide +kernel
theorem d_R_copyHead_29 : decode b_R_copyHead 29 = .ok (.aload_n 0, 1) := by decide +kernel
theorem d_R_copyHead_30 : decode b_R_copyHead 30 = .ok (.getfield 17, 3) := by decide +kernel
theorem d_R_copyHead_33 : decode b_R_copyHead 33 = .ok (.iload_n 1, 1) := by decide +kernel
theorem d_R_copyHead_34 : decode b_R_copyHead 34 = .ok (.iaload, 1) := by decide +kernel
theorem d_R_copyHead_35 : decode b_R_copyHead 35 = .ok (.iastore, 1) := by decide +kernel
theorem d_R_copyHead_36 : decode b_R_copyHead 36 = .ok (.aload_n 0, 1) := by decide +kernel
theorem d_R_copyHead_37 : decode b_R_copyHead 37 = .ok (.getfield 20, 3) := by decide +kernel
theorem d_R_copyHead_40 : decode b_R_copyHead 40 = .ok (.iload_n 2, 1) := by decide +kernel
theorem d_R_copyHead_41 : decode b_R_copyHead 41 = .ok (.aload_n 0, 1) := by decide +kernel
theorem d_R_copyHead_42 : decode b_R_copyHead 42 = .ok (.getfield 20, 3) := by decide +kernel
theorem d_R_copyHead_45 : decode b_R_copyHead 45 = .ok (.iload_n 1, 1) := by decide +kernel
theorem d_R_copyHead_46 : decode b_R_copyHead 46 = .ok (.iaload, 1) := by decide +kernel
theorem d_R_copyHead_47 : decode b_R_copyHead 47 = .ok (.iastore, 1) := by decide +kernel
theorem d_R_copyHead_48 : decode b_R_copyHead 48 = .ok (.aload_n 0, 1) := by decide +kernel
theorem d_R_copyHead_49 : decode b_R_copyHead 49 = .ok (.getfield 23, 3) := by decide +kernel
theorem d_R_copyHead_52 : decode b_R_copyHead 52 = .ok (.iload_n 2, 1) := by decide +kernel
theorem d_R_copyHead_53 : decode b_R_copyHead 53 = .ok (.aload_n 0, 1) := by decide +kernel
theorem d_R_copyHead_54 : decode b_R_copyHead 54 = .ok (.getfield 23, 3) := by decide +kernel
theorem d_R_copyHead_57 : decode b_R_copyHead 57 = .ok (.iload_n 1, 1) := by decide +kernel
theorem d_R_copyHead_58 : decode b_R_copyHead 58 = .ok (.iaload, 1) := by decide +kernel
theorem d_R_copyHead_59 : decode b_R_copyHead 59 = .ok (.iastore, 1) := by decide +kernel
theorem d_R_copyHead_60 : decode b_R_copyHead 60 = .ok (.aload_n 0, 1) := by decide +kernel
theorem d_R_copyHead_61 : decode b_R_copyHead 61 = .ok (.getfield 29, 3) := by decide +kernel
theorem d_R_copyHead_64 : decode b_R_copyHead 64 = .ok (.iload_n 2, 1) := by decide +kernel
theorem d_R_copyHead_65 : decode b_R_copyHead 65 = .ok (.aload_n 0, 1) := by decide +kernel
theorem d_R_copyHead_66 : decode b_R_copyHead 66 = .ok (.getfield 29, 3) := by decide +kernel
theorem d_R_copyHead_69 : decode b_R_copyHead 69 = .ok (.iload_n 1, 1) := by decide +kernel
theorem d_R_copyHead_70 : decode b_R_copyHead 70 = .ok (.iaload, 1) := by decide +kernel
theorem d_R_copyHead_71 : decode b_R_copyHead 71 = .ok (.iastore, 1) := by decide +kernel
theorem d_R_copyHead_72 : decode b_R_copyHead 72 = .ok (.return_, 1) := by decide +kernel
theorem d_R_swapCell_0 : decode b_R_swapCell 0 = .ok (.aload_n 0, 1) := by decide +kernel
theorem d_R_swapCell_1 : decode b_R_swapCell 1 = .ok (.getfield 32, 3) := by decide +kernel
theorem d_R_swapCell_4 : decode b_R_swapCell 4 = .ok (.iload_n 1, 1) := by decide +kernel
theorem d_R_swapCell_5 : decode b_R_swapCell 5 = .ok (.iaload, 1) := by decide +kernel
theorem d_R_swapCell_6 : decode b_R_swapCell 6 = .ok (.istore_n 3, 1) := by decide +kernel
theorem d_R_swapCell_7 : decode b_R_swapCell 7 = .ok (.aload_n 0, 1) := by decide +kernel
theorem d_R_swapCell_8 : decode b_R_swapCell 8 = .ok (.getfield 35, 3) := by decide +kernel
theorem d_R_swapCell_11 : decode b_R_swapCell 11 = .ok (.iload_n 1, 1) := by decide +kernel
theorem d_R_swapCell_12 : decode b_R_swapCell 12 = .ok (.iaload, 1) := by decide +kernel
theorem d_R_swapCell_13 : decode b_R_swapCell 13 = .ok (.istore 4, 2) := by decide +kernel
theorem d_R_swapCell_15 : decode b_R_swapCell 15 = .ok (.aload_n 0, 1) := by decide +kernel
theorem d_R_swapCell_16 : decode b_R_swapCell 16 = .ok (.getfield 38, 3) := by decide +kernel
theorem d_R_swapCell_19 : decode b_R_swapCell 19 = .ok (.iload_n 1, 1) := by decide +kernel
theorem d_R_swapCell_20 : decode b_R_swapCell 20 = .ok (.iaload, 1) := by decide +kernel
theorem d_R_swapCell_21 : decode b_R_swapCell 21 = .ok (.istore 5, 2) := by decide +kernel
theorem d_R_swapCell_23 : decode b_R_swapCell 23 = .ok (.aload_n 0, 1) := by decide +kernel
theorem d_R_swapCell_24 : decode b_R_swapCell 24 = .ok (.getfield 41, 3) := by decide +kernel
theorem d_R_swapCell_27 : decode b_R_swapCell 27 = .ok (.iload_n 1, 1) := by decide +kernel
theorem d_R_swapCell_28 : decode b_R_swapCell 28 = .ok (.baload, 1) := by decide +kernel
theorem d_R_swapCell_29 : decode b_R_swapCell 29 = .ok (.istore 6, 2) := by decide +kernel
theorem d_R_swapCell_31 : decode b_R_swapCell 31 = .ok (.aload_n 0, 1) := by decide +kernel
theorem d_R_swapCell_32 : decode b_R_swapCell 32 = .ok (.getfield 44, 3) := by decide +kernel
theorem d_R_swapCell_35 : decode b_R_swapCell 35 = .ok (.iload_n 1, 1) := by decide +kernel
theorem d_R_swapCell_36 : decode b_R_swapCell 36 = .ok (.iaload, 1) := by decide +kernel
theorem d_R_swapCell_37 : decode b_R_swapCell 37 = .ok (.istore 7, 2) := by decide +kernel
theorem d_R_swapCell_39 : decode b_R_swapCell 39 = .ok (.aload_n 0, 1) := by decide +kernel
theorem d_R_swapCell_40 : decode b_R_swapCell 40 = .ok (.iload_n 2, 1) := by decide +kernel
theorem d_R_swapCell_41 : decode b_R_swapCell 41 = .ok (.iload_n 1, 1) := by decide +kernel
theorem d_R_swapCell_42 : decode b_R_swapCell 42 = .ok (.invokevirtual 83, 3) := by decide +kernel
theorem d_R_swapCell_45 : decode b_R_swapCell 45 = .ok (.aload_n 0, 1) := by decide +kernel
theorem d_R_swapCell_46 : decode b_R_swapCell 46 = .ok (.getfield 32, 3) := by decide +kernel
theorem d_R_swapCell_49 : decode b_R_swapCell 49 = .ok (.iload_n 2, 1) := by decide +kernel
theorem d_R_swapCell_50 : decode b_R_swapCell 50 = .ok (.iload_n 3, 1) := by decide +kernel
theorem d_R_swapCell_51 : decode b_R_swapCell 51 = .ok (.iastore, 1) := by decide +kernel
theorem d_R_swapCell_52 : decode b_R_swapCell 52 = .ok (.aload_n 0, 1) := by decide +kernel
theorem d_R_swapCell_53 : decode b_R_swapCell 53 = .ok (.getfield 35, 3) := by decide +kernel
theorem d_R_swapCell_56 : decode b_R_swapCell 56 = .ok (.iload_n 2, 1) := by decide +kernel
theorem d_R_swapCell_57 : decode b_R_swapCell 57 = .ok (.iload 4, 2) := by decide +kernel
theorem d_R_swapCell_59 : decode b_R_swapCell 59 = .ok (.iastore, 1) := by decide +kernel
theorem d_R_swapCell_60 : decode b_R_swapCell 60 = .ok (.aload_n 0, 1) := by decide +kernel
theorem d_R_swapCell_61 : decode b_R_swapCell 61 = .ok (.getfield 38, 3) := by decide +kernel
theorem d_R_swapCell_64 : decode b_R_swapCell 64 = .ok (.iload_n 2, 1) := by decide +kernel
theorem d_R_swapCell_65 : decode b_R_swapCell 65 = .ok (.iload 5, 2) := by decide +kernel
theorem d_R_swapCell_67 : decode b_R_swapCell 67 = .ok (.iastore, 1) := by decide +kernel
theorem d_R_swapCell_68 : decode b_R_swapCell 68 = .ok (.aload_n 0, 1) := by decide +kernel
theorem d_R_swapCell_69 : decode b_R_swapCell 69 = .ok (.getfield 41, 3) := by decide +kernel
theorem d_R_swapCell_72 : decode b_R_swapCell 72 = .ok (.iload_n 2, 1) := by decide +kernel
theorem d_R_swapCell_73 : decode b_R_swapCell 73 = .ok (.iload 6, 2) := by decide +kernel
theorem d_R_swapCell_75 : decode b_R_swapCell 75 = .ok (.bastore, 1) := by decide +kernel
theorem d_R_swapCell_76 : decode b_R_swapCell 76 = .ok (.aload_n 0, 1) := by decide +kernel
theorem d_R_swapCell_77 : decode b_R_swapCell 77 = .ok (.getfield 44, 3) := by decide +kernel
theorem d_R_swapCell_80 : decode b_R_swapCell 80 = .ok (.iload_n 2, 1) := by decide +kernel
theorem d_R_swapCell_81 : decode b_R_swapCell 81 = .ok (.iload 7, 2) := by decide +kernel
theorem d_R_swapCell_83 : decode b_R_swapCell 83 = .ok (.iastore, 1) := by decide +kernel
theorem d_R_swapCell_84 : decode b_R_swapCell 84 = .ok (.return_, 1) := by decide +kernel
theorem d_R_suppress_0 : decode b_R_suppress 0 = .ok (.iload_n 1, 1) := by decide +kernel
theorem d_R_suppress_1 : decode b_R_suppress 1 = .ok (.bipush 13, 2) := by decide +kernel
theorem d_R_suppress_3 : decode b_R_suppress 3 = .ok (.invokestatic 59, 3) := by decide +kernel
theorem d_R_suppress_6 : decode b_R_suppress 6 = .ok (.ifCond .ne 12, 3) := by decide +kernel
theorem d_R_suppress_9 : decode b_R_suppress 9 = .ok (.iload_n 2, 1) := by decide +kernel
theorem d_R_suppress_10 : decode b_R_suppress 10 = .ok (.bipush 11, 2) := by decide +kernel
theorem d_R_suppress_12 : decode b_R_suppress 12 = .ok (.invokestatic 59, 3) := by decide +kernel
theorem d_R_suppress_15 : decode b_R_suppress 15 = .ok (.ifCond .eq 5, 3) := by decide +kernel
theorem d_R_suppress_18 : decode b_R_suppress 18 = .ok (.iconst (-1), 1) := by decide +kernel
theorem d_R_suppress_19 : decode b_R_suppress 19 = .ok (.ireturn, 1) := by decide +kernel
theorem d_R_suppress_20 : decode b_R_suppress 20 = .ok (.aload_n 0, 1) := by decide +kernel
theorem d_R_suppress_21 : decode b_R_suppress 21 = .ok (.getfield 47, 3) := by decide +kernel
theorem d_R_suppress_24 : decode b_R_suppress 24 = .ok (.bipush 12, 2) := by decide +kernel
theorem d_R_suppress_26 : decode b_R_suppress 26 = .ok (.iload_n 1, 1) := by decide +kernel
theorem d_R_suppress_27 : decode b_R_suppress 27 = .ok (.imul, 1) := by decide +kernel
theorem d_R_suppress_28 : decode b_R_suppress 28 = .ok (.iload_n 2, 1) := by decide +kernel
theorem d_R_suppress_29 : decode b_R_suppress 29 = .ok (.iadd, 1) := by decide +kernel
theorem d_R_suppress_30 : decode b_R_suppress 30 = .ok (.baload, 1) := by decide +kernel
theorem d_R_suppress_31 : decode b_R_suppress 31 = .ok (.iload_n 3, 1) := by decide +kernel
theorem d_R_suppress_32 : decode b_R_suppress 32 = .ok (.if_icmp .ne 7, 3) := by decide +kernel
theorem d_R_suppress_35 : decode b_R_suppress 35 = .ok (.iconst 0, 1) := by decide +kernel
theorem d_R_suppress_36 : decode b_R_suppress 36 = .ok (.goto 4, 3) := by decide +kernel
theorem d_R_suppress_39 : decode b_R_suppress 39 = .ok (.iconst 1, 1) := by decide +kernel
theorem d_R_suppress_40 : decode b_R_suppress 40 = .ok (.istore 4, 2) := by decide +kernel
theorem d_R_suppress_42 : decode b_R_suppress 42 = .ok (.aload_n 0, 1) := by decide +kernel
theorem d_R_suppress_43 : decode b_R_suppress 43 = .ok (.getfield 47, 3) := by decide +kernel
theorem d_R_suppress_46 : decode b_R_suppress 46 = .ok (.bipush 12, 2) := by decide +kernel
theorem d_R_suppress_48 : decode b_R_suppress 48 = .ok (.iload_n 1, 1) := by decide +kernel
theorem d_R_suppress_49 : decode b_R_suppress 49 = .ok (.imul, 1) := by decide +kernel
theorem d_R_suppress_50 : decode b_R_suppress 50 = .ok (.iload_n 2, 1) := by decide +kernel
theorem d_R_suppress_51 : decode b_R_suppress 51 = .ok (.iadd, 1) := by decide +kernel
theorem d_R_suppress_52 : decode b_R_suppress 52 = .ok (.iload_n 3, 1) := by decide +kernel
theorem d_R_suppress_53 : decode b_R_suppress 53 = .ok (.bastore, 1) := by decide +kernel
theorem d_R_suppress_54 : decode b_R_suppress 54 = .ok (.iload 4, 2) := by decide +kernel
theorem d_R_suppress_56 : decode b_R_suppress 56 = .ok (.ireturn, 1) := by decide +kernel
theorem d_R_is_0 : decode b_R_is 0 = .ok (.iload_n 2, 1) := by decide +kernel
theorem d_R_is_1 : decode b_R_is 1 = .ok (.ifCond .lt 36, 3) := by decide +kernel
theorem d_R_is_4 : decode b_R_is 4 = .ok (.aload_n 0, 1) := by decide +kernel
theorem d_R_is_5 : decode b_R_is 5 = .ok (.getfield 7, 3) := by decide +kernel
theorem d_R_is_8 : decode b_R_is 8 = .ok (.bipush 12, 2) := by decide +kernel
theorem d_R_is_10 : decode b_R_is 10 = .ok (.iload_n 1, 1) := by decide +kernel
theorem d_R_is_11 : decode b_R_is 11 = .ok (.imul, 1) := by decide +kernel
theorem d_R_is_12 : decode b_R_is 12 = .ok (.iload_n 2, 1) := by decide +kernel
theorem d_R_is_13 : decode b_R_is 13 = .ok (.iadd, 1) := by decide +kernel
theorem d_R_is_14 : decode b_R_is 14 = .ok (.baload, 1) := by decide +kernel
theorem d_R_is_15 : decode b_R_is 15 = .ok (.ifCond .eq 22, 3) := by decide +kernel
theorem d_R_is_18 : decode b_R_is 18 = .ok (.aload_n 0, 1) := by decide +kernel
theorem d_R_is_19 : decode b_R_is 19 = .ok (.getfield 13, 3) := by decide +kernel
theorem d_R_is_22 : decode b_R_is 22 = .ok (.bipush 12, 2) := by decide +kernel
theorem d_R_is_24 : decode b_R_is 24 = .ok (.iload_n 1, 1) := by decide +kernel
theorem d_R_is_25 : decode b_R_is 25 = .ok (.imul, 1) := by decide +kernel
theorem d_R_is_26 : decode b_R_is 26 = .ok (.iload_n 2, 1) := by decide +kernel
theorem d_R_is_27 : decode b_R_is 27 = .ok (.iadd, 1) := by decide +kernel
theorem d_R_is_28 : decode b_R_is 28 = .ok (.iaload, 1) := by decide +kernel
theorem d_R_is_29 : decode b_R_is 29 = .ok (.iload_n 3, 1) := by decide +kernel
theorem d_R_is_30 : decode b_R_is 30 = .ok (.if_icmp .ne 7, 3) := by decide +kernel
theorem d_R_is_33 : decode b_R_is 33 = .ok (.iconst 1, 1) := by decide +kernel
theorem d_R_is_34 : decode b_R_is 34 = .ok (.goto 4, 3) := by decide +kernel
theorem d_R_is_37 : decode b_R_is 37 = .ok (.iconst 0, 1) := by decide +kernel
theorem d_R_is_38 : decode b_R_is 38 = .ok (.ireturn, 1) := by decide +kernel
theorem d_R_direct_0 : decode b_R_direct 0 = .ok (.bipush 12, 2) := by decide +kernel
theorem d_R_direct_2 : decode b_R_direct 2 = .ok (.iload_n 1, 1) := by decide +kernel
theorem d_R_direct_3 : decode b_R_direct 3 = .ok (.imul, 1) := by decide +kernel
theorem d_R_direct_4 : decode b_R_direct 4 = .ok (.iload_n 2, 1) := by decide +kernel
theorem d_R_direct_5 : decode b_R_direct 5 = .ok (.iadd, 1) := by decide +kernel
theorem d_R_direct_6 : decode b_R_direct 6 = .ok (.istore 4, 2) := by decide +kernel
theorem d_R_direct_8 : decode b_R_direct 8 = .ok (.aload_n 0, 1) := by decide +kernel
theorem d_R_direct_9 : decode b_R_direct 9 = .ok (.getfield 7, 3) := by decide +kernel
theorem d_R_direct_12 : decode b_R_direct 12 = .ok (.iload 4, 2) := by decide +kernel
theorem d_R_direct_14 : decode b_R_direct 14 = .ok (.baload, 1) := by decide +kernel
theorem d_R_direct_15 : decode b_R_direct 15 = .ok (.ifCond .eq 17, 3) := by decide +kernel
theorem d_R_direct_18 : decode b_R_direct 18 = .ok (.aload_n 0, 1) := by decide +kernel
theorem d_R_direct_19 : decode b_R_direct 19 = .ok (.getfield 7, 3) := by decide +kernel
theorem d_R_direct_22 : decode b_R_direct 22 = .ok (.bipush 12, 2) := by decide +kernel
theorem d_R_direct_24 : decode b_R_direct 24 = .ok (.iload_n 1, 1) := by decide +kernel
theorem d_R_direct_25 : decode b_R_direct 25 = .ok (.imul, 1) := by decide +kernel
theorem d_R_direct_26 : decode b_R_direct 26 = .ok (.iload_n 3, 1) := by decide +kernel
theorem d_R_direct_27 : decode b_R_direct 27 = .ok (.iadd, 1) := by decide +kernel
theorem d_R_direct_28 : decode b_R_direct 28 = .ok (.baload, 1) := by decide +kernel
theorem d_R_direct_29 : decode b_R_direct 29 = .ok (.ifCond .ne 5, 3) := by decide +kernel
theorem d_R_direct_32 : decode b_R_direct 32 = .ok (.iconst 0, 1) := by decide +kernel
theorem d_R_direct_33 : decode b_R_direct 33 = .ok (.ireturn, 1) := by decide +kernel
theorem d_R_direct_34 : decode b_R_direct 34 = .ok (.aload_n 0, 1) := by decide +kernel
theorem d_R_direct_35 : decode b_R_direct 35 = .ok (.getfield 13, 3) := by decide +kernel
theorem d_R_direct_38 : decode b_R_direct 38 = .ok (.bipush 12, 2) := by decide +kernel
theorem d_R_direct_40 : decode b_R_direct 40 = .ok (.iload_n 1, 1) := by decide +kernel
theorem d_R_direct_41 : decode b_R_direct 41 = .ok (.imul, 1) := by decide +kernel
theorem d_R_direct_42 : decode b_R_direct 42 = .ok (.iload_n 3, 1) := by decide +kernel
theorem d_R_direct_43 : decode b_R_direct 43 = .ok (.iadd, 1) := by decide +kernel
theorem d_R_direct_44 : decode b_R_direct 44 = .ok (.iaload, 1) := by decide +kernel
theorem d_R_direct_45 : decode b_R_direct 45 = .ok (.ifCond .ne 20, 3) := by decide +kernel
theorem d_R_direct_48 : decode b_R_direct 48 = .ok (.aload_n 0, 1) := by decide +kernel
theorem d_R_direct_49 : decode b_R_direct 49 = .ok (.getfield 20, 3) := by decide +kernel
theorem d_R_direct_52 : decode b_R_direct 52 = .ok (.iload 4, 2) := by decide +kernel
theorem d_R_direct_54 : decode b_R_direct 54 = .ok (.iaload, 1) := by decide +kernel
theorem d_R_direct_55 : decode b_R_direct 55 = .ok (.iload_n 3, 1) := by decide +kernel
theorem d_R_direct_56 : decode b_R_direct 56 = .ok (.if_icmp .ne 7, 3) := by decide +kernel
theorem d_R_direct_59 : decode b_R_direct 59 = .ok (.iconst 1, 1) := by decide +kernel
theorem d_R_direct_60 : decode b_R_direct 60 = .ok (.goto 4, 3) := by decide +kernel
theorem d_R_direct_63 : decode b_R_direct 63 = .ok (.iconst 0, 1) := by decide +kernel
theorem d_R_direct_64 : decode b_R_direct 64 = .ok (.ireturn, 1) := by decide +kernel
theorem d_R_direct_65 : decode b_R_direct 65 = .ok (.iconst 0, 1) := by decide +kernel
theorem d_R_direct_66 : decode b_R_direct 66 = .ok (.istore 5, 2) := by decide +kernel
theorem d_R_direct_68 : decode b_R_direct 68 = .ok (.iload 5, 2) := by decide +kernel
theorem d_R_direct_70 : decode b_R_direct 70 = .ok (.aload_n 0, 1) := by decide +kernel
theorem d_R_direct_71 : decode b_R_direct 71 = .ok (.getfield 23, 3) := by decide +kernel
theorem d_R_direct_74 : decode b_R_direct 74 = .ok (.iload 4, 2) := by decide +kernel
theorem d_R_direct_76 : decode b_R_direct 76 = .ok (.iaload, 1) := by decide +kernel
theorem d_R_direct_77 : decode b_R_direct 77 = .ok (.if_icmp .ge 27, 3) := by decide +kernel
theorem d_R_direct_80 : decode b_R_direct 80 = .ok (.aload_n 0, 1) := by decide +kernel
theorem d_R_direct_81 : decode b_R_direct 81 = .ok (.getfield 26, 3) := by decide +kernel
theorem d_R_direct_84 : decode b_R_direct 84 = .ok (.iconst 3, 1) := by decide +kernel
theorem d_R_direct_85 : decode b_R_direct 85 = .ok (.iload 4, 2) := by decide +kernel
theorem d_R_direct_87 : decode b_R_direct 87 = .ok (.imul, 1) := by decide +kernel
theorem d_R_direct_88 : decode b_R_direct 88 = .ok (.iload 5, 2) := by decide +kernel
theorem d_R_direct_90 : decode b_R_direct 90 = .ok (.iadd, 1) := by decide +kernel
theorem d_R_direct_91 : decode b_R_direct 91 = .ok (.iaload, 1) := by decide +kernel
theorem d_R_direct_92 : decode b_R_direct 92 = .ok (.iload_n 3, 1) := by decide +kernel
theorem d_R_direct_93 : decode b_R_direct 93 = .ok (.if_icmp .ne 5, 3) := by decide +kernel
theorem d_R_direct_96 : decode b_R_direct 96 = .ok (.iconst 1, 1) := by decide +kernel
theorem d_R_direct_97 : decode b_R_direct 97 = .ok (.ireturn, 1) := by decide +kernel
theorem d_R_direct_98 : decode b_R_direct 98 = .ok (.iinc 5 1, 3) := by decide +kernel
theorem d_R_direct_101 : decode b_R_direct 101 = .ok (.goto (-33), 3) := by decide +kernel
theorem d_R_direct_104 : decode b_R_direct 104 = .ok (.iconst 0, 1) := by decide +kernel
theorem d_R_direct_105 : decode b_R_direct 105 = .ok (.ireturn, 1) := by decide +kernel
theorem d_R_above_0 : decode b_R_above 0 = .ok (.aload_n 0, 1) := by decide +kernel
theorem d_R_above_1 : decode b_R_above 1 = .ok (.iload_n 1, 1) := by decide +kernel
theorem d_R_above_2 : decode b_R_above 2 = .ok (.iload_n 2, 1) := by decide +kernel
theorem d_R_above_3 : decode b_R_above 3 = .ok (.invokevirtual 100, 3) := by decide +kernel
theorem d_R_above_6 : decode b_R_above 6 = .ok (.iload_n 3, 1) := by decide +kernel
theorem d_R_above_7 : decode b_R_above 7 = .ok (.ishr, 1) := by decide +kernel
theorem d_R_above_8 : decode b_R_above 8 = .ok (.iconst 1, 1) := by decide +kernel
theorem d_R_above_9 : decode b_R_above 9 = .ok (.iand, 1) := by decide +kernel
theorem d_R_above_10 : decode b_R_above 10 = .ok (.ifCond .eq 7, 3) := by decide +kernel
theorem d_R_above_13 : decode b_R_above 13 = .ok (.iconst 1, 1) := by decide +kernel
theorem d_R_above_14 : decode b_R_above 14 = .ok (.goto 4, 3) := by decide +kernel
theorem d_R_above_17 : decode b_R_above 17 = .ok (.iconst 0, 1) := by decide +kernel
theorem d_R_above_18 : decode b_R_above 18 = .ok (.ireturn, 1) := by decide +kernel
theorem d_R_set_0 : decode b_R_set 0 = .ok (.iconst 0, 1) := by decide +kernel
theorem d_R_set_1 : decode b_R_set 1 = .ok (.istore_n 3, 1) := by decide +kernel
theorem d_R_set_2 : decode b_R_set 2 = .ok (.iload_n 2, 1) := by decide +kernel
theorem d_R_set_3 : decode b_R_set 3 = .ok (.iconst 1, 1) := by decide +kernel
theorem d_R_set_4 : decode b_R_set 4 = .ok (.isub, 1) := by decide +kernel
theorem d_R_set_5 : decode b_R_set 5 = .ok (.istore 4, 2) := by decide +kernel
theorem d_R_set_7 : decode b_R_set 7 = .ok (.iload 4, 2) := by decide +kernel
theorem d_R_set_9 : decode b_R_set 9 = .ok (.ifCond .lt 73, 3) := by decide +kernel
theorem d_R_set_12 : decode b_R_set 12 = .ok (.aload_n 0, 1) := by decide +kernel
theorem d_R_set_13 : decode b_R_set 13 = .ok (.iload_n 1, 1) := by decide +kernel
theorem d_R_set_14 : decode b_R_set 14 = .ok (.iload_n 2, 1) := by decide +kernel
theorem d_R_set_15 : decode b_R_set 15 = .ok (.iload 4, 2) := by decide +kernel
theorem d_R_set_17 : decode b_R_set 17 = .ok (.invokevirtual 104, 3) := by decide +kernel
theorem d_R_set_20 : decode b_R_set 20 = .ok (.istore 5, 2) := by decide +kernel
theorem d_R_set_22 : decode b_R_set 22 = .ok (.iload 4, 2) := by decide +kernel
theorem d_R_set_24 : decode b_R_set 24 = .ok (.iconst 1, 1) := by decide +kernel
theorem d_R_set_25 : decode b_R_set 25 = .ok (.iadd, 1) := by decide +kernel
theorem d_R_set_26 : decode b_R_set 26 = .ok (.istore 6, 2) := by decide +kernel
theorem d_R_set_28 : decode b_R_set 28 = .ok (.iload 6, 2) := by decide +kernel
theorem d_R_set_30 : decode b_R_set 30 = .ok (.iload_n 2, 1) := by decide +kernel
theorem d_R_set_31 : decode b_R_set 31 = .ok (.if_icmp .ge 33, 3) := by decide +kernel
theorem d_R_set_34 : decode b_R_set 34 = .ok (.iload_n 3, 1) := by decide +kernel
theorem d_R_set_35 : decode b_R_set 35 = .ok (.iload 6, 2) := by decide +kernel
theorem d_R_set_37 : decode b_R_set 37 = .ok (.ishr, 1) := by decide +kernel
theorem d_R_set_38 : decode b_R_set 38 = .ok (.iconst 1, 1) := by decide +kernel
theorem d_R_set_39 : decode b_R_set 39 = .ok (.iand, 1) := by decide +kernel
theorem d_R_set_40 : decode b_R_set 40 = .ok (.ifCond .eq 18, 3) := by decide +kernel
theorem d_R_set_43 : decode b_R_set 43 = .ok (.aload_n 0, 1) := by decide +kernel
theorem d_R_set_44 : decode b_R_set 44 = .ok (.iload_n 1, 1) := by decide +kernel
theorem d_R_set_45 : decode b_R_set 45 = .ok (.iload 6, 2) := by decide +kernel
theorem d_R_set_47 : decode b_R_set 47 = .ok (.iload 4, 2) := by decide +kernel
theorem d_R_set_49 : decode b_R_set 49 = .ok (.invokevirtual 104, 3) := by decide +kernel
theorem d_R_set_52 : decode b_R_set 52 = .ok (.ifCond .eq 6, 3) := by decide +kernel
theorem d_R_set_55 : decode b_R_set 55 = .ok (.iconst 1, 1) := by decide +kernel
theorem d_R_set_56 : decode b_R_set 56 = .ok (.istore 5, 2) := by decide +kernel
theorem d_R_set_58 : decode b_R_set 58 = .ok (.iinc 6 1, 3) := by decide +kernel
theorem d_R_set_61 : decode b_R_set 61 = .ok (.goto (-33), 3) := by decide +kernel
theorem d_R_set_64 : decode b_R_set 64 = .ok (.iload 5, 2) := by decide +kernel
theorem d_R_set_66 : decode b_R_set 66 = .ok (.ifCond .eq 10, 3) := by decide +kernel
theorem d_R_set_69 : decode b_R_set 69 = .ok (.iload_n 3, 1) := by decide +kernel
theorem d_R_set_70 : decode b_R_set 70 = .ok (.iconst 1, 1) := by decide +kernel
theorem d_R_set_71 : decode b_R_set 71 = .ok (.iload 4, 2) := by decide +kernel
theorem d_R_set_73 : decode b_R_set 73 = .ok (.ishl, 1) := by decide +kernel
theorem d_R_set_74 : decode b_R_set 74 = .ok (.ior, 1) := by decide +kernel
theorem d_R_set_75 : decode b_R_set 75 = .ok (.istore_n 3, 1) := by decide +kernel
theorem d_R_set_76 : decode b_R_set 76 = .ok (.iinc 4 (-1), 3) := by decide +kernel
theorem d_R_set_79 : decode b_R_set 79 = .ok (.goto (-72), 3) := by decide +kernel
theorem d_R_set_82 : decode b_R_set 82 = .ok (.iload_n 3, 1) := by decide +kernel
theorem d_R_set_83 : decode b_R_set 83 = .ok (.ireturn, 1) := by decide +kernel
theorem d_R_supertypes_0 : decode b_R_supertypes 0 = .ok (.iload_n 1, 1) := by decide +kernel
theorem d_R_supertypes_1 : decode b_R_supertypes 1 = .ok (.iload_n 2, 1) := by decide +kernel
theorem d_R_supertypes_2 : decode b_R_supertypes 2 = .ok (.invokestatic 63, 3) := by decide +kernel
theorem d_R_supertypes_5 : decode b_R_supertypes 5 = .ok (.ifCond .eq 7, 3) := by decide +kernel
theorem d_R_supertypes_8 : decode b_R_supertypes 8 = .ok (.iconst (-1), 1) := by decide +kernel
theorem d_R_supertypes_9 : decode b_R_supertypes 9 = .ok (.goto 9, 3) := by decide +kernel
theorem d_R_supertypes_12 : decode b_R_supertypes 12 = .ok (.aload_n 0, 1) := by decide +kernel
theorem d_R_supertypes_13 : decode b_R_supertypes 13 = .ok (.iload_n 1, 1) := by decide +kernel
theorem d_R_supertypes_14 : decode b_R_supertypes 14 = .ok (.iload_n 2, 1) := by decide +kernel
theorem d_R_supertypes_15 : decode b_R_supertypes 15 = .ok (.invokevirtual 100, 3) := by decide +kernel
theorem d_R_supertypes_18 : decode b_R_supertypes 18 = .ok (.ireturn, 1) := by decide +kernel
theorem d_R_field_0 : decode b_R_field 0 = .ok (.iconst 0, 1) := by decide +kernel
theorem d_R_field_1 : decode b_R_field 1 = .ok (.istore 4, 2) := by decide +kernel
theorem d_R_field_3 : decode b_R_field 3 = .ok (.iload 4, 2) := by decide +kernel
theorem d_R_field_5 : decode b_R_field 5 = .ok (.bipush 12, 2) := by decide +kernel
theorem d_R_field_7 : decode b_R_field 7 = .ok (.if_icmp .ge 17, 3) := by decide +kernel
theorem d_R_field_10 : decode b_R_field 10 = .ok (.aload_n 0, 1) := by decide +kernel
theorem d_R_field_11 : decode b_R_field 11 = .ok (.getfield 50, 3) := by decide +kernel
theorem d_R_field_14 : decode b_R_field 14 = .ok (.iload 4, 2) := by decide +kernel
theorem d_R_field_16 : decode b_R_field 16 = .ok (.iconst 0, 1) := by decide +kernel
theorem d_R_field_17 : decode b_R_field 17 = .ok (.bastore, 1) := by decide +kernel
theorem d_R_field_18 : decode b_R_field 18 = .ok (.iinc 4 1, 3) := by decide +kernel
theorem d_R_field_21 : decode b_R_field 21 = .ok (.goto (-18), 3) := by decide +kernel
theorem d_R_field_24 : decode b_R_field 24 = .ok (.iconst 1, 1) := by decide +kernel
theorem d_R_field_25 : decode b_R_field 25 = .ok (.istore 4, 2) := by decide +kernel
theorem d_R_field_27 : decode b_R_field 27 = .ok (.aload_n 0, 1) := by decide +kernel
theorem d_R_field_28 : decode b_R_field 28 = .ok (.getfield 53, 3) := by decide +kernel
theorem d_R_field_31 : decode b_R_field 31 = .ok (.iconst 0, 1) := by decide +kernel
theorem d_R_field_32 : decode b_R_field 32 = .ok (.iload_n 2, 1) := by decide +kernel
theorem d_R_field_33 : decode b_R_field 33 = .ok (.iastore, 1) := by decide +kernel
theorem d_R_field_34 : decode b_R_field 34 = .ok (.iload 4, 2) := by decide +kernel
theorem d_R_field_36 : decode b_R_field 36 = .ok (.ifCond .le 177, 3) := by decide +kernel
theorem d_R_field_39 : decode b_R_field 39 = .ok (.iinc 4 (-1), 3) := by decide +kernel
theorem d_R_field_42 : decode b_R_field 42 = .ok (.aload_n 0, 1) := by decide +kernel
theorem d_R_field_43 : decode b_R_field 43 = .ok (.getfield 53, 3) := by decide +kernel
theorem d_R_field_46 : decode b_R_field 46 = .ok (.iload 4, 2) := by decide +kernel
theorem d_R_field_48 : decode b_R_field 48 = .ok (.iaload, 1) := by decide +kernel
theorem d_R_field_49 : decode b_R_field 49 = .ok (.istore 5, 2) := by decide +kernel
theorem d_R_field_51 : decode b_R_field 51 = .ok (.aload_n 0, 1) := by decide +kernel
theorem d_R_field_52 : decode b_R_field 52 = .ok (.getfield 50, 3) := by decide +kernel
theorem d_R_field_55 : decode b_R_field 55 = .ok (.iload 5, 2) := by decide +kernel
theorem d_R_field_57 : decode b_R_field 57 = .ok (.baload, 1) := by decide +kernel
theorem d_R_field_58 : decode b_R_field 58 = .ok (.ifCond .eq 6, 3) := by decide +kernel
theorem d_R_field_61 : decode b_R_field 61 = .ok (.goto (-27), 3) := by decide +kernel
theorem d_R_field_64 : decode b_R_field 64 = .ok (.aload_n 0, 1) := by decide +kernel
theorem d_R_field_65 : decode b_R_field 65 = .ok (.getfield 50, 3) := by decide +kernel
theorem d_R_field_68 : decode b_R_field 68 = .ok (.iload 5, 2) := by decide +kernel
theorem d_R_field_70 : decode b_R_field 70 = .ok (.iconst 1, 1) := by decide +kernel
theorem d_R_field_71 : decode b_R_field 71 = .ok (.bastore, 1) := by decide +kernel
theorem d_R_field_72 : decode b_R_field 72 = .ok (.bipush 12, 2) := by decide +kernel
theorem d_R_field_74 : decode b_R_field 74 = .ok (.iload_n 1, 1) := by decide +kernel
theorem d_R_field_75 : decode b_R_field 75 = .ok (.imul, 1) := by decide +kernel
theorem d_R_field_76 : decode b_R_field 76 = .ok (.iload 5, 2) := by decide +kernel
theorem d_R_field_78 : decode b_R_field 78 = .ok (.iadd, 1) := by decide +kernel
theorem d_R_field_79 : decode b_R_field 79 = .ok (.istore 6, 2) := by decide +kernel
theorem d_R_field_81 : decode b_R_field 81 = .ok (.aload_n 0, 1) := by decide +kernel
theorem d_R_field_82 : decode b_R_field 82 = .ok (.iload 6, 2) := by decide +kernel
theorem d_R_field_84 : decode b_R_field 84 = .ok (.iconst 0, 1) := by decide +kernel
theorem d_R_field_85 : decode b_R_field 85 = .ok (.iload_n 3, 1) := by decide +kernel
theorem d_R_field_86 : decode b_R_field 86 = .ok (.invokevirtual 72, 3) := by decide +kernel
theorem d_R_field_89 : decode b_R_field 89 = .ok (.istore 7, 2) := by decide +kernel
theorem d_R_field_91 : decode b_R_field 91 = .ok (.iload 7, 2) := by decide +kernel
theorem d_R_field_93 : decode b_R_field 93 = .ok (.ifCond .lt 6, 3) := by decide +kernel
theorem d_R_field_96 : decode b_R_field 96 = .ok (.iload 7, 2) := by decide +kernel
theorem d_R_field_98 : decode b_R_field 98 = .ok (.ireturn, 1) := by decide +kernel
theorem d_R_field_99 : decode b_R_field 99 = .ok (.aload_n 0, 1) := by decide +kernel
theorem d_R_field_100 : decode b_R_field 100 = .ok (.getfield 13, 3) := by decide +kernel
theorem d_R_field_103 : decode b_R_field 103 = .ok (.iload 6, 2) := by decide +kernel
theorem d_R_field_105 : decode b_R_field 105 = .ok (.iaload, 1) := by decide +kernel
theorem d_R_field_106 : decode b_R_field 106 = .ok (.ifCond .ne 36, 3) := by decide +kernel
theorem d_R_field_109 : decode b_R_field 109 = .ok (.aload_n 0, 1) := by decide +kernel
theorem d_R_field_110 : decode b_R_field 110 = .ok (.iload_n 1, 1) := by decide +kernel
theorem d_R_field_111 : decode b_R_field 111 = .ok (.aload_n 0, 1) := by decide +kernel
theorem d_R_field_112 : decode b_R_field 112 = .ok (.getfield 20, 3) := by decide +kernel
theorem d_R_field_115 : decode b_R_field 115 = .ok (.iload 6, 2) := by decide +kernel
theorem d_R_field_117 : decode b_R_field 117 = .ok (.iaload, 1) := by decide +kernel
theorem d_R_field_118 : decode b_R_field 118 = .ok (.iconst 0, 1) := by decide +kernel
theorem d_R_field_119 : decode b_R_field 119 = .ok (.invokevirtual 108, 3) := by decide +kernel
theorem d_R_field_122 : decode b_R_field 122 = .ok (.ifCond .eq 20, 3) := by decide +kernel
theorem d_R_field_125 : decode b_R_field 125 = .ok (.aload_n 0, 1) := by decide +kernel
theorem d_R_field_126 : decode b_R_field 126 = .ok (.getfield 53, 3) := by decide +kernel
theorem d_R_field_129 : decode b_R_field 129 = .ok (.iload 4, 2) := by decide +kernel
theorem d_R_field_131 : decode b_R_field 131 = .ok (.aload_n 0, 1) := by decide +kernel
theorem d_R_field_132 : decode b_R_field 132 = .ok (.getfield 20, 3) := by decide +kernel
theorem d_R_field_135 : decode b_R_field 135 = .ok (.iload 6, 2) := by decide +kernel
theorem d_R_field_137 : decode b_R_field 137 = .ok (.iaload, 1) := by decide +kernel
theorem d_R_field_138 : decode b_R_field 138 = .ok (.iastore, 1) := by decide +kernel
theorem d_R_field_139 : decode b_R_field 139 = .ok (.iinc 4 1, 3) := by decide +kernel
theorem d_R_field_142 : decode b_R_field 142 = .ok (.aload_n 0, 1) := by decide +kernel
theorem d_R_field_143 : decode b_R_field 143 = .ok (.getfield 23, 3) := by decide +kernel
theorem d_R_field_146 : decode b_R_field 146 = .ok (.iload 6, 2) := by decide +kernel
theorem d_R_field_148 : decode b_R_field 148 = .ok (.iaload, 1) := by decide +kernel
theorem d_R_field_149 : decode b_R_field 149 = .ok (.iconst 1, 1) := by decide +kernel
theorem d_R_field_150 : decode b_R_field 150 = .ok (.isub, 1) := by decide +kernel
theorem d_R_field_151 : decode b_R_field 151 = .ok (.istore 8, 2) := by decide +kernel
theorem d_R_field_153 : decode b_R_field 153 = .ok (.iload 8, 2) := by decide +kernel
theorem d_R_field_155 : decode b_R_field 155 = .ok (.ifCond .lt 55, 3) := by decide +kernel
theorem d_R_field_158 : decode b_R_field 158 = .ok (.aload_n 0, 1) := by decide +kernel
theorem d_R_field_159 : decode b_R_field 159 = .ok (.iload_n 1, 1) := by decide +kernel
theorem d_R_field_160 : decode b_R_field 160 = .ok (.aload_n 0, 1) := by decide +kernel
theorem d_R_field_161 : decode b_R_field 161 = .ok (.getfield 26, 3) := by decide +kernel
theorem d_R_field_164 : decode b_R_field 164 = .ok (.iconst 3, 1) := by decide +kernel
theorem d_R_field_165 : decode b_R_field 165 = .ok (.iload 6, 2) := by decide +kernel
theorem d_R_field_167 : decode b_R_field 167 = .ok (.imul, 1) := by decide +kernel
theorem d_R_field_168 : decode b_R_field 168 = .ok (.iload 8, 2) := by decide +kernel
theorem d_R_field_170 : decode b_R_field 170 = .ok (.iadd, 1) := by decide +kernel
theorem d_R_field_171 : decode b_R_field 171 = .ok (.iaload, 1) := by decide +kernel
theorem d_R_field_172 : decode b_R_field 172 = .ok (.iconst 1, 1) := by decide +kernel
theorem d_R_field_173 : decode b_R_field 173 = .ok (.invokevirtual 108, 3) := by decide +kernel
theorem d_R_field_176 : decode b_R_field 176 = .ok (.ifCond .ne 6, 3) := by decide +kernel
theorem d_R_field_179 : decode b_R_field 179 = .ok (.goto 25, 3) := by decide +kernel
theorem d_R_field_182 : decode b_R_field 182 = .ok (.aload_n 0, 1) := by decide +kernel
theorem d_R_field_183 : decode b_R_field 183 = .ok (.getfield 53, 3) := by decide +kernel
theorem d_R_field_186 : decode b_R_field 186 = .ok (.iload 4, 2) := by decide +kernel
theorem d_R_field_188 : decode b_R_field 188 = .ok (.aload_n 0, 1) := by decide +kernel
theorem d_R_field_189 : decode b_R_field 189 = .ok (.getfield 26, 3) := by decide +kernel
theorem d_R_field_192 : decode b_R_field 192 = .ok (.iconst 3, 1) := by decide +kernel
theorem d_R_field_193 : decode b_R_field 193 = .ok (.iload 6, 2) := by decide +kernel
theorem d_R_field_195 : decode b_R_field 195 = .ok (.imul, 1) := by decide +kernel
theorem d_R_field_196 : decode b_R_field 196 = .ok (.iload 8, 2) := by decide +kernel
theorem d_R_field_198 : decode b_R_field 198 = .ok (.iadd, 1) := by decide +kernel
theorem d_R_field_199 : decode b_R_field 199 = .ok (.iaload, 1) := by decide +kernel
theorem d_R_field_200 : decode b_R_field 200 = .ok (.iastore, 1) := by decide +kernel
theorem d_R_field_201 : decode b_R_field 201 = .ok (.iinc 4 1, 3) := by decide +kernel
theorem d_R_field_204 : decode b_R_field 204 = .ok (.iinc 8 (-1), 3) := by decide +kernel
theorem d_R_field_207 : decode b_R_field 207 = .ok (.goto (-54), 3) := by decide +kernel
theorem d_R_field_210 : decode b_R_field 210 = .ok (.goto (-176), 3) := by decide +kernel
theorem d_R_field_213 : decode b_R_field 213 = .ok (.iconst (-1), 1) := by decide +kernel
theorem d_R_field_214 : decode b_R_field 214 = .ok (.ireturn, 1) := by decide +kernel
theorem d_R_method_0 : decode b_R_method 0 = .ok (.iload_n 2, 1) := by decide +kernel
theorem d_R_method_1 : decode b_R_method 1 = .ok (.istore 4, 2) := by decide +kernel
theorem d_R_method_3 : decode b_R_method 3 = .ok (.iload 4, 2) := by decide +kernel
theorem d_R_method_5 : decode b_R_method 5 = .ok (.ifCond .lt 81, 3) := by decide +kernel
theorem d_R_method_8 : decode b_R_method 8 = .ok (.aload_n 0, 1) := by decide +kernel
theorem d_R_method_9 : decode b_R_method 9 = .ok (.bipush 12, 2) := by decide +kernel
theorem d_R_method_11 : decode b_R_method 11 = .ok (.iload_n 1, 1) := by decide +kernel
theorem d_R_method_12 : decode b_R_method 12 = .ok (.imul, 1) := by decide +kernel
theorem d_R_method_13 : decode b_R_method 13 = .ok (.iload 4, 2) := by decide +kernel
theorem d_R_method_15 : decode b_R_method 15 = .ok (.iadd, 1) := by decide +kernel
theorem d_R_method_16 : decode b_R_method 16 = .ok (.iconst 1, 1) := by decide +kernel
theorem d_R_method_17 : decode b_R_method 17 = .ok (.iload_n 3, 1) := by decide +kernel
theorem d_R_method_18 : decode b_R_method 18 = .ok (.invokevirtual 72, 3) := by decide +kernel
theorem d_R_method_21 : decode b_R_method 21 = .ok (.istore 5, 2) := by decide +kernel
theorem d_R_method_23 : decode b_R_method 23 = .ok (.iload 5, 2) := by decide +kernel
theorem d_R_method_25 : decode b_R_method 25 = .ok (.ifCond .lt 6, 3) := by decide +kernel
theorem d_R_method_28 : decode b_R_method 28 = .ok (.iload 5, 2) := by decide +kernel
theorem d_R_method_30 : decode b_R_method 30 = .ok (.ireturn, 1) := by decide +kernel
theorem d_R_method_31 : decode b_R_method 31 = .ok (.aload_n 0, 1) := by decide +kernel
theorem d_R_method_32 : decode b_R_method 32 = .ok (.getfield 13, 3) := by decide +kernel
theorem d_R_method_35 : decode b_R_method 35 = .ok (.bipush 12, 2) := by decide +kernel
theorem d_R_method_37 : decode b_R_method 37 = .ok (.iload_n 1, 1) := by decide +kernel
theorem d_R_method_38 : decode b_R_method 38 = .ok (.imul, 1) := by decide +kernel
theorem d_R_method_39 : decode b_R_method 39 = .ok (.iload 4, 2) := by decide +kernel
theorem d_R_method_41 : decode b_R_method 41 = .ok (.iadd, 1) := by decide +kernel
theorem d_R_method_42 : decode b_R_method 42 = .ok (.iaload, 1) := by decide +kernel
theorem d_R_method_43 : decode b_R_method 43 = .ok (.ifCond .ne 18, 3) := by decide +kernel
theorem d_R_method_46 : decode b_R_method 46 = .ok (.aload_n 0, 1) := by decide +kernel
theorem d_R_method_47 : decode b_R_method 47 = .ok (.getfield 20, 3) := by decide +kernel
theorem d_R_method_50 : decode b_R_method 50 = .ok (.bipush 12, 2) := by decide +kernel
theorem d_R_method_52 : decode b_R_method 52 = .ok (.iload_n 1, 1) := by decide +kernel
theorem d_R_method_53 : decode b_R_method 53 = .ok (.imul, 1) := by decide +kernel
theorem d_R_method_54 : decode b_R_method 54 = .ok (.iload 4, 2) := by decide +kernel
theorem d_R_method_56 : decode b_R_method 56 = .ok (.iadd, 1) := by decide +kernel
theorem d_R_method_57 : decode b_R_method 57 = .ok (.iaload, 1) := by decide +kernel
theorem d_R_method_58 : decode b_R_method 58 = .ok (.goto 4, 3) := by decide +kernel
theorem d_R_method_61 : decode b_R_method 61 = .ok (.iconst (-1), 1) := by decide +kernel
theorem d_R_method_62 : decode b_R_method 62 = .ok (.istore 6, 2) := by decide +kernel
theorem d_R_method_64 : decode b_R_method 64 = .ok (.aload_n 0, 1) := by decide +kernel
theorem d_R_method_65 : decode b_R_method 65 = .ok (.iload_n 1, 1) := by decide +kernel
theorem d_R_method_66 : decode b_R_method 66 = .ok (.iload 6, 2) := by decide +kernel
theorem d_R_method_68 : decode b_R_method 68 = .ok (.iconst 0, 1) := by decide +kernel
theorem d_R_method_69 : decode b_R_method 69 = .ok (.invokevirtual 108, 3) := by decide +kernel
theorem d_R_method_72 : decode b_R_method 72 = .ok (.ifCond .eq 8, 3) := by decide +kernel
theorem d_R_method_75 : decode b_R_method 75 = .ok (.iload 6, 2) := by decide +kernel
theorem d_R_method_77 : decode b_R_method 77 = .ok (.goto 4, 3) := by decide +kernel
theorem d_R_method_80 : decode b_R_method 80 = .ok (.iconst (-1), 1) := by decide +kernel
theorem d_R_method_81 : decode b_R_method 81 = .ok (.istore 4, 2) := by decide +kernel
theorem d_R_method_83 : decode b_R_method 83 = .ok (.goto (-80), 3) := by decide +kernel
theorem d_R_method_86 : decode b_R_method 86 = .ok (.iconst (-1), 1) := by decide +kernel
theorem d_R_method_87 : decode b_R_method 87 = .ok (.istore 5, 2) := by decide +kernel
theorem d_R_method_89 : decode b_R_method 89 = .ok (.iconst 0, 1) := by decide +kernel
theorem d_R_method_90 : decode b_R_method 90 = .ok (.istore 6, 2) := by decide +kernel
theorem d_R_method_92 : decode b_R_method 92 = .ok (.iload 6, 2) := by decide +kernel
theorem d_R_method_94 : decode b_R_method 94 = .ok (.iload_n 2, 1) := by decide +kernel
theorem d_R_method_95 : decode b_R_method 95 = .ok (.if_icmp .ge 106, 3) := by decide +kernel
theorem d_R_method_98 : decode b_R_method 98 = .ok (.aload_n 0, 1) := by decide +kernel
theorem d_R_method_99 : decode b_R_method 99 = .ok (.bipush 12, 2) := by decide +kernel
theorem d_R_method_101 : decode b_R_method 101 = .ok (.iload_n 1, 1) := by decide +kernel
theorem d_R_method_102 : decode b_R_method 102 = .ok (.imul, 1) := by decide +kernel
theorem d_R_method_103 : decode b_R_method 103 = .ok (.iload 6, 2) := by decide +kernel
theorem d_R_method_105 : decode b_R_method 105 = .ok (.iadd, 1) := by decide +kernel
theorem d_R_method_106 : decode b_R_method 106 = .ok (.iconst 1, 1) := by decide +kernel
theorem d_R_method_107 : decode b_R_method 107 = .ok (.iload_n 3, 1) := by decide +kernel
theorem d_R_method_108 : decode b_R_method 108 = .ok (.invokevirtual 72, 3) := by decide +kernel
theorem d_R_method_111 : decode b_R_method 111 = .ok (.istore 7, 2) := by decide +kernel
theorem d_R_method_113 : decode b_R_method 113 = .ok (.iload 7, 2) := by decide +kernel
theorem d_R_method_115 : decode b_R_method 115 = .ok (.ifCond .lt 80, 3) := by decide +kernel
theorem d_R_method_118 : decode b_R_method 118 = .ok (.aload_n 0, 1) := by decide +kernel
theorem d_R_method_119 : decode b_R_method 119 = .ok (.iload_n 1, 1) := by decide +kernel
theorem d_R_method_120 : decode b_R_method 120 = .ok (.iload 6, 2) := by decide +kernel
theorem d_R_method_122 : decode b_R_method 122 = .ok (.iconst 1, 1) := by decide +kernel
theorem d_R_method_123 : decode b_R_method 123 = .ok (.invokevirtual 108, 3) := by decide +kernel
theorem d_R_method_126 : decode b_R_method 126 = .ok (.ifCond .eq 69, 3) := by decide +kernel
theorem d_R_method_129 : decode b_R_method 129 = .ok (.aload_n 0, 1) := by decide +kernel
theorem d_R_method_130 : decode b_R_method 130 = .ok (.iload_n 1, 1) := by decide +kernel
theorem d_R_method_131 : decode b_R_method 131 = .ok (.iload_n 2, 1) := by decide +kernel
theorem d_R_method_132 : decode b_R_method 132 = .ok (.iload 6, 2) := by decide +kernel
theorem d_R_method_134 : decode b_R_method 134 = .ok (.invokevirtual 111, 3) := by decide +kernel
theorem d_R_method_137 : decode b_R_method 137 = .ok (.ifCond .ne 6, 3) := by decide +kernel
theorem d_R_method_140 : decode b_R_method 140 = .ok (.goto 55, 3) := by decide +kernel
theorem d_R_method_143 : decode b_R_method 143 = .ok (.aload_n 0, 1) := by decide +kernel
theorem d_R_method_144 : decode b_R_method 144 = .ok (.getfield 38, 3) := by decide +kernel
theorem d_R_method_147 : decode b_R_method 147 = .ok (.iload 7, 2) := by decide +kernel
theorem d_R_method_149 : decode b_R_method 149 = .ok (.iaload, 1) := by decide +kernel
theorem d_R_method_150 : decode b_R_method 150 = .ok (.bipush 20, 2) := by decide +kernel
theorem d_R_method_152 : decode b_R_method 152 = .ok (.iand, 1) := by decide +kernel
theorem d_R_method_153 : decode b_R_method 153 = .ok (.ifCond .ne 18, 3) := by decide +kernel
theorem d_R_method_156 : decode b_R_method 156 = .ok (.aload_n 0, 1) := by decide +kernel
theorem d_R_method_157 : decode b_R_method 157 = .ok (.getfield 38, 3) := by decide +kernel
theorem d_R_method_160 : decode b_R_method 160 = .ok (.iload 7, 2) := by decide +kernel
theorem d_R_method_162 : decode b_R_method 162 = .ok (.iaload, 1) := by decide +kernel
theorem d_R_method_163 : decode b_R_method 163 = .ok (.iconst 3, 1) := by decide +kernel
theorem d_R_method_164 : decode b_R_method 164 = .ok (.iand, 1) := by decide +kernel
theorem d_R_method_165 : decode b_R_method 165 = .ok (.ifCond .eq 6, 3) := by decide +kernel
theorem d_R_method_168 : decode b_R_method 168 = .ok (.iload 7, 2) := by decide +kernel
theorem d_R_method_170 : decode b_R_method 170 = .ok (.ireturn, 1) := by decide +kernel
theorem d_R_method_171 : decode b_R_method 171 = .ok (.aload_n 0, 1) := by decide +kernel
theorem d_R_method_172 : decode b_R_method 172 = .ok (.getfield 38, 3) := by decide +kernel
theorem d_R_method_175 : decode b_R_method 175 = .ok (.iload 7, 2) := by decide +kernel
theorem d_R_method_177 : decode b_R_method 177 = .ok (.iaload, 1) := by decide +kernel
theorem d_R_method_178 : decode b_R_method 178 = .ok (.bipush 16, 2) := by decide +kernel
theorem d_R_method_180 : decode b_R_method 180 = .ok (.invokestatic 66, 3) := by decide +kernel
theorem d_R_method_183 : decode b_R_method 183 = .ok (.ifCond .eq 12, 3) := by decide +kernel
theorem d_R_method_186 : decode b_R_method 186 = .ok (.iload 5, 2) := by decide +kernel
theorem d_R_method_188 : decode b_R_method 188 = .ok (.ifCond .ge 7, 3) := by decide +kernel
theorem d_R_method_191 : decode b_R_method 191 = .ok (.iload 7, 2) := by decide +kernel
theorem d_R_method_193 : decode b_R_method 193 = .ok (.istore 5, 2) := by decide +kernel
theorem d_R_method_195 : decode b_R_method 195 = .ok (.iinc 6 1, 3) := by decide +kernel
theorem d_R_method_198 : decode b_R_method 198 = .ok (.goto (-106), 3) := by decide +kernel
theorem d_R_method_201 : decode b_R_method 201 = .ok (.iload 5, 2) := by decide +kernel
theorem d_R_method_203 : decode b_R_method 203 = .ok (.ireturn, 1) := by decide +kernel
theorem d_R_find_0 : decode b_R_find 0 = .ok (.aload_n 0, 1) := by decide +kernel
theorem d_R_find_1 : decode b_R_find 1 = .ok (.getfield 7, 3) := by decide +kernel
theorem d_R_find_4 : decode b_R_find 4 = .ok (.bipush 12, 2) := by decide +kernel
theorem d_R_find_6 : decode b_R_find 6 = .ok (.iload_n 1, 1) := by decide +kernel
theorem d_R_find_7 : decode b_R_find 7 = .ok (.imul, 1) := by decide +kernel
theorem d_R_find_8 : decode b_R_find 8 = .ok (.iload_n 2, 1) := by decide +kernel
theorem d_R_find_9 : decode b_R_find 9 = .ok (.iadd, 1) := by decide +kernel
theorem d_R_find_10 : decode b_R_find 10 = .ok (.baload, 1) := by decide +kernel
theorem d_R_find_11 : decode b_R_find 11 = .ok (.ifCond .ne 5, 3) := by decide +kernel
theorem d_R_find_14 : decode b_R_find 14 = .ok (.iconst (-1), 1) := by decide +kernel
theorem d_R_find_15 : decode b_R_find 15 = .ok (.ireturn, 1) := by decide +kernel
theorem d_R_find_16 : decode b_R_find 16 = .ok (.iload_n 3, 1) := by decide +kernel
theorem d_R_find_17 : decode b_R_find 17 = .ok (.ifCond .ne 14, 3) := by decide +kernel
theorem d_R_find_20 : decode b_R_find 20 = .ok (.aload_n 0, 1) := by decide +kernel
theorem d_R_find_21 : decode b_R_find 21 = .ok (.iload_n 1, 1) := by decide +kernel
theorem d_R_find_22 : decode b_R_find 22 = .ok (.iload_n 2, 1) := by decide +kernel
theorem d_R_find_23 : decode b_R_find 23 = .ok (.iload 4, 2) := by decide +kernel
theorem d_R_find_25 : decode b_R_find 25 = .ok (.invokevirtual 114, 3) := by decide +kernel
theorem d_R_find_28 : decode b_R_find 28 = .ok (.goto 32, 3) := by decide +kernel
theorem d_R_find_31 : decode b_R_find 31 = .ok (.iload_n 3, 1) := by decide +kernel
theorem d_R_find_32 : decode b_R_find 32 = .ok (.iconst 1, 1) := by decide +kernel
theorem d_R_find_33 : decode b_R_find 33 = .ok (.if_icmp .ne 14, 3) := by decide +kernel
theorem d_R_find_36 : decode b_R_find 36 = .ok (.aload_n 0, 1) := by decide +kernel
theorem d_R_find_37 : decode b_R_find 37 = .ok (.iload_n 1, 1) := by decide +kernel
theorem d_R_find_38 : decode b_R_find 38 = .ok (.iload_n 2, 1) := by decide +kernel
theorem d_R_find_39 : decode b_R_find 39 = .ok (.iload 4, 2) := by decide +kernel
theorem d_R_find_41 : decode b_R_find 41 = .ok (.invokevirtual 117, 3) := by decide +kernel
theorem d_R_find_44 : decode b_R_find 44 = .ok (.goto 16, 3) := by decide +kernel
theorem d_R_find_47 : decode b_R_find 47 = .ok (.aload_n 0, 1) := by decide +kernel
theorem d_R_find_48 : decode b_R_find 48 = .ok (.bipush 12, 2) := by decide +kernel
theorem d_R_find_50 : decode b_R_find 50 = .ok (.iload_n 1, 1) := by decide +kernel
theorem d_R_find_51 : decode b_R_find 51 = .ok (.imul, 1) := by decide +kernel
theorem d_R_find_52 : decode b_R_find 52 = .ok (.iload_n 2, 1) := by decide +kernel
theorem d_R_find_53 : decode b_R_find 53 = .ok (.iadd, 1) := by decide +kernel
theorem d_R_find_54 : decode b_R_find 54 = .ok (.iconst 2, 1) := by decide +kernel
theorem d_R_find_55 : decode b_R_find 55 = .ok (.iload 4, 2) := by decide +kernel
theorem d_R_find_57 : decode b_R_find 57 = .ok (.invokevirtual 72, 3) := by decide +kernel
theorem d_R_find_60 : decode b_R_find 60 = .ok (.ireturn, 1) := by decide +kernel
theorem d_R_look_0 : decode b_R_look 0 = .ok (.iload_n 1, 1) := by decide +kernel
theorem d_R_look_1 : decode b_R_look 1 = .ok (.iload_n 2, 1) := by decide +kernel
theorem d_R_look_2 : decode b_R_look 2 = .ok (.invokestatic 63, 3) := by decide +kernel
theorem d_R_look_5 : decode b_R_look 5 = .ok (.ifCond .ne 12, 3) := by decide +kernel
theorem d_R_look_8 : decode b_R_look 8 = .ok (.iload_n 3, 1) := by decide +kernel
theorem d_R_look_9 : decode b_R_look 9 = .ok (.iload 4, 2) := by decide +kernel
theorem d_R_look_11 : decode b_R_look 11 = .ok (.invokestatic 69, 3) := by decide +kernel
theorem d_R_look_14 : decode b_R_look 14 = .ok (.ifCond .eq 5, 3) := by decide +kernel
theorem d_R_look_17 : decode b_R_look 17 = .ok (.iconst (-1), 1) := by decide +kernel
theorem d_R_look_18 : decode b_R_look 18 = .ok (.ireturn, 1) := by decide +kernel
theorem d_R_look_19 : decode b_R_look 19 = .ok (.aload_n 0, 1) := by decide +kernel
theorem d_R_look_20 : decode b_R_look 20 = .ok (.iload_n 1, 1) := by decide +kernel
theorem d_R_look_21 : decode b_R_look 21 = .ok (.iload_n 2, 1) := by decide +kernel
theorem d_R_look_22 : decode b_R_look 22 = .ok (.iload_n 3, 1) := by decide +kernel
theorem d_R_look_23 : decode b_R_look 23 = .ok (.iload 4, 2) := by decide +kernel
theorem d_R_look_25 : decode b_R_look 25 = .ok (.invokevirtual 120, 3) := by decide +kernel
theorem d_R_look_28 : decode b_R_look 28 = .ok (.istore 5, 2) := by decide +kernel
theorem d_R_look_30 : decode b_R_look 30 = .ok (.iload 5, 2) := by decide +kernel
theorem d_R_look_32 : decode b_R_look 32 = .ok (.ifCond .ge 8, 3) := by decide +kernel
theorem d_R_look_35 : decode b_R_look 35 = .ok (.bipush 12, 2) := by decide +kernel
theorem d_R_look_37 : decode b_R_look 37 = .ok (.goto 13, 3) := by decide +kernel
theorem d_R_look_40 : decode b_R_look 40 = .ok (.iload 5, 2) := by decide +kernel
theorem d_R_look_42 : decode b_R_look 42 = .ok (.bipush 8, 2) := by decide +kernel
theorem d_R_look_44 : decode b_R_look 44 = .ok (.idiv, 1) := by decide +kernel
theorem d_R_look_45 : decode b_R_look 45 = .ok (.bipush 12, 2) := by decide +kernel
theorem d_R_look_47 : decode b_R_look 47 = .ok (.iload_n 1, 1) := by decide +kernel
theorem d_R_look_48 : decode b_R_look 48 = .ok (.imul, 1) := by decide +kernel
theorem d_R_look_49 : decode b_R_look 49 = .ok (.isub, 1) := by decide +kernel
theorem d_R_look_50 : decode b_R_look 50 = .ok (.ireturn, 1) := by decide +kernel
theorem d_R_severity_0 : decode b_R_severity 0 = .ok (.iload_n 0, 1) := by decide +kernel
theorem d_R_severity_1 : decode b_R_severity 1 = .ok (.bipush 9, 2) := by decide +kernel
theorem d_R_severity_3 : decode b_R_severity 3 = .ok (.if_icmp .eq 9, 3) := by decide +kernel
theorem d_R_severity_6 : decode b_R_severity 6 = .ok (.iload_n 0, 1) := by decide +kernel
theorem d_R_severity_7 : decode b_R_severity 7 = .ok (.bipush 13, 2) := by decide +kernel
theorem d_R_severity_9 : decode b_R_severity 9 = .ok (.if_icmp .ne 7, 3) := by decide +kernel
theorem d_R_severity_12 : decode b_R_severity 12 = .ok (.iconst 1, 1) := by decide +kernel
theorem d_R_severity_13 : decode b_R_severity 13 = .ok (.goto 36, 3) := by decide +kernel
theorem d_R_severity_16 : decode b_R_severity 16 = .ok (.iload_n 0, 1) := by decide +kernel
theorem d_R_severity_17 : decode b_R_severity 17 = .ok (.iconst 2, 1) := by decide +kernel
theorem d_R_severity_18 : decode b_R_severity 18 = .ok (.if_icmp .eq 26, 3) := by decide +kernel
theorem d_R_severity_21 : decode b_R_severity 21 = .ok (.iload_n 0, 1) := by decide +kernel
theorem d_R_severity_22 : decode b_R_severity 22 = .ok (.iconst 3, 1) := by decide +kernel
theorem d_R_severity_23 : decode b_R_severity 23 = .ok (.if_icmp .eq 21, 3) := by decide +kernel
theorem d_R_severity_26 : decode b_R_severity 26 = .ok (.iload_n 0, 1) := by decide +kernel
theorem d_R_severity_27 : decode b_R_severity 27 = .ok (.bipush 8, 2) := by decide +kernel
theorem d_R_severity_29 : decode b_R_severity 29 = .ok (.if_icmp .eq 15, 3) := by decide +kernel
theorem d_R_severity_32 : decode b_R_severity 32 = .ok (.iload_n 0, 1) := by decide +kernel
theorem d_R_severity_33 : decode b_R_severity 33 = .ok (.bipush 11, 2) := by decide +kernel
theorem d_R_severity_35 : decode b_R_severity 35 = .ok (.if_icmp .eq 9, 3) := by decide +kernel
theorem d_R_severity_38 : decode b_R_severity 38 = .ok (.iload_n 0, 1) := by decide +kernel
theorem d_R_severity_39 : decode b_R_severity 39 = .ok (.bipush 12, 2) := by decide +kernel
theorem d_R_severity_41 : decode b_R_severity 41 = .ok (.if_icmp .ne 7, 3) := by decide +kernel
theorem d_R_severity_44 : decode b_R_severity 44 = .ok (.iconst 2, 1) := by decide +kernel
theorem d_R_severity_45 : decode b_R_severity 45 = .ok (.goto 4, 3) := by decide +kernel
theorem d_R_severity_48 : decode b_R_severity 48 = .ok (.iconst 3, 1) := by decide +kernel
theorem d_R_severity_49 : decode b_R_severity 49 = .ok (.ireturn, 1) := by decide +kernel
theorem d_R_tell_0 : decode b_R_tell 0 = .ok (.aload_n 0, 1) := by decide +kernel
theorem d_R_tell_1 : decode b_R_tell 1 = .ok (.getfield 124, 3) := by decide +kernel
theorem d_R_tell_4 : decode b_R_tell 4 = .ok (.aload_n 0, 1) := by decide +kernel
theorem d_R_tell_5 : decode b_R_tell 5 = .ok (.getfield 128, 3) := by decide +kernel
theorem d_R_tell_8 : decode b_R_tell 8 = .ok (.if_icmp .ne 18, 3) := by decide +kernel
theorem d_R_tell_11 : decode b_R_tell 11 = .ok (.aload_n 0, 1) := by decide +kernel
theorem d_R_tell_12 : decode b_R_tell 12 = .ok (.iload_n 1, 1) := by decide +kernel
theorem d_R_tell_13 : decode b_R_tell 13 = .ok (.putfield 131, 3) := by decide +kernel
theorem d_R_tell_16 : decode b_R_tell 16 = .ok (.aload_n 0, 1) := by decide +kernel
theorem d_R_tell_17 : decode b_R_tell 17 = .ok (.iload_n 2, 1) := by decide +kernel
theorem d_R_tell_18 : decode b_R_tell 18 = .ok (.putfield 134, 3) := by decide +kernel
theorem d_R_tell_21 : decode b_R_tell 21 = .ok (.aload_n 0, 1) := by decide +kernel
theorem d_R_tell_22 : decode b_R_tell 22 = .ok (.iload_n 3, 1) := by decide +kernel
theorem d_R_tell_23 : decode b_R_tell 23 = .ok (.putfield 137, 3) := by decide +kernel
theorem d_R_tell_26 : decode b_R_tell 26 = .ok (.aload_n 0, 1) := by decide +kernel
theorem d_R_tell_27 : decode b_R_tell 27 = .ok (.dup, 1) := by decide +kernel
theorem d_R_tell_28 : decode b_R_tell 28 = .ok (.getfield 124, 3) := by decide +kernel
theorem d_R_tell_31 : decode b_R_tell 31 = .ok (.iconst 1, 1) := by decide +kernel
theorem d_R_tell_32 : decode b_R_tell 32 = .ok (.iadd, 1) := by decide +kernel
theorem d_R_tell_33 : decode b_R_tell 33 = .ok (.putfield 124, 3) := by decide +kernel
theorem d_R_tell_36 : decode b_R_tell 36 = .ok (.aload_n 0, 1) := by decide +kernel
theorem d_R_tell_37 : decode b_R_tell 37 = .ok (.getfield 47, 3) := by decide +kernel
theorem d_R_tell_40 : decode b_R_tell 40 = .ok (.bipush 12, 2) := by decide +kernel
theorem d_R_tell_42 : decode b_R_tell 42 = .ok (.iload_n 1, 1) := by decide +kernel
theorem d_R_tell_43 : decode b_R_tell 43 = .ok (.imul, 1) := by decide +kernel
theorem d_R_tell_44 : decode b_R_tell 44 = .ok (.iload_n 2, 1) := by decide +kernel
theorem d_R_tell_45 : decode b_R_tell 45 = .ok (.iadd, 1) := by decide +kernel
theorem d_R_tell_46 : decode b_R_tell 46 = .ok (.baload, 1) := by decide +kernel
theorem d_R_tell_47 : decode b_R_tell 47 = .ok (.ifCond .eq 4, 3) := by decide +kernel
theorem d_R_tell_50 : decode b_R_tell 50 = .ok (.return_, 1) := by decide +kernel
theorem d_R_tell_51 : decode b_R_tell 51 = .ok (.aload_n 0, 1) := by decide +kernel
theorem d_R_tell_52 : decode b_R_tell 52 = .ok (.getfield 56, 3) := by decide +kernel
theorem d_R_tell_55 : decode b_R_tell 55 = .ok (.iload_n 1, 1) := by decide +kernel
end
section
theorem d_R_tell_56 : decode b_R_tell 56 = .ok (.dup2, 1) := by decide +kernel
theorem d_R_tell_57 : decode b_R_tell 57 = .ok (.iaload, 1) := by decide +kernel
theorem d_R_tell_58 : decode b_R_tell 58 = .ok (.iconst 1, 1) := by decide +kernel
theorem d_R_tell_59 : decode b_R_tell 59 = .ok (.iadd, 1) := by decide +kernel
theorem d_R_tell_60 : decode b_R_tell 60 = .ok (.iastore, 1) := by decide +kernel
theorem d_R_tell_61 : decode b_R_tell 61 = .ok (.iload_n 1, 1) := by decide +kernel
theorem d_R_tell_62 : decode b_R_tell 62 = .ok (.invokestatic 140, 3) := by decide +kernel
theorem d_R_tell_65 : decode b_R_tell 65 = .ok (.aload_n 0, 1) := by decide +kernel
theorem d_R_tell_66 : decode b_R_tell 66 = .ok (.getfield 143, 3) := by decide +kernel
theorem d_R_tell_69 : decode b_R_tell 69 = .ok (.if_icmp .le 11, 3) := by decide +kernel
theorem d_R_tell_72 : decode b_R_tell 72 = .ok (.aload_n 0, 1) := by decide +kernel
theorem d_R_tell_73 : decode b_R_tell 73 = .ok (.iload_n 1, 1) := by decide +kernel
theorem d_R_tell_74 : decode b_R_tell 74 = .ok (.invokestatic 140, 3) := by decide +kernel
theorem d_R_tell_77 : decode b_R_tell 77 = .ok (.putfield 143, 3) := by decide +kernel
theorem d_R_tell_80 : decode b_R_tell 80 = .ok (.return_, 1) := by decide +kernel
theorem d_R_breaks_0 : decode b_R_breaks 0 = .ok (.iload_n 1, 1) := by decide +kernel
theorem d_R_breaks_1 : decode b_R_breaks 1 = .ok (.iconst 5, 1) := by decide +kernel
theorem d_R_breaks_2 : decode b_R_breaks 2 = .ok (.if_icmp .eq 8, 3) := by decide +kernel
theorem d_R_breaks_5 : decode b_R_breaks 5 = .ok (.iload 4, 2) := by decide +kernel
theorem d_R_breaks_7 : decode b_R_breaks 7 = .ok (.ifCond .ge 19, 3) := by decide +kernel
theorem d_R_breaks_10 : decode b_R_breaks 10 = .ok (.iload_n 1, 1) := by decide +kernel
theorem d_R_breaks_11 : decode b_R_breaks 11 = .ok (.iconst 5, 1) := by decide +kernel
theorem d_R_breaks_12 : decode b_R_breaks 12 = .ok (.if_icmp .ne 12, 3) := by decide +kernel
theorem d_R_breaks_15 : decode b_R_breaks 15 = .ok (.iload 4, 2) := by decide +kernel
theorem d_R_breaks_17 : decode b_R_breaks 17 = .ok (.ifCond .ge 7, 3) := by decide +kernel
theorem d_R_breaks_20 : decode b_R_breaks 20 = .ok (.iconst 1, 1) := by decide +kernel
theorem d_R_breaks_21 : decode b_R_breaks 21 = .ok (.goto 4, 3) := by decide +kernel
theorem d_R_breaks_24 : decode b_R_breaks 24 = .ok (.iconst 0, 1) := by decide +kernel
theorem d_R_breaks_25 : decode b_R_breaks 25 = .ok (.ireturn, 1) := by decide +kernel
theorem d_R_breaks_26 : decode b_R_breaks 26 = .ok (.aload_n 0, 1) := by decide +kernel
theorem d_R_breaks_27 : decode b_R_breaks 27 = .ok (.getfield 38, 3) := by decide +kernel
theorem d_R_breaks_30 : decode b_R_breaks 30 = .ok (.iload_n 3, 1) := by decide +kernel
theorem d_R_breaks_31 : decode b_R_breaks 31 = .ok (.iaload, 1) := by decide +kernel
theorem d_R_breaks_32 : decode b_R_breaks 32 = .ok (.istore 5, 2) := by decide +kernel
theorem d_R_breaks_34 : decode b_R_breaks 34 = .ok (.aload_n 0, 1) := by decide +kernel
theorem d_R_breaks_35 : decode b_R_breaks 35 = .ok (.getfield 38, 3) := by decide +kernel
theorem d_R_breaks_38 : decode b_R_breaks 38 = .ok (.iload 4, 2) := by decide +kernel
theorem d_R_breaks_40 : decode b_R_breaks 40 = .ok (.iaload, 1) := by decide +kernel
theorem d_R_breaks_41 : decode b_R_breaks 41 = .ok (.istore 6, 2) := by decide +kernel
theorem d_R_breaks_43 : decode b_R_breaks 43 = .ok (.iload_n 1, 1) := by decide +kernel
theorem d_R_breaks_44 : decode b_R_breaks 44 = .ok (.tableswitch 181 6 10 #[36, 53, 69, 104, 145], 36) := by decide +kernel
theorem d_R_breaks_80 : decode b_R_breaks 80 = .ok (.iload 6, 2) := by decide +kernel
theorem d_R_breaks_82 : decode b_R_breaks 82 = .ok (.iconst 3, 1) := by decide +kernel
theorem d_R_breaks_83 : decode b_R_breaks 83 = .ok (.iand, 1) := by decide +kernel
theorem d_R_breaks_84 : decode b_R_breaks 84 = .ok (.iload 5, 2) := by decide +kernel
theorem d_R_breaks_86 : decode b_R_breaks 86 = .ok (.iconst 3, 1) := by decide +kernel
theorem d_R_breaks_87 : decode b_R_breaks 87 = .ok (.iand, 1) := by decide +kernel
theorem d_R_breaks_88 : decode b_R_breaks 88 = .ok (.if_icmp .ge 7, 3) := by decide +kernel
theorem d_R_breaks_91 : decode b_R_breaks 91 = .ok (.iconst 1, 1) := by decide +kernel
theorem d_R_breaks_92 : decode b_R_breaks 92 = .ok (.goto 4, 3) := by decide +kernel
theorem d_R_breaks_95 : decode b_R_breaks 95 = .ok (.iconst 0, 1) := by decide +kernel
theorem d_R_breaks_96 : decode b_R_breaks 96 = .ok (.ireturn, 1) := by decide +kernel
theorem d_R_breaks_97 : decode b_R_breaks 97 = .ok (.iload 5, 2) := by decide +kernel
theorem d_R_breaks_99 : decode b_R_breaks 99 = .ok (.iload 6, 2) := by decide +kernel
theorem d_R_breaks_101 : decode b_R_breaks 101 = .ok (.ixor, 1) := by decide +kernel
theorem d_R_breaks_102 : decode b_R_breaks 102 = .ok (.iconst 4, 1) := by decide +kernel
theorem d_R_breaks_103 : decode b_R_breaks 103 = .ok (.iand, 1) := by decide +kernel
theorem d_R_breaks_104 : decode b_R_breaks 104 = .ok (.ifCond .eq 7, 3) := by decide +kernel
theorem d_R_breaks_107 : decode b_R_breaks 107 = .ok (.iconst 1, 1) := by decide +kernel
theorem d_R_breaks_108 : decode b_R_breaks 108 = .ok (.goto 4, 3) := by decide +kernel
theorem d_R_breaks_111 : decode b_R_breaks 111 = .ok (.iconst 0, 1) := by decide +kernel
theorem d_R_breaks_112 : decode b_R_breaks 112 = .ok (.ireturn, 1) := by decide +kernel
theorem d_R_breaks_113 : decode b_R_breaks 113 = .ok (.aload_n 0, 1) := by decide +kernel
theorem d_R_breaks_114 : decode b_R_breaks 114 = .ok (.getfield 32, 3) := by decide +kernel
theorem d_R_breaks_117 : decode b_R_breaks 117 = .ok (.iload_n 3, 1) := by decide +kernel
theorem d_R_breaks_118 : decode b_R_breaks 118 = .ok (.iaload, 1) := by decide +kernel
theorem d_R_breaks_119 : decode b_R_breaks 119 = .ok (.ifCond .ne 27, 3) := by decide +kernel
theorem d_R_breaks_122 : decode b_R_breaks 122 = .ok (.iload 5, 2) := by decide +kernel
theorem d_R_breaks_124 : decode b_R_breaks 124 = .ok (.bipush 8, 2) := by decide +kernel
theorem d_R_breaks_126 : decode b_R_breaks 126 = .ok (.invokestatic 66, 3) := by decide +kernel
theorem d_R_breaks_129 : decode b_R_breaks 129 = .ok (.ifCond .ne 17, 3) := by decide +kernel
theorem d_R_breaks_132 : decode b_R_breaks 132 = .ok (.iload 6, 2) := by decide +kernel
theorem d_R_breaks_134 : decode b_R_breaks 134 = .ok (.bipush 8, 2) := by decide +kernel
theorem d_R_breaks_136 : decode b_R_breaks 136 = .ok (.invokestatic 66, 3) := by decide +kernel
theorem d_R_breaks_139 : decode b_R_breaks 139 = .ok (.ifCond .eq 7, 3) := by decide +kernel
theorem d_R_breaks_142 : decode b_R_breaks 142 = .ok (.iconst 1, 1) := by decide +kernel
theorem d_R_breaks_143 : decode b_R_breaks 143 = .ok (.goto 4, 3) := by decide +kernel
theorem d_R_breaks_146 : decode b_R_breaks 146 = .ok (.iconst 0, 1) := by decide +kernel
theorem d_R_breaks_147 : decode b_R_breaks 147 = .ok (.ireturn, 1) := by decide +kernel
theorem d_R_breaks_148 : decode b_R_breaks 148 = .ok (.aload_n 0, 1) := by decide +kernel
theorem d_R_breaks_149 : decode b_R_breaks 149 = .ok (.getfield 41, 3) := by decide +kernel
theorem d_R_breaks_152 : decode b_R_breaks 152 = .ok (.iload_n 3, 1) := by decide +kernel
theorem d_R_breaks_153 : decode b_R_breaks 153 = .ok (.baload, 1) := by decide +kernel
theorem d_R_breaks_154 : decode b_R_breaks 154 = .ok (.ifCond .eq 33, 3) := by decide +kernel
theorem d_R_breaks_157 : decode b_R_breaks 157 = .ok (.aload_n 0, 1) := by decide +kernel
theorem d_R_breaks_158 : decode b_R_breaks 158 = .ok (.getfield 41, 3) := by decide +kernel
theorem d_R_breaks_161 : decode b_R_breaks 161 = .ok (.iload 4, 2) := by decide +kernel
theorem d_R_breaks_163 : decode b_R_breaks 163 = .ok (.baload, 1) := by decide +kernel
theorem d_R_breaks_164 : decode b_R_breaks 164 = .ok (.ifCond .eq 19, 3) := by decide +kernel
theorem d_R_breaks_167 : decode b_R_breaks 167 = .ok (.aload_n 0, 1) := by decide +kernel
theorem d_R_breaks_168 : decode b_R_breaks 168 = .ok (.getfield 44, 3) := by decide +kernel
theorem d_R_breaks_171 : decode b_R_breaks 171 = .ok (.iload 4, 2) := by decide +kernel
theorem d_R_breaks_173 : decode b_R_breaks 173 = .ok (.iaload, 1) := by decide +kernel
theorem d_R_breaks_174 : decode b_R_breaks 174 = .ok (.aload_n 0, 1) := by decide +kernel
theorem d_R_breaks_175 : decode b_R_breaks 175 = .ok (.getfield 44, 3) := by decide +kernel
theorem d_R_breaks_178 : decode b_R_breaks 178 = .ok (.iload_n 3, 1) := by decide +kernel
theorem d_R_breaks_179 : decode b_R_breaks 179 = .ok (.iaload, 1) := by decide +kernel
theorem d_R_breaks_180 : decode b_R_breaks 180 = .ok (.if_icmp .eq 7, 3) := by decide +kernel
theorem d_R_breaks_183 : decode b_R_breaks 183 = .ok (.iconst 1, 1) := by decide +kernel
theorem d_R_breaks_184 : decode b_R_breaks 184 = .ok (.goto 4, 3) := by decide +kernel
theorem d_R_breaks_187 : decode b_R_breaks 187 = .ok (.iconst 0, 1) := by decide +kernel
theorem d_R_breaks_188 : decode b_R_breaks 188 = .ok (.ireturn, 1) := by decide +kernel
theorem d_R_breaks_189 : decode b_R_breaks 189 = .ok (.aload_n 0, 1) := by decide +kernel
theorem d_R_breaks_190 : decode b_R_breaks 190 = .ok (.getfield 32, 3) := by decide +kernel
theorem d_R_breaks_193 : decode b_R_breaks 193 = .ok (.iload_n 3, 1) := by decide +kernel
theorem d_R_breaks_194 : decode b_R_breaks 194 = .ok (.iaload, 1) := by decide +kernel
theorem d_R_breaks_195 : decode b_R_breaks 195 = .ok (.iconst 1, 1) := by decide +kernel
theorem d_R_breaks_196 : decode b_R_breaks 196 = .ok (.if_icmp .ne 27, 3) := by decide +kernel
theorem d_R_breaks_199 : decode b_R_breaks 199 = .ok (.iload 5, 2) := by decide +kernel
theorem d_R_breaks_201 : decode b_R_breaks 201 = .ok (.bipush 16, 2) := by decide +kernel
theorem d_R_breaks_203 : decode b_R_breaks 203 = .ok (.invokestatic 66, 3) := by decide +kernel
theorem d_R_breaks_206 : decode b_R_breaks 206 = .ok (.ifCond .ne 17, 3) := by decide +kernel
theorem d_R_breaks_209 : decode b_R_breaks 209 = .ok (.iload 6, 2) := by decide +kernel
theorem d_R_breaks_211 : decode b_R_breaks 211 = .ok (.bipush 16, 2) := by decide +kernel
theorem d_R_breaks_213 : decode b_R_breaks 213 = .ok (.invokestatic 66, 3) := by decide +kernel
theorem d_R_breaks_216 : decode b_R_breaks 216 = .ok (.ifCond .eq 7, 3) := by decide +kernel
theorem d_R_breaks_219 : decode b_R_breaks 219 = .ok (.iconst 1, 1) := by decide +kernel
theorem d_R_breaks_220 : decode b_R_breaks 220 = .ok (.goto 4, 3) := by decide +kernel
theorem d_R_breaks_223 : decode b_R_breaks 223 = .ok (.iconst 0, 1) := by decide +kernel
theorem d_R_breaks_224 : decode b_R_breaks 224 = .ok (.ireturn, 1) := by decide +kernel
theorem d_R_breaks_225 : decode b_R_breaks 225 = .ok (.aload_n 0, 1) := by decide +kernel
theorem d_R_breaks_226 : decode b_R_breaks 226 = .ok (.getfield 32, 3) := by decide +kernel
theorem d_R_breaks_229 : decode b_R_breaks 229 = .ok (.iload_n 3, 1) := by decide +kernel
theorem d_R_breaks_230 : decode b_R_breaks 230 = .ok (.iaload, 1) := by decide +kernel
theorem d_R_breaks_231 : decode b_R_breaks 231 = .ok (.iconst 1, 1) := by decide +kernel
theorem d_R_breaks_232 : decode b_R_breaks 232 = .ok (.if_icmp .ne 40, 3) := by decide +kernel
theorem d_R_breaks_235 : decode b_R_breaks 235 = .ok (.iload 5, 2) := by decide +kernel
theorem d_R_breaks_237 : decode b_R_breaks 237 = .ok (.bipush 12, 2) := by decide +kernel
theorem d_R_breaks_239 : decode b_R_breaks 239 = .ok (.invokestatic 66, 3) := by decide +kernel
theorem d_R_breaks_242 : decode b_R_breaks 242 = .ok (.ifCond .ne 30, 3) := by decide +kernel
theorem d_R_breaks_245 : decode b_R_breaks 245 = .ok (.aload_n 0, 1) := by decide +kernel
theorem d_R_breaks_246 : decode b_R_breaks 246 = .ok (.getfield 17, 3) := by decide +kernel
theorem d_R_breaks_249 : decode b_R_breaks 249 = .ok (.iload_n 2, 1) := by decide +kernel
theorem d_R_breaks_250 : decode b_R_breaks 250 = .ok (.iaload, 1) := by decide +kernel
theorem d_R_breaks_251 : decode b_R_breaks 251 = .ok (.iconst 4, 1) := by decide +kernel
theorem d_R_breaks_252 : decode b_R_breaks 252 = .ok (.invokestatic 66, 3) := by decide +kernel
theorem d_R_breaks_255 : decode b_R_breaks 255 = .ok (.ifCond .ne 17, 3) := by decide +kernel
theorem d_R_breaks_258 : decode b_R_breaks 258 = .ok (.iload 6, 2) := by decide +kernel
theorem d_R_breaks_260 : decode b_R_breaks 260 = .ok (.bipush 8, 2) := by decide +kernel
theorem d_R_breaks_262 : decode b_R_breaks 262 = .ok (.invokestatic 66, 3) := by decide +kernel
theorem d_R_breaks_265 : decode b_R_breaks 265 = .ok (.ifCond .eq 7, 3) := by decide +kernel
theorem d_R_breaks_268 : decode b_R_breaks 268 = .ok (.iconst 1, 1) := by decide +kernel
theorem d_R_breaks_269 : decode b_R_breaks 269 = .ok (.goto 4, 3) := by decide +kernel
theorem d_R_breaks_272 : decode b_R_breaks 272 = .ok (.iconst 0, 1) := by decide +kernel
theorem d_R_breaks_273 : decode b_R_breaks 273 = .ok (.ireturn, 1) := by decide +kernel
theorem d_R_members_0 : decode b_R_members 0 = .ok (.bipush 8, 2) := by decide +kernel
theorem d_R_members_2 : decode b_R_members 2 = .ok (.iload_n 2, 1) := by decide +kernel
theorem d_R_members_3 : decode b_R_members 3 = .ok (.imul, 1) := by decide +kernel
theorem d_R_members_4 : decode b_R_members 4 = .ok (.istore_n 3, 1) := by decide +kernel
theorem d_R_members_5 : decode b_R_members 5 = .ok (.iload_n 3, 1) := by decide +kernel
theorem d_R_members_6 : decode b_R_members 6 = .ok (.bipush 8, 2) := by decide +kernel
theorem d_R_members_8 : decode b_R_members 8 = .ok (.iload_n 2, 1) := by decide +kernel
theorem d_R_members_9 : decode b_R_members 9 = .ok (.imul, 1) := by decide +kernel
theorem d_R_members_10 : decode b_R_members 10 = .ok (.aload_n 0, 1) := by decide +kernel
theorem d_R_members_11 : decode b_R_members 11 = .ok (.getfield 29, 3) := by decide +kernel
theorem d_R_members_14 : decode b_R_members 14 = .ok (.iload_n 2, 1) := by decide +kernel
theorem d_R_members_15 : decode b_R_members 15 = .ok (.iaload, 1) := by decide +kernel
theorem d_R_members_16 : decode b_R_members 16 = .ok (.iadd, 1) := by decide +kernel
theorem d_R_members_17 : decode b_R_members 17 = .ok (.if_icmp .ge 61, 3) := by decide +kernel
theorem d_R_members_20 : decode b_R_members 20 = .ok (.aload_n 0, 1) := by decide +kernel
theorem d_R_members_21 : decode b_R_members 21 = .ok (.getfield 38, 3) := by decide +kernel
theorem d_R_members_24 : decode b_R_members 24 = .ok (.iload_n 3, 1) := by decide +kernel
theorem d_R_members_25 : decode b_R_members 25 = .ok (.iaload, 1) := by decide +kernel
theorem d_R_members_26 : decode b_R_members 26 = .ok (.iconst 3, 1) := by decide +kernel
theorem d_R_members_27 : decode b_R_members 27 = .ok (.iand, 1) := by decide +kernel
theorem d_R_members_28 : decode b_R_members 28 = .ok (.iconst 2, 1) := by decide +kernel
theorem d_R_members_29 : decode b_R_members 29 = .ok (.if_icmp .lt 43, 3) := by decide +kernel
theorem d_R_members_32 : decode b_R_members 32 = .ok (.aload_n 0, 1) := by decide +kernel
theorem d_R_members_33 : decode b_R_members 33 = .ok (.iload_n 1, 1) := by decide +kernel
theorem d_R_members_34 : decode b_R_members 34 = .ok (.iload_n 2, 1) := by decide +kernel
theorem d_R_members_35 : decode b_R_members 35 = .ok (.iload_n 3, 1) := by decide +kernel
theorem d_R_members_36 : decode b_R_members 36 = .ok (.aload_n 0, 1) := by decide +kernel
theorem d_R_members_37 : decode b_R_members 37 = .ok (.iconst 1, 1) := by decide +kernel
theorem d_R_members_38 : decode b_R_members 38 = .ok (.iload_n 2, 1) := by decide +kernel
theorem d_R_members_39 : decode b_R_members 39 = .ok (.aload_n 0, 1) := by decide +kernel
theorem d_R_members_40 : decode b_R_members 40 = .ok (.getfield 32, 3) := by decide +kernel
theorem d_R_members_43 : decode b_R_members 43 = .ok (.iload_n 3, 1) := by decide +kernel
theorem d_R_members_44 : decode b_R_members 44 = .ok (.iaload, 1) := by decide +kernel
theorem d_R_members_45 : decode b_R_members 45 = .ok (.aload_n 0, 1) := by decide +kernel
theorem d_R_members_46 : decode b_R_members 46 = .ok (.getfield 35, 3) := by decide +kernel
theorem d_R_members_49 : decode b_R_members 49 = .ok (.iload_n 3, 1) := by decide +kernel
theorem d_R_members_50 : decode b_R_members 50 = .ok (.iaload, 1) := by decide +kernel
theorem d_R_members_51 : decode b_R_members 51 = .ok (.invokevirtual 120, 3) := by decide +kernel
theorem d_R_members_54 : decode b_R_members 54 = .ok (.invokevirtual 146, 3) := by decide +kernel
theorem d_R_members_57 : decode b_R_members 57 = .ok (.ifCond .eq 15, 3) := by decide +kernel
theorem d_R_members_60 : decode b_R_members 60 = .ok (.aload_n 0, 1) := by decide +kernel
theorem d_R_members_61 : decode b_R_members 61 = .ok (.iload_n 1, 1) := by decide +kernel
theorem d_R_members_62 : decode b_R_members 62 = .ok (.iload_n 2, 1) := by decide +kernel
theorem d_R_members_63 : decode b_R_members 63 = .ok (.iload_n 3, 1) := by decide +kernel
theorem d_R_members_64 : decode b_R_members 64 = .ok (.bipush 8, 2) := by decide +kernel
theorem d_R_members_66 : decode b_R_members 66 = .ok (.iload_n 2, 1) := by decide +kernel
theorem d_R_members_67 : decode b_R_members 67 = .ok (.imul, 1) := by decide +kernel
theorem d_R_members_68 : decode b_R_members 68 = .ok (.isub, 1) := by decide +kernel
theorem d_R_members_69 : decode b_R_members 69 = .ok (.invokevirtual 150, 3) := by decide +kernel
theorem d_R_members_72 : decode b_R_members 72 = .ok (.iinc 3 1, 3) := by decide +kernel
theorem d_R_members_75 : decode b_R_members 75 = .ok (.goto (-70), 3) := by decide +kernel
theorem d_R_members_78 : decode b_R_members 78 = .ok (.return_, 1) := by decide +kernel
theorem d_R_added_0 : decode b_R_added 0 = .ok (.bipush 12, 2) := by decide +kernel
theorem d_R_added_2 : decode b_R_added 2 = .ok (.iload_n 2, 1) := by decide +kernel
theorem d_R_added_3 : decode b_R_added 3 = .ok (.iadd, 1) := by decide +kernel
theorem d_R_added_4 : decode b_R_added 4 = .ok (.istore_n 3, 1) := by decide +kernel
theorem d_R_added_5 : decode b_R_added 5 = .ok (.bipush 8, 2) := by decide +kernel
theorem d_R_added_7 : decode b_R_added 7 = .ok (.iload_n 3, 1) := by decide +kernel
theorem d_R_added_8 : decode b_R_added 8 = .ok (.imul, 1) := by decide +kernel
theorem d_R_added_9 : decode b_R_added 9 = .ok (.istore 4, 2) := by decide +kernel
theorem d_R_added_11 : decode b_R_added 11 = .ok (.iload 4, 2) := by decide +kernel
theorem d_R_added_13 : decode b_R_added 13 = .ok (.bipush 8, 2) := by decide +kernel
theorem d_R_added_15 : decode b_R_added 15 = .ok (.iload_n 3, 1) := by decide +kernel
theorem d_R_added_16 : decode b_R_added 16 = .ok (.imul, 1) := by decide +kernel
theorem d_R_added_17 : decode b_R_added 17 = .ok (.aload_n 0, 1) := by decide +kernel
theorem d_R_added_18 : decode b_R_added 18 = .ok (.getfield 29, 3) := by decide +kernel
theorem d_R_added_21 : decode b_R_added 21 = .ok (.iload_n 3, 1) := by decide +kernel
theorem d_R_added_22 : decode b_R_added 22 = .ok (.iaload, 1) := by decide +kernel
theorem d_R_added_23 : decode b_R_added 23 = .ok (.iadd, 1) := by decide +kernel
theorem d_R_added_24 : decode b_R_added 24 = .ok (.if_icmp .ge 196, 3) := by decide +kernel
theorem d_R_added_27 : decode b_R_added 27 = .ok (.aload_n 0, 1) := by decide +kernel
theorem d_R_added_28 : decode b_R_added 28 = .ok (.iload_n 2, 1) := by decide +kernel
theorem d_R_added_29 : decode b_R_added 29 = .ok (.aload_n 0, 1) := by decide +kernel
theorem d_R_added_30 : decode b_R_added 30 = .ok (.getfield 32, 3) := by decide +kernel
theorem d_R_added_33 : decode b_R_added 33 = .ok (.iload 4, 2) := by decide +kernel
theorem d_R_added_35 : decode b_R_added 35 = .ok (.iaload, 1) := by decide +kernel
theorem d_R_added_36 : decode b_R_added 36 = .ok (.aload_n 0, 1) := by decide +kernel
theorem d_R_added_37 : decode b_R_added 37 = .ok (.getfield 35, 3) := by decide +kernel
theorem d_R_added_40 : decode b_R_added 40 = .ok (.iload 4, 2) := by decide +kernel
theorem d_R_added_42 : decode b_R_added 42 = .ok (.iaload, 1) := by decide +kernel
theorem d_R_added_43 : decode b_R_added 43 = .ok (.invokevirtual 72, 3) := by decide +kernel
theorem d_R_added_46 : decode b_R_added 46 = .ok (.ifCond .lt 6, 3) := by decide +kernel
theorem d_R_added_49 : decode b_R_added 49 = .ok (.goto 165, 3) := by decide +kernel
theorem d_R_added_52 : decode b_R_added 52 = .ok (.aload_n 0, 1) := by decide +kernel
theorem d_R_added_53 : decode b_R_added 53 = .ok (.iconst 0, 1) := by decide +kernel
theorem d_R_added_54 : decode b_R_added 54 = .ok (.iload_n 2, 1) := by decide +kernel
theorem d_R_added_55 : decode b_R_added 55 = .ok (.aload_n 0, 1) := by decide +kernel
theorem d_R_added_56 : decode b_R_added 56 = .ok (.getfield 32, 3) := by decide +kernel
theorem d_R_added_59 : decode b_R_added 59 = .ok (.iload 4, 2) := by decide +kernel
theorem d_R_added_61 : decode b_R_added 61 = .ok (.iaload, 1) := by decide +kernel
theorem d_R_added_62 : decode b_R_added 62 = .ok (.aload_n 0, 1) := by decide +kernel
theorem d_R_added_63 : decode b_R_added 63 = .ok (.getfield 35, 3) := by decide +kernel
theorem d_R_added_66 : decode b_R_added 66 = .ok (.iload 4, 2) := by decide +kernel
theorem d_R_added_68 : decode b_R_added 68 = .ok (.iaload, 1) := by decide +kernel
theorem d_R_added_69 : decode b_R_added 69 = .ok (.invokevirtual 120, 3) := by decide +kernel
theorem d_R_added_72 : decode b_R_added 72 = .ok (.istore 5, 2) := by decide +kernel
theorem d_R_added_74 : decode b_R_added 74 = .ok (.aload_n 0, 1) := by decide +kernel
theorem d_R_added_75 : decode b_R_added 75 = .ok (.getfield 38, 3) := by decide +kernel
theorem d_R_added_78 : decode b_R_added 78 = .ok (.iload 4, 2) := by decide +kernel
theorem d_R_added_80 : decode b_R_added 80 = .ok (.iaload, 1) := by decide +kernel
theorem d_R_added_81 : decode b_R_added 81 = .ok (.bipush 16, 2) := by decide +kernel
theorem d_R_added_83 : decode b_R_added 83 = .ok (.invokestatic 66, 3) := by decide +kernel
theorem d_R_added_86 : decode b_R_added 86 = .ok (.ifCond .eq 12, 3) := by decide +kernel
theorem d_R_added_89 : decode b_R_added 89 = .ok (.iload 5, 2) := by decide +kernel
theorem d_R_added_91 : decode b_R_added 91 = .ok (.ifCond .ge 7, 3) := by decide +kernel
theorem d_R_added_94 : decode b_R_added 94 = .ok (.iconst 1, 1) := by decide +kernel
theorem d_R_added_95 : decode b_R_added 95 = .ok (.goto 4, 3) := by decide +kernel
theorem d_R_added_98 : decode b_R_added 98 = .ok (.iconst 0, 1) := by decide +kernel
theorem d_R_added_99 : decode b_R_added 99 = .ok (.istore 6, 2) := by decide +kernel
theorem d_R_added_101 : decode b_R_added 101 = .ok (.iload_n 1, 1) := by decide +kernel
theorem d_R_added_102 : decode b_R_added 102 = .ok (.bipush 12, 2) := by decide +kernel
theorem d_R_added_104 : decode b_R_added 104 = .ok (.if_icmp .ne 92, 3) := by decide +kernel
theorem d_R_added_107 : decode b_R_added 107 = .ok (.aload_n 0, 1) := by decide +kernel
theorem d_R_added_108 : decode b_R_added 108 = .ok (.getfield 32, 3) := by decide +kernel
theorem d_R_added_111 : decode b_R_added 111 = .ok (.iload 4, 2) := by decide +kernel
theorem d_R_added_113 : decode b_R_added 113 = .ok (.iaload, 1) := by decide +kernel
theorem d_R_added_114 : decode b_R_added 114 = .ok (.iconst 2, 1) := by decide +kernel
theorem d_R_added_115 : decode b_R_added 115 = .ok (.if_icmp .ge 25, 3) := by decide +kernel
theorem d_R_added_118 : decode b_R_added 118 = .ok (.iload 5, 2) := by decide +kernel
theorem d_R_added_120 : decode b_R_added 120 = .ok (.ifCond .lt 20, 3) := by decide +kernel
theorem d_R_added_123 : decode b_R_added 123 = .ok (.aload_n 0, 1) := by decide +kernel
theorem d_R_added_124 : decode b_R_added 124 = .ok (.getfield 38, 3) := by decide +kernel
theorem d_R_added_127 : decode b_R_added 127 = .ok (.iload 5, 2) := by decide +kernel
theorem d_R_added_129 : decode b_R_added 129 = .ok (.iaload, 1) := by decide +kernel
theorem d_R_added_130 : decode b_R_added 130 = .ok (.iconst 3, 1) := by decide +kernel
theorem d_R_added_131 : decode b_R_added 131 = .ok (.iand, 1) := by decide +kernel
theorem d_R_added_132 : decode b_R_added 132 = .ok (.iconst 2, 1) := by decide +kernel
theorem d_R_added_133 : decode b_R_added 133 = .ok (.if_icmp .lt 7, 3) := by decide +kernel
theorem d_R_added_136 : decode b_R_added 136 = .ok (.iconst 1, 1) := by decide +kernel
theorem d_R_added_137 : decode b_R_added 137 = .ok (.goto 4, 3) := by decide +kernel
theorem d_R_added_140 : decode b_R_added 140 = .ok (.iconst 0, 1) := by decide +kernel
theorem d_R_added_141 : decode b_R_added 141 = .ok (.istore 6, 2) := by decide +kernel
theorem d_R_added_143 : decode b_R_added 143 = .ok (.iload 6, 2) := by decide +kernel
theorem d_R_added_145 : decode b_R_added 145 = .ok (.ifCond .eq 48, 3) := by decide +kernel
theorem d_R_added_148 : decode b_R_added 148 = .ok (.aload_n 0, 1) := by decide +kernel
theorem d_R_added_149 : decode b_R_added 149 = .ok (.getfield 38, 3) := by decide +kernel
theorem d_R_added_152 : decode b_R_added 152 = .ok (.iload 4, 2) := by decide +kernel
theorem d_R_added_154 : decode b_R_added 154 = .ok (.iaload, 1) := by decide +kernel
theorem d_R_added_155 : decode b_R_added 155 = .ok (.iconst 3, 1) := by decide +kernel
theorem d_R_added_156 : decode b_R_added 156 = .ok (.iand, 1) := by decide +kernel
theorem d_R_added_157 : decode b_R_added 157 = .ok (.aload_n 0, 1) := by decide +kernel
theorem d_R_added_158 : decode b_R_added 158 = .ok (.getfield 38, 3) := by decide +kernel
theorem d_R_added_161 : decode b_R_added 161 = .ok (.iload 5, 2) := by decide +kernel
theorem d_R_added_163 : decode b_R_added 163 = .ok (.iaload, 1) := by decide +kernel
theorem d_R_added_164 : decode b_R_added 164 = .ok (.iconst 3, 1) := by decide +kernel
theorem d_R_added_165 : decode b_R_added 165 = .ok (.iand, 1) := by decide +kernel
theorem d_R_added_166 : decode b_R_added 166 = .ok (.if_icmp .lt 23, 3) := by decide +kernel
theorem d_R_added_169 : decode b_R_added 169 = .ok (.aload_n 0, 1) := by decide +kernel
theorem d_R_added_170 : decode b_R_added 170 = .ok (.getfield 38, 3) := by decide +kernel
theorem d_R_added_173 : decode b_R_added 173 = .ok (.iload 4, 2) := by decide +kernel
theorem d_R_added_175 : decode b_R_added 175 = .ok (.iaload, 1) := by decide +kernel
theorem d_R_added_176 : decode b_R_added 176 = .ok (.aload_n 0, 1) := by decide +kernel
theorem d_R_added_177 : decode b_R_added 177 = .ok (.getfield 38, 3) := by decide +kernel
theorem d_R_added_180 : decode b_R_added 180 = .ok (.iload 5, 2) := by decide +kernel
theorem d_R_added_182 : decode b_R_added 182 = .ok (.iaload, 1) := by decide +kernel
theorem d_R_added_183 : decode b_R_added 183 = .ok (.ixor, 1) := by decide +kernel
theorem d_R_added_184 : decode b_R_added 184 = .ok (.iconst 4, 1) := by decide +kernel
theorem d_R_added_185 : decode b_R_added 185 = .ok (.iand, 1) := by decide +kernel
theorem d_R_added_186 : decode b_R_added 186 = .ok (.ifCond .eq 7, 3) := by decide +kernel
theorem d_R_added_189 : decode b_R_added 189 = .ok (.iconst 1, 1) := by decide +kernel
theorem d_R_added_190 : decode b_R_added 190 = .ok (.goto 4, 3) := by decide +kernel
theorem d_R_added_193 : decode b_R_added 193 = .ok (.iconst 0, 1) := by decide +kernel
theorem d_R_added_194 : decode b_R_added 194 = .ok (.istore 6, 2) := by decide +kernel
theorem d_R_added_196 : decode b_R_added 196 = .ok (.iload 6, 2) := by decide +kernel
theorem d_R_added_198 : decode b_R_added 198 = .ok (.ifCond .eq 16, 3) := by decide +kernel
theorem d_R_added_201 : decode b_R_added 201 = .ok (.aload_n 0, 1) := by decide +kernel
theorem d_R_added_202 : decode b_R_added 202 = .ok (.iload_n 1, 1) := by decide +kernel
theorem d_R_added_203 : decode b_R_added 203 = .ok (.iload_n 2, 1) := by decide +kernel
theorem d_R_added_204 : decode b_R_added 204 = .ok (.iload 4, 2) := by decide +kernel
theorem d_R_added_206 : decode b_R_added 206 = .ok (.bipush 8, 2) := by decide +kernel
theorem d_R_added_208 : decode b_R_added 208 = .ok (.iload_n 3, 1) := by decide +kernel
theorem d_R_added_209 : decode b_R_added 209 = .ok (.imul, 1) := by decide +kernel
theorem d_R_added_210 : decode b_R_added 210 = .ok (.isub, 1) := by decide +kernel
theorem d_R_added_211 : decode b_R_added 211 = .ok (.invokevirtual 150, 3) := by decide +kernel
theorem d_R_added_214 : decode b_R_added 214 = .ok (.iinc 4 1, 3) := by decide +kernel
theorem d_R_added_217 : decode b_R_added 217 = .ok (.goto (-206), 3) := by decide +kernel
theorem d_R_added_220 : decode b_R_added 220 = .ok (.return_, 1) := by decide +kernel
theorem d_R_judge_0 : decode b_R_judge 0 = .ok (.bipush 12, 2) := by decide +kernel
theorem d_R_judge_2 : decode b_R_judge 2 = .ok (.iload_n 1, 1) := by decide +kernel
theorem d_R_judge_3 : decode b_R_judge 3 = .ok (.iadd, 1) := by decide +kernel
theorem d_R_judge_4 : decode b_R_judge 4 = .ok (.istore_n 2, 1) := by decide +kernel
theorem d_R_judge_5 : decode b_R_judge 5 = .ok (.aload_n 0, 1) := by decide +kernel
theorem d_R_judge_6 : decode b_R_judge 6 = .ok (.getfield 7, 3) := by decide +kernel
theorem d_R_judge_9 : decode b_R_judge 9 = .ok (.iload_n 1, 1) := by decide +kernel
theorem d_R_judge_10 : decode b_R_judge 10 = .ok (.baload, 1) := by decide +kernel
theorem d_R_judge_11 : decode b_R_judge 11 = .ok (.ifCond .eq 16, 3) := by decide +kernel
theorem d_R_judge_14 : decode b_R_judge 14 = .ok (.aload_n 0, 1) := by decide +kernel
theorem d_R_judge_15 : decode b_R_judge 15 = .ok (.getfield 17, 3) := by decide +kernel
theorem d_R_judge_18 : decode b_R_judge 18 = .ok (.iload_n 1, 1) := by decide +kernel
theorem d_R_judge_19 : decode b_R_judge 19 = .ok (.iaload, 1) := by decide +kernel
theorem d_R_judge_20 : decode b_R_judge 20 = .ok (.iconst 1, 1) := by decide +kernel
theorem d_R_judge_21 : decode b_R_judge 21 = .ok (.invokestatic 66, 3) := by decide +kernel
theorem d_R_judge_24 : decode b_R_judge 24 = .ok (.ifCond .ne 4, 3) := by decide +kernel
theorem d_R_judge_27 : decode b_R_judge 27 = .ok (.return_, 1) := by decide +kernel
theorem d_R_judge_28 : decode b_R_judge 28 = .ok (.aload_n 0, 1) := by decide +kernel
theorem d_R_judge_29 : decode b_R_judge 29 = .ok (.getfield 7, 3) := by decide +kernel
theorem d_R_judge_32 : decode b_R_judge 32 = .ok (.iload_n 2, 1) := by decide +kernel
theorem d_R_judge_33 : decode b_R_judge 33 = .ok (.baload, 1) := by decide +kernel
theorem d_R_judge_34 : decode b_R_judge 34 = .ok (.ifCond .eq 16, 3) := by decide +kernel
theorem d_R_judge_37 : decode b_R_judge 37 = .ok (.aload_n 0, 1) := by decide +kernel
theorem d_R_judge_38 : decode b_R_judge 38 = .ok (.getfield 17, 3) := by decide +kernel
theorem d_R_judge_41 : decode b_R_judge 41 = .ok (.iload_n 2, 1) := by decide +kernel
theorem d_R_judge_42 : decode b_R_judge 42 = .ok (.iaload, 1) := by decide +kernel
theorem d_R_judge_43 : decode b_R_judge 43 = .ok (.iconst 1, 1) := by decide +kernel
theorem d_R_judge_44 : decode b_R_judge 44 = .ok (.invokestatic 66, 3) := by decide +kernel
theorem d_R_judge_47 : decode b_R_judge 47 = .ok (.ifCond .ne 13, 3) := by decide +kernel
theorem d_R_judge_50 : decode b_R_judge 50 = .ok (.aload_n 0, 1) := by decide +kernel
theorem d_R_judge_51 : decode b_R_judge 51 = .ok (.iconst 0, 1) := by decide +kernel
theorem d_R_judge_52 : decode b_R_judge 52 = .ok (.iload_n 1, 1) := by decide +kernel
theorem d_R_judge_53 : decode b_R_judge 53 = .ok (.iconst (-1), 1) := by decide +kernel
theorem d_R_judge_54 : decode b_R_judge 54 = .ok (.invokevirtual 150, 3) := by decide +kernel
theorem d_R_judge_57 : decode b_R_judge 57 = .ok (.goto 186, 3) := by decide +kernel
theorem d_R_judge_60 : decode b_R_judge 60 = .ok (.aload_n 0, 1) := by decide +kernel
theorem d_R_judge_61 : decode b_R_judge 61 = .ok (.getfield 13, 3) := by decide +kernel
theorem d_R_judge_64 : decode b_R_judge 64 = .ok (.iload_n 2, 1) := by decide +kernel
theorem d_R_judge_65 : decode b_R_judge 65 = .ok (.iaload, 1) := by decide +kernel
theorem d_R_judge_66 : decode b_R_judge 66 = .ok (.aload_n 0, 1) := by decide +kernel
theorem d_R_judge_67 : decode b_R_judge 67 = .ok (.getfield 13, 3) := by decide +kernel
theorem d_R_judge_70 : decode b_R_judge 70 = .ok (.iload_n 1, 1) := by decide +kernel
theorem d_R_judge_71 : decode b_R_judge 71 = .ok (.iaload, 1) := by decide +kernel
theorem d_R_judge_72 : decode b_R_judge 72 = .ok (.if_icmp .eq 13, 3) := by decide +kernel
theorem d_R_judge_75 : decode b_R_judge 75 = .ok (.aload_n 0, 1) := by decide +kernel
theorem d_R_judge_76 : decode b_R_judge 76 = .ok (.iconst 1, 1) := by decide +kernel
theorem d_R_judge_77 : decode b_R_judge 77 = .ok (.iload_n 1, 1) := by decide +kernel
theorem d_R_judge_78 : decode b_R_judge 78 = .ok (.iconst (-1), 1) := by decide +kernel
theorem d_R_judge_79 : decode b_R_judge 79 = .ok (.invokevirtual 150, 3) := by decide +kernel
theorem d_R_judge_82 : decode b_R_judge 82 = .ok (.goto 161, 3) := by decide +kernel
theorem d_R_judge_85 : decode b_R_judge 85 = .ok (.aload_n 0, 1) := by decide +kernel
theorem d_R_judge_86 : decode b_R_judge 86 = .ok (.getfield 13, 3) := by decide +kernel
theorem d_R_judge_89 : decode b_R_judge 89 = .ok (.iload_n 1, 1) := by decide +kernel
theorem d_R_judge_90 : decode b_R_judge 90 = .ok (.iaload, 1) := by decide +kernel
theorem d_R_judge_91 : decode b_R_judge 91 = .ok (.ifCond .ne 36, 3) := by decide +kernel
theorem d_R_judge_94 : decode b_R_judge 94 = .ok (.aload_n 0, 1) := by decide +kernel
theorem d_R_judge_95 : decode b_R_judge 95 = .ok (.getfield 17, 3) := by decide +kernel
theorem d_R_judge_98 : decode b_R_judge 98 = .ok (.iload_n 1, 1) := by decide +kernel
theorem d_R_judge_99 : decode b_R_judge 99 = .ok (.iaload, 1) := by decide +kernel
theorem d_R_judge_100 : decode b_R_judge 100 = .ok (.iconst 2, 1) := by decide +kernel
theorem d_R_judge_101 : decode b_R_judge 101 = .ok (.invokestatic 66, 3) := by decide +kernel
theorem d_R_judge_104 : decode b_R_judge 104 = .ok (.ifCond .ne 23, 3) := by decide +kernel
theorem d_R_judge_107 : decode b_R_judge 107 = .ok (.aload_n 0, 1) := by decide +kernel
theorem d_R_judge_108 : decode b_R_judge 108 = .ok (.getfield 17, 3) := by decide +kernel
theorem d_R_judge_111 : decode b_R_judge 111 = .ok (.iload_n 2, 1) := by decide +kernel
theorem d_R_judge_112 : decode b_R_judge 112 = .ok (.iaload, 1) := by decide +kernel
theorem d_R_judge_113 : decode b_R_judge 113 = .ok (.iconst 2, 1) := by decide +kernel
theorem d_R_judge_114 : decode b_R_judge 114 = .ok (.invokestatic 66, 3) := by decide +kernel
theorem d_R_judge_117 : decode b_R_judge 117 = .ok (.ifCond .eq 10, 3) := by decide +kernel
theorem d_R_judge_120 : decode b_R_judge 120 = .ok (.aload_n 0, 1) := by decide +kernel
theorem d_R_judge_121 : decode b_R_judge 121 = .ok (.iconst 2, 1) := by decide +kernel
theorem d_R_judge_122 : decode b_R_judge 122 = .ok (.iload_n 1, 1) := by decide +kernel
theorem d_R_judge_123 : decode b_R_judge 123 = .ok (.iconst (-1), 1) := by decide +kernel
theorem d_R_judge_124 : decode b_R_judge 124 = .ok (.invokevirtual 150, 3) := by decide +kernel
theorem d_R_judge_127 : decode b_R_judge 127 = .ok (.aload_n 0, 1) := by decide +kernel
theorem d_R_judge_128 : decode b_R_judge 128 = .ok (.getfield 13, 3) := by decide +kernel
theorem d_R_judge_131 : decode b_R_judge 131 = .ok (.iload_n 1, 1) := by decide +kernel
theorem d_R_judge_132 : decode b_R_judge 132 = .ok (.iaload, 1) := by decide +kernel
theorem d_R_judge_133 : decode b_R_judge 133 = .ok (.ifCond .ne 36, 3) := by decide +kernel
theorem d_R_judge_136 : decode b_R_judge 136 = .ok (.aload_n 0, 1) := by decide +kernel
theorem d_R_judge_137 : decode b_R_judge 137 = .ok (.getfield 17, 3) := by decide +kernel
theorem d_R_judge_140 : decode b_R_judge 140 = .ok (.iload_n 1, 1) := by decide +kernel
theorem d_R_judge_141 : decode b_R_judge 141 = .ok (.iaload, 1) := by decide +kernel
theorem d_R_judge_142 : decode b_R_judge 142 = .ok (.iconst 4, 1) := by decide +kernel
theorem d_R_judge_143 : decode b_R_judge 143 = .ok (.invokestatic 66, 3) := by decide +kernel
theorem d_R_judge_146 : decode b_R_judge 146 = .ok (.ifCond .ne 23, 3) := by decide +kernel
theorem d_R_judge_149 : decode b_R_judge 149 = .ok (.aload_n 0, 1) := by decide +kernel
theorem d_R_judge_150 : decode b_R_judge 150 = .ok (.getfield 17, 3) := by decide +kernel
theorem d_R_judge_153 : decode b_R_judge 153 = .ok (.iload_n 2, 1) := by decide +kernel
theorem d_R_judge_154 : decode b_R_judge 154 = .ok (.iaload, 1) := by decide +kernel
theorem d_R_judge_155 : decode b_R_judge 155 = .ok (.iconst 4, 1) := by decide +kernel
theorem d_R_judge_156 : decode b_R_judge 156 = .ok (.invokestatic 66, 3) := by decide +kernel
theorem d_R_judge_159 : decode b_R_judge 159 = .ok (.ifCond .eq 10, 3) := by decide +kernel
theorem d_R_judge_162 : decode b_R_judge 162 = .ok (.aload_n 0, 1) := by decide +kernel
theorem d_R_judge_163 : decode b_R_judge 163 = .ok (.iconst 3, 1) := by decide +kernel
theorem d_R_judge_164 : decode b_R_judge 164 = .ok (.iload_n 1, 1) := by decide +kernel
theorem d_R_judge_165 : decode b_R_judge 165 = .ok (.iconst (-1), 1) := by decide +kernel
theorem d_R_judge_166 : decode b_R_judge 166 = .ok (.invokevirtual 150, 3) := by decide +kernel
theorem d_R_judge_169 : decode b_R_judge 169 = .ok (.iconst 0, 1) := by decide +kernel
theorem d_R_judge_170 : decode b_R_judge 170 = .ok (.istore_n 3, 1) := by decide +kernel
theorem d_R_judge_171 : decode b_R_judge 171 = .ok (.iload_n 3, 1) := by decide +kernel
theorem d_R_judge_172 : decode b_R_judge 172 = .ok (.iload_n 1, 1) := by decide +kernel
theorem d_R_judge_173 : decode b_R_judge 173 = .ok (.if_icmp .ge 36, 3) := by decide +kernel
theorem d_R_judge_176 : decode b_R_judge 176 = .ok (.aload_n 0, 1) := by decide +kernel
theorem d_R_judge_177 : decode b_R_judge 177 = .ok (.iconst 0, 1) := by decide +kernel
theorem d_R_judge_178 : decode b_R_judge 178 = .ok (.iload_n 1, 1) := by decide +kernel
theorem d_R_judge_179 : decode b_R_judge 179 = .ok (.iload_n 3, 1) := by decide +kernel
theorem d_R_judge_180 : decode b_R_judge 180 = .ok (.invokevirtual 111, 3) := by decide +kernel
theorem d_R_judge_183 : decode b_R_judge 183 = .ok (.ifCond .eq 20, 3) := by decide +kernel
theorem d_R_judge_186 : decode b_R_judge 186 = .ok (.aload_n 0, 1) := by decide +kernel
theorem d_R_judge_187 : decode b_R_judge 187 = .ok (.iconst 1, 1) := by decide +kernel
theorem d_R_judge_188 : decode b_R_judge 188 = .ok (.iload_n 1, 1) := by decide +kernel
theorem d_R_judge_189 : decode b_R_judge 189 = .ok (.iload_n 3, 1) := by decide +kernel
theorem d_R_judge_190 : decode b_R_judge 190 = .ok (.invokevirtual 111, 3) := by decide +kernel
theorem d_R_judge_193 : decode b_R_judge 193 = .ok (.ifCond .ne 10, 3) := by decide +kernel
theorem d_R_judge_196 : decode b_R_judge 196 = .ok (.aload_n 0, 1) := by decide +kernel
theorem d_R_judge_197 : decode b_R_judge 197 = .ok (.iconst 4, 1) := by decide +kernel
theorem d_R_judge_198 : decode b_R_judge 198 = .ok (.iload_n 1, 1) := by decide +kernel
theorem d_R_judge_199 : decode b_R_judge 199 = .ok (.iload_n 3, 1) := by decide +kernel
theorem d_R_judge_200 : decode b_R_judge 200 = .ok (.invokevirtual 150, 3) := by decide +kernel
theorem d_R_judge_203 : decode b_R_judge 203 = .ok (.iinc 3 1, 3) := by decide +kernel
theorem d_R_judge_206 : decode b_R_judge 206 = .ok (.goto (-35), 3) := by decide +kernel
theorem d_R_judge_209 : decode b_R_judge 209 = .ok (.iconst 5, 1) := by decide +kernel
theorem d_R_judge_210 : decode b_R_judge 210 = .ok (.istore_n 3, 1) := by decide +kernel
theorem d_R_judge_211 : decode b_R_judge 211 = .ok (.iload_n 3, 1) := by decide +kernel
theorem d_R_judge_212 : decode b_R_judge 212 = .ok (.bipush 11, 2) := by decide +kernel
theorem d_R_judge_214 : decode b_R_judge 214 = .ok (.if_icmp .gt 15, 3) := by decide +kernel
theorem d_R_judge_217 : decode b_R_judge 217 = .ok (.aload_n 0, 1) := by decide +kernel
theorem d_R_judge_218 : decode b_R_judge 218 = .ok (.iload_n 3, 1) := by decide +kernel
theorem d_R_judge_219 : decode b_R_judge 219 = .ok (.iload_n 1, 1) := by decide +kernel
theorem d_R_judge_220 : decode b_R_judge 220 = .ok (.invokevirtual 154, 3) := by decide +kernel
theorem d_R_judge_223 : decode b_R_judge 223 = .ok (.iinc 3 1, 3) := by decide +kernel
theorem d_R_judge_226 : decode b_R_judge 226 = .ok (.goto (-15), 3) := by decide +kernel
theorem d_R_judge_229 : decode b_R_judge 229 = .ok (.aload_n 0, 1) := by decide +kernel
theorem d_R_judge_230 : decode b_R_judge 230 = .ok (.bipush 12, 2) := by decide +kernel
theorem d_R_judge_232 : decode b_R_judge 232 = .ok (.iload_n 1, 1) := by decide +kernel
theorem d_R_judge_233 : decode b_R_judge 233 = .ok (.invokevirtual 156, 3) := by decide +kernel
theorem d_R_judge_236 : decode b_R_judge 236 = .ok (.aload_n 0, 1) := by decide +kernel
theorem d_R_judge_237 : decode b_R_judge 237 = .ok (.bipush 13, 2) := by decide +kernel
theorem d_R_judge_239 : decode b_R_judge 239 = .ok (.iload_n 1, 1) := by decide +kernel
theorem d_R_judge_240 : decode b_R_judge 240 = .ok (.invokevirtual 156, 3) := by decide +kernel
theorem d_R_judge_243 : decode b_R_judge 243 = .ok (.return_, 1) := by decide +kernel
theorem d_R_all_0 : decode b_R_all 0 = .ok (.aload_n 0, 1) := by decide +kernel
theorem d_R_all_1 : decode b_R_all 1 = .ok (.iload_n 1, 1) := by decide +kernel
theorem d_R_all_2 : decode b_R_all 2 = .ok (.putfield 128, 3) := by decide +kernel
theorem d_R_all_5 : decode b_R_all 5 = .ok (.aload_n 0, 1) := by decide +kernel
theorem d_R_all_6 : decode b_R_all 6 = .ok (.iconst 0, 1) := by decide +kernel
theorem d_R_all_7 : decode b_R_all 7 = .ok (.putfield 124, 3) := by decide +kernel
theorem d_R_all_10 : decode b_R_all 10 = .ok (.aload_n 0, 1) := by decide +kernel
theorem d_R_all_11 : decode b_R_all 11 = .ok (.iconst 0, 1) := by decide +kernel
theorem d_R_all_12 : decode b_R_all 12 = .ok (.putfield 143, 3) := by decide +kernel
theorem d_R_all_15 : decode b_R_all 15 = .ok (.iconst 0, 1) := by decide +kernel
theorem d_R_all_16 : decode b_R_all 16 = .ok (.istore_n 2, 1) := by decide +kernel
theorem d_R_all_17 : decode b_R_all 17 = .ok (.iload_n 2, 1) := by decide +kernel
theorem d_R_all_18 : decode b_R_all 18 = .ok (.bipush 14, 2) := by decide +kernel
theorem d_R_all_20 : decode b_R_all 20 = .ok (.if_icmp .ge 16, 3) := by decide +kernel
theorem d_R_all_23 : decode b_R_all 23 = .ok (.aload_n 0, 1) := by decide +kernel
theorem d_R_all_24 : decode b_R_all 24 = .ok (.getfield 56, 3) := by decide +kernel
theorem d_R_all_27 : decode b_R_all 27 = .ok (.iload_n 2, 1) := by decide +kernel
theorem d_R_all_28 : decode b_R_all 28 = .ok (.iconst 0, 1) := by decide +kernel
theorem d_R_all_29 : decode b_R_all 29 = .ok (.iastore, 1) := by decide +kernel
theorem d_R_all_30 : decode b_R_all 30 = .ok (.iinc 2 1, 3) := by decide +kernel
theorem d_R_all_33 : decode b_R_all 33 = .ok (.goto (-16), 3) := by decide +kernel
theorem d_R_all_36 : decode b_R_all 36 = .ok (.iconst 0, 1) := by decide +kernel
theorem d_R_all_37 : decode b_R_all 37 = .ok (.istore_n 2, 1) := by decide +kernel
theorem d_R_all_38 : decode b_R_all 38 = .ok (.iload_n 2, 1) := by decide +kernel
theorem d_R_all_39 : decode b_R_all 39 = .ok (.bipush 12, 2) := by decide +kernel
theorem d_R_all_41 : decode b_R_all 41 = .ok (.if_icmp .ge 14, 3) := by decide +kernel
theorem d_R_all_44 : decode b_R_all 44 = .ok (.aload_n 0, 1) := by decide +kernel
theorem d_R_all_45 : decode b_R_all 45 = .ok (.iload_n 2, 1) := by decide +kernel
theorem d_R_all_46 : decode b_R_all 46 = .ok (.invokevirtual 159, 3) := by decide +kernel
theorem d_R_all_49 : decode b_R_all 49 = .ok (.iinc 2 1, 3) := by decide +kernel
theorem d_R_all_52 : decode b_R_all 52 = .ok (.goto (-14), 3) := by decide +kernel
theorem d_R_all_55 : decode b_R_all 55 = .ok (.return_, 1) := by decide +kernel
theorem d_R_findings_0 : decode b_R_findings 0 = .ok (.aload_n 0, 1) := by decide +kernel
theorem d_R_findings_1 : decode b_R_findings 1 = .ok (.iconst (-1), 1) := by decide +kernel
theorem d_R_findings_2 : decode b_R_findings 2 = .ok (.invokevirtual 163, 3) := by decide +kernel
theorem d_R_findings_5 : decode b_R_findings 5 = .ok (.aload_n 0, 1) := by decide +kernel
theorem d_R_findings_6 : decode b_R_findings 6 = .ok (.getfield 124, 3) := by decide +kernel
theorem d_R_findings_9 : decode b_R_findings 9 = .ok (.ireturn, 1) := by decide +kernel
theorem d_R_finding_0 : decode b_R_finding 0 = .ok (.aload_n 0, 1) := by decide +kernel
theorem d_R_finding_1 : decode b_R_finding 1 = .ok (.iload_n 1, 1) := by decide +kernel
theorem d_R_finding_2 : decode b_R_finding 2 = .ok (.invokevirtual 163, 3) := by decide +kernel
theorem d_R_finding_5 : decode b_R_finding 5 = .ok (.iload_n 1, 1) := by decide +kernel
theorem d_R_finding_6 : decode b_R_finding 6 = .ok (.ifCond .lt 19, 3) := by decide +kernel
theorem d_R_finding_9 : decode b_R_finding 9 = .ok (.iload_n 1, 1) := by decide +kernel
theorem d_R_finding_10 : decode b_R_finding 10 = .ok (.aload_n 0, 1) := by decide +kernel
theorem d_R_finding_11 : decode b_R_finding 11 = .ok (.getfield 124, 3) := by decide +kernel
theorem d_R_finding_14 : decode b_R_finding 14 = .ok (.if_icmp .ge 11, 3) := by decide +kernel
theorem d_R_finding_17 : decode b_R_finding 17 = .ok (.iload_n 2, 1) := by decide +kernel
theorem d_R_finding_18 : decode b_R_finding 18 = .ok (.iconst 4, 1) := by decide +kernel
theorem d_R_finding_19 : decode b_R_finding 19 = .ok (.invokestatic 59, 3) := by decide +kernel
theorem d_R_finding_22 : decode b_R_finding 22 = .ok (.ifCond .eq 5, 3) := by decide +kernel
theorem d_R_finding_25 : decode b_R_finding 25 = .ok (.iconst (-1), 1) := by decide +kernel
theorem d_R_finding_26 : decode b_R_finding 26 = .ok (.ireturn, 1) := by decide +kernel
theorem d_R_finding_27 : decode b_R_finding 27 = .ok (.iload_n 2, 1) := by decide +kernel
theorem d_R_finding_28 : decode b_R_finding 28 = .ok (.iconst 3, 1) := by decide +kernel
theorem d_R_finding_29 : decode b_R_finding 29 = .ok (.if_icmp .ge 31, 3) := by decide +kernel
theorem d_R_finding_32 : decode b_R_finding 32 = .ok (.iload_n 2, 1) := by decide +kernel
theorem d_R_finding_33 : decode b_R_finding 33 = .ok (.ifCond .ne 10, 3) := by decide +kernel
theorem d_R_finding_36 : decode b_R_finding 36 = .ok (.aload_n 0, 1) := by decide +kernel
theorem d_R_finding_37 : decode b_R_finding 37 = .ok (.getfield 131, 3) := by decide +kernel
theorem d_R_finding_40 : decode b_R_finding 40 = .ok (.goto 19, 3) := by decide +kernel
theorem d_R_finding_43 : decode b_R_finding 43 = .ok (.iload_n 2, 1) := by decide +kernel
theorem d_R_finding_44 : decode b_R_finding 44 = .ok (.iconst 1, 1) := by decide +kernel
theorem d_R_finding_45 : decode b_R_finding 45 = .ok (.if_icmp .ne 10, 3) := by decide +kernel
theorem d_R_finding_48 : decode b_R_finding 48 = .ok (.aload_n 0, 1) := by decide +kernel
theorem d_R_finding_49 : decode b_R_finding 49 = .ok (.getfield 134, 3) := by decide +kernel
theorem d_R_finding_52 : decode b_R_finding 52 = .ok (.goto 7, 3) := by decide +kernel
theorem d_R_finding_55 : decode b_R_finding 55 = .ok (.aload_n 0, 1) := by decide +kernel
theorem d_R_finding_56 : decode b_R_finding 56 = .ok (.getfield 137, 3) := by decide +kernel
theorem d_R_finding_59 : decode b_R_finding 59 = .ok (.ireturn, 1) := by decide +kernel
theorem d_R_finding_60 : decode b_R_finding 60 = .ok (.iload_n 2, 1) := by decide +kernel
theorem d_R_finding_61 : decode b_R_finding 61 = .ok (.iconst 3, 1) := by decide +kernel
theorem d_R_finding_62 : decode b_R_finding 62 = .ok (.if_icmp .ne 13, 3) := by decide +kernel
theorem d_R_finding_65 : decode b_R_finding 65 = .ok (.aload_n 0, 1) := by decide +kernel
theorem d_R_finding_66 : decode b_R_finding 66 = .ok (.getfield 131, 3) := by decide +kernel
theorem d_R_finding_69 : decode b_R_finding 69 = .ok (.invokestatic 140, 3) := by decide +kernel
theorem d_R_finding_72 : decode b_R_finding 72 = .ok (.goto 28, 3) := by decide +kernel
theorem d_R_finding_75 : decode b_R_finding 75 = .ok (.aload_n 0, 1) := by decide +kernel
theorem d_R_finding_76 : decode b_R_finding 76 = .ok (.getfield 47, 3) := by decide +kernel
theorem d_R_finding_79 : decode b_R_finding 79 = .ok (.bipush 12, 2) := by decide +kernel
theorem d_R_finding_81 : decode b_R_finding 81 = .ok (.aload_n 0, 1) := by decide +kernel
theorem d_R_finding_82 : decode b_R_finding 82 = .ok (.getfield 131, 3) := by decide +kernel
theorem d_R_finding_85 : decode b_R_finding 85 = .ok (.imul, 1) := by decide +kernel
theorem d_R_finding_86 : decode b_R_finding 86 = .ok (.aload_n 0, 1) := by decide +kernel
theorem d_R_finding_87 : decode b_R_finding 87 = .ok (.getfield 134, 3) := by decide +kernel
theorem d_R_finding_90 : decode b_R_finding 90 = .ok (.iadd, 1) := by decide +kernel
theorem d_R_finding_91 : decode b_R_finding 91 = .ok (.baload, 1) := by decide +kernel
theorem d_R_finding_92 : decode b_R_finding 92 = .ok (.ifCond .eq 7, 3) := by decide +kernel
theorem d_R_finding_95 : decode b_R_finding 95 = .ok (.iconst 1, 1) := by decide +kernel
theorem d_R_finding_96 : decode b_R_finding 96 = .ok (.goto 4, 3) := by decide +kernel
theorem d_R_finding_99 : decode b_R_finding 99 = .ok (.iconst 0, 1) := by decide +kernel
theorem d_R_finding_100 : decode b_R_finding 100 = .ok (.ireturn, 1) := by decide +kernel
theorem d_R_verdict_0 : decode b_R_verdict 0 = .ok (.aload_n 0, 1) := by decide +kernel
theorem d_R_verdict_1 : decode b_R_verdict 1 = .ok (.iconst (-1), 1) := by decide +kernel
theorem d_R_verdict_2 : decode b_R_verdict 2 = .ok (.invokevirtual 163, 3) := by decide +kernel
theorem d_R_verdict_5 : decode b_R_verdict 5 = .ok (.aload_n 0, 1) := by decide +kernel
theorem d_R_verdict_6 : decode b_R_verdict 6 = .ok (.getfield 143, 3) := by decide +kernel
theorem d_R_verdict_9 : decode b_R_verdict 9 = .ok (.ireturn, 1) := by decide +kernel
theorem d_R_byRule_0 : decode b_R_byRule 0 = .ok (.iload_n 1, 1) := by decide +kernel
theorem d_R_byRule_1 : decode b_R_byRule 1 = .ok (.bipush 13, 2) := by decide +kernel
theorem d_R_byRule_3 : decode b_R_byRule 3 = .ok (.invokestatic 59, 3) := by decide +kernel
theorem d_R_byRule_6 : decode b_R_byRule 6 = .ok (.ifCond .eq 5, 3) := by decide +kernel
theorem d_R_byRule_9 : decode b_R_byRule 9 = .ok (.iconst (-1), 1) := by decide +kernel
theorem d_R_byRule_10 : decode b_R_byRule 10 = .ok (.ireturn, 1) := by decide +kernel
theorem d_R_byRule_11 : decode b_R_byRule 11 = .ok (.aload_n 0, 1) := by decide +kernel
theorem d_R_byRule_12 : decode b_R_byRule 12 = .ok (.iconst (-1), 1) := by decide +kernel
theorem d_R_byRule_13 : decode b_R_byRule 13 = .ok (.invokevirtual 163, 3) := by decide +kernel
theorem d_R_byRule_16 : decode b_R_byRule 16 = .ok (.aload_n 0, 1) := by decide +kernel
theorem d_R_byRule_17 : decode b_R_byRule 17 = .ok (.getfield 56, 3) := by decide +kernel
theorem d_R_byRule_20 : decode b_R_byRule 20 = .ok (.iload_n 1, 1) := by decide +kernel
theorem d_R_byRule_21 : decode b_R_byRule 21 = .ok (.iaload, 1) := by decide +kernel
theorem d_R_byRule_22 : decode b_R_byRule 22 = .ok (.ireturn, 1) := by decide +kernel
theorem d_R_count_0 : decode b_R_count 0 = .ok (.iconst 0, 1) := by decide +kernel
theorem d_R_count_1 : decode b_R_count 1 = .ok (.istore_n 2, 1) := by decide +kernel
theorem d_R_count_2 : decode b_R_count 2 = .ok (.iload_n 1, 1) := by decide +kernel
theorem d_R_count_3 : decode b_R_count 3 = .ok (.iconst 4, 1) := by decide +kernel
theorem d_R_count_4 : decode b_R_count 4 = .ok (.invokestatic 59, 3) := by decide +kernel
theorem d_R_count_7 : decode b_R_count 7 = .ok (.ifCond .eq 5, 3) := by decide +kernel
theorem d_R_count_10 : decode b_R_count 10 = .ok (.iconst (-1), 1) := by decide +kernel
theorem d_R_count_11 : decode b_R_count 11 = .ok (.ireturn, 1) := by decide +kernel
theorem d_R_count_12 : decode b_R_count 12 = .ok (.iconst 0, 1) := by decide +kernel
theorem d_R_count_13 : decode b_R_count 13 = .ok (.istore_n 3, 1) := by decide +kernel
theorem d_R_count_14 : decode b_R_count 14 = .ok (.iload_n 3, 1) := by decide +kernel
theorem d_R_count_15 : decode b_R_count 15 = .ok (.sipush 168, 3) := by decide +kernel
theorem d_R_count_18 : decode b_R_count 18 = .ok (.if_icmp .ge 26, 3) := by decide +kernel
theorem d_R_count_21 : decode b_R_count 21 = .ok (.iload_n 1, 1) := by decide +kernel
theorem d_R_count_22 : decode b_R_count 22 = .ok (.iconst 4, 1) := by decide +kernel
theorem d_R_count_23 : decode b_R_count 23 = .ok (.if_icmp .ne 21, 3) := by decide +kernel
theorem d_R_count_26 : decode b_R_count 26 = .ok (.aload_n 0, 1) := by decide +kernel
theorem d_R_count_27 : decode b_R_count 27 = .ok (.getfield 47, 3) := by decide +kernel
theorem d_R_count_30 : decode b_R_count 30 = .ok (.iload_n 3, 1) := by decide +kernel
theorem d_R_count_31 : decode b_R_count 31 = .ok (.baload, 1) := by decide +kernel
theorem d_R_count_32 : decode b_R_count 32 = .ok (.ifCond .eq 6, 3) := by decide +kernel
theorem d_R_count_35 : decode b_R_count 35 = .ok (.iinc 2 1, 3) := by decide +kernel
theorem d_R_count_38 : decode b_R_count 38 = .ok (.iinc 3 1, 3) := by decide +kernel
theorem d_R_count_41 : decode b_R_count 41 = .ok (.goto (-27), 3) := by decide +kernel
theorem d_R_count_44 : decode b_R_count 44 = .ok (.iload_n 1, 1) := by decide +kernel
theorem d_R_count_45 : decode b_R_count 45 = .ok (.iconst 2, 1) := by decide +kernel
theorem d_R_count_46 : decode b_R_count 46 = .ok (.irem, 1) := by decide +kernel
theorem d_R_count_47 : decode b_R_count 47 = .ok (.istore_n 3, 1) := by decide +kernel
theorem d_R_count_48 : decode b_R_count 48 = .ok (.bipush 12, 2) := by decide +kernel
theorem d_R_count_50 : decode b_R_count 50 = .ok (.iload_n 3, 1) := by decide +kernel
theorem d_R_count_51 : decode b_R_count 51 = .ok (.imul, 1) := by decide +kernel
theorem d_R_count_52 : decode b_R_count 52 = .ok (.istore 4, 2) := by decide +kernel
theorem d_R_count_54 : decode b_R_count 54 = .ok (.iload 4, 2) := by decide +kernel
theorem d_R_count_56 : decode b_R_count 56 = .ok (.bipush 12, 2) := by decide +kernel
theorem d_R_count_58 : decode b_R_count 58 = .ok (.iload_n 3, 1) := by decide +kernel
theorem d_R_count_59 : decode b_R_count 59 = .ok (.imul, 1) := by decide +kernel
theorem d_R_count_60 : decode b_R_count 60 = .ok (.bipush 12, 2) := by decide +kernel
theorem d_R_count_62 : decode b_R_count 62 = .ok (.iadd, 1) := by decide +kernel
theorem d_R_count_63 : decode b_R_count 63 = .ok (.if_icmp .ge 43, 3) := by decide +kernel
theorem d_R_count_66 : decode b_R_count 66 = .ok (.iload_n 1, 1) := by decide +kernel
theorem d_R_count_67 : decode b_R_count 67 = .ok (.iconst 4, 1) := by decide +kernel
theorem d_R_count_68 : decode b_R_count 68 = .ok (.if_icmp .ge 38, 3) := by decide +kernel
theorem d_R_count_71 : decode b_R_count 71 = .ok (.aload_n 0, 1) := by decide +kernel
theorem d_R_count_72 : decode b_R_count 72 = .ok (.getfield 7, 3) := by decide +kernel
theorem d_R_count_75 : decode b_R_count 75 = .ok (.iload 4, 2) := by decide +kernel
theorem d_R_count_77 : decode b_R_count 77 = .ok (.baload, 1) := by decide +kernel
theorem d_R_count_78 : decode b_R_count 78 = .ok (.ifCond .eq 22, 3) := by decide +kernel
theorem d_R_count_81 : decode b_R_count 81 = .ok (.iload_n 2, 1) := by decide +kernel
theorem d_R_count_82 : decode b_R_count 82 = .ok (.iload_n 1, 1) := by decide +kernel
theorem d_R_count_83 : decode b_R_count 83 = .ok (.iconst 2, 1) := by decide +kernel
theorem d_R_count_84 : decode b_R_count 84 = .ok (.if_icmp .ge 7, 3) := by decide +kernel
theorem d_R_count_87 : decode b_R_count 87 = .ok (.iconst 1, 1) := by decide +kernel
theorem d_R_count_88 : decode b_R_count 88 = .ok (.goto 10, 3) := by decide +kernel
theorem d_R_count_91 : decode b_R_count 91 = .ok (.aload_n 0, 1) := by decide +kernel
theorem d_R_count_92 : decode b_R_count 92 = .ok (.getfield 29, 3) := by decide +kernel
theorem d_R_count_95 : decode b_R_count 95 = .ok (.iload 4, 2) := by decide +kernel
theorem d_R_count_97 : decode b_R_count 97 = .ok (.iaload, 1) := by decide +kernel
theorem d_R_count_98 : decode b_R_count 98 = .ok (.iadd, 1) := by decide +kernel
theorem d_R_count_99 : decode b_R_count 99 = .ok (.istore_n 2, 1) := by decide +kernel
theorem d_R_count_100 : decode b_R_count 100 = .ok (.iinc 4 1, 3) := by decide +kernel
theorem d_R_count_103 : decode b_R_count 103 = .ok (.goto (-49), 3) := by decide +kernel
theorem d_R_count_106 : decode b_R_count 106 = .ok (.iload_n 2, 1) := by decide +kernel
theorem d_R_count_107 : decode b_R_count 107 = .ok (.ireturn, 1) := by decide +kernel
theorem d_B_init_0 : decode b_B_init 0 = .ok (.aload_n 0, 1) := by decide +kernel
theorem d_B_init_1 : decode b_B_init 1 = .ok (.invokespecial 3, 3) := by decide +kernel
theorem d_B_init_4 : decode b_B_init 4 = .ok (.aload_n 0, 1) := by decide +kernel
theorem d_B_init_5 : decode b_B_init 5 = .ok (.bipush 12, 2) := by decide +kernel
theorem d_B_init_7 : decode b_B_init 7 = .ok (.anewarray 9, 3) := by decide +kernel
theorem d_B_init_10 : decode b_B_init 10 = .ok (.putfield 11, 3) := by decide +kernel
theorem d_B_init_13 : decode b_B_init 13 = .ok (.iconst 0, 1) := by decide +kernel
theorem d_B_init_14 : decode b_B_init 14 = .ok (.istore_n 1, 1) := by decide +kernel
theorem d_B_init_15 : decode b_B_init 15 = .ok (.iload_n 1, 1) := by decide +kernel
theorem d_B_init_16 : decode b_B_init 16 = .ok (.bipush 12, 2) := by decide +kernel
theorem d_B_init_18 : decode b_B_init 18 = .ok (.if_icmp .ge 22, 3) := by decide +kernel
theorem d_B_init_21 : decode b_B_init 21 = .ok (.aload_n 0, 1) := by decide +kernel
theorem d_B_init_22 : decode b_B_init 22 = .ok (.getfield 11, 3) := by decide +kernel
theorem d_B_init_25 : decode b_B_init 25 = .ok (.iload_n 1, 1) := by decide +kernel
theorem d_B_init_26 : decode b_B_init 26 = .ok (.new 9, 3) := by decide +kernel
theorem d_B_init_29 : decode b_B_init 29 = .ok (.dup, 1) := by decide +kernel
theorem d_B_init_30 : decode b_B_init 30 = .ok (.invokespecial 17, 3) := by decide +kernel
theorem d_B_init_33 : decode b_B_init 33 = .ok (.aastore, 1) := by decide +kernel
theorem d_B_init_34 : decode b_B_init 34 = .ok (.iinc 1 1, 3) := by decide +kernel
theorem d_B_init_37 : decode b_B_init 37 = .ok (.goto (-22), 3) := by decide +kernel
theorem d_B_init_40 : decode b_B_init 40 = .ok (.aload_n 0, 1) := by decide +kernel
theorem d_B_init_41 : decode b_B_init 41 = .ok (.bipush 12, 2) := by decide +kernel
theorem d_B_init_43 : decode b_B_init 43 = .ok (.newarray .int, 2) := by decide +kernel
theorem d_B_init_45 : decode b_B_init 45 = .ok (.putfield 18, 3) := by decide +kernel
theorem d_B_init_48 : decode b_B_init 48 = .ok (.return_, 1) := by decide +kernel
theorem d_B_become_0 : decode b_B_become 0 = .ok (.iconst 0, 1) := by decide +kernel
theorem d_B_become_1 : decode b_B_become 1 = .ok (.istore_n 2, 1) := by decide +kernel
theorem d_B_become_2 : decode b_B_become 2 = .ok (.iload_n 2, 1) := by decide +kernel
theorem d_B_become_3 : decode b_B_become 3 = .ok (.bipush 12, 2) := by decide +kernel
theorem d_B_become_5 : decode b_B_become 5 = .ok (.if_icmp .ge 24, 3) := by decide +kernel
theorem d_B_become_8 : decode b_B_become 8 = .ok (.aload_n 0, 1) := by decide +kernel
theorem d_B_become_9 : decode b_B_become 9 = .ok (.getfield 11, 3) := by decide +kernel
theorem d_B_become_12 : decode b_B_become 12 = .ok (.iload_n 2, 1) := by decide +kernel
theorem d_B_become_13 : decode b_B_become 13 = .ok (.aaload, 1) := by decide +kernel
theorem d_B_become_14 : decode b_B_become 14 = .ok (.aload_n 1, 1) := by decide +kernel
theorem d_B_become_15 : decode b_B_become 15 = .ok (.getfield 11, 3) := by decide +kernel
theorem d_B_become_18 : decode b_B_become 18 = .ok (.iload_n 2, 1) := by decide +kernel
theorem d_B_become_19 : decode b_B_become 19 = .ok (.aaload, 1) := by decide +kernel
theorem d_B_become_20 : decode b_B_become 20 = .ok (.invokevirtual 22, 3) := by decide +kernel
theorem d_B_become_23 : decode b_B_become 23 = .ok (.iinc 2 1, 3) := by decide +kernel
theorem d_B_become_26 : decode b_B_become 26 = .ok (.goto (-24), 3) := by decide +kernel
theorem d_B_become_29 : decode b_B_become 29 = .ok (.return_, 1) := by decide +kernel
theorem d_B_typeCount_0 : decode b_B_typeCount 0 = .ok (.iconst 0, 1) := by decide +kernel
theorem d_B_typeCount_1 : decode b_B_typeCount 1 = .ok (.istore_n 1, 1) := by decide +kernel
theorem d_B_typeCount_2 : decode b_B_typeCount 2 = .ok (.iconst 0, 1) := by decide +kernel
theorem d_B_typeCount_3 : decode b_B_typeCount 3 = .ok (.istore_n 2, 1) := by decide +kernel
theorem d_B_typeCount_4 : decode b_B_typeCount 4 = .ok (.iload_n 2, 1) := by decide +kernel
theorem d_B_typeCount_5 : decode b_B_typeCount 5 = .ok (.bipush 12, 2) := by decide +kernel
theorem d_B_typeCount_7 : decode b_B_typeCount 7 = .ok (.if_icmp .ge 24, 3) := by decide +kernel
theorem d_B_typeCount_10 : decode b_B_typeCount 10 = .ok (.aload_n 0, 1) := by decide +kernel
theorem d_B_typeCount_11 : decode b_B_typeCount 11 = .ok (.getfield 11, 3) := by decide +kernel
theorem d_B_typeCount_14 : decode b_B_typeCount 14 = .ok (.iload_n 2, 1) := by decide +kernel
theorem d_B_typeCount_15 : decode b_B_typeCount 15 = .ok (.aaload, 1) := by decide +kernel
theorem d_B_typeCount_16 : decode b_B_typeCount 16 = .ok (.getfield 26, 3) := by decide +kernel
theorem d_B_typeCount_19 : decode b_B_typeCount 19 = .ok (.ifCond .eq 6, 3) := by decide +kernel
theorem d_B_typeCount_22 : decode b_B_typeCount 22 = .ok (.iinc 1 1, 3) := by decide +kernel
theorem d_B_typeCount_25 : decode b_B_typeCount 25 = .ok (.iinc 2 1, 3) := by decide +kernel
theorem d_B_typeCount_28 : decode b_B_typeCount 28 = .ok (.goto (-24), 3) := by decide +kernel
theorem d_B_typeCount_31 : decode b_B_typeCount 31 = .ok (.iload_n 1, 1) := by decide +kernel
theorem d_B_typeCount_32 : decode b_B_typeCount 32 = .ok (.ireturn, 1) := by decide +kernel
theorem d_B_memberCount_0 : decode b_B_memberCount 0 = .ok (.iconst 0, 1) := by decide +kernel
theorem d_B_memberCount_1 : decode b_B_memberCount 1 = .ok (.istore_n 1, 1) := by decide +kernel
theorem d_B_memberCount_2 : decode b_B_memberCount 2 = .ok (.iconst 0, 1) := by decide +kernel
theorem d_B_memberCount_3 : decode b_B_memberCount 3 = .ok (.istore_n 2, 1) := by decide +kernel
theorem d_B_memberCount_4 : decode b_B_memberCount 4 = .ok (.iload_n 2, 1) := by decide +kernel
theorem d_B_memberCount_5 : decode b_B_memberCount 5 = .ok (.bipush 12, 2) := by decide +kernel
theorem d_B_memberCount_7 : decode b_B_memberCount 7 = .ok (.if_icmp .ge 21, 3) := by decide +kernel
theorem d_B_memberCount_10 : decode b_B_memberCount 10 = .ok (.iload_n 1, 1) := by decide +kernel
theorem d_B_memberCount_11 : decode b_B_memberCount 11 = .ok (.aload_n 0, 1) := by decide +kernel
theorem d_B_memberCount_12 : decode b_B_memberCount 12 = .ok (.getfield 11, 3) := by decide +kernel
theorem d_B_memberCount_15 : decode b_B_memberCount 15 = .ok (.iload_n 2, 1) := by decide +kernel
theorem d_B_memberCount_16 : decode b_B_memberCount 16 = .ok (.aaload, 1) := by decide +kernel
theorem d_B_memberCount_17 : decode b_B_memberCount 17 = .ok (.getfield 30, 3) := by decide +kernel
theorem d_B_memberCount_20 : decode b_B_memberCount 20 = .ok (.iadd, 1) := by decide +kernel
theorem d_B_memberCount_21 : decode b_B_memberCount 21 = .ok (.istore_n 1, 1) := by decide +kernel
theorem d_B_memberCount_22 : decode b_B_memberCount 22 = .ok (.iinc 2 1, 3) := by decide +kernel
theorem d_B_memberCount_25 : decode b_B_memberCount 25 = .ok (.goto (-21), 3) := by decide +kernel
theorem d_B_memberCount_28 : decode b_B_memberCount 28 = .ok (.iload_n 1, 1) := by decide +kernel
theorem d_B_memberCount_29 : decode b_B_memberCount 29 = .ok (.ireturn, 1) := by decide +kernel
theorem d_B_settle_0 : decode b_B_settle 0 = .ok (.iconst 0, 1) := by decide +kernel
theorem d_B_settle_1 : decode b_B_settle 1 = .ok (.istore_n 1, 1) := by decide +kernel
theorem d_B_settle_2 : decode b_B_settle 2 = .ok (.iload_n 1, 1) := by decide +kernel
theorem d_B_settle_3 : decode b_B_settle 3 = .ok (.bipush 12, 2) := by decide +kernel
theorem d_B_settle_5 : decode b_B_settle 5 = .ok (.if_icmp .ge 66, 3) := by decide +kernel
theorem d_B_settle_8 : decode b_B_settle 8 = .ok (.aload_n 0, 1) := by decide +kernel
theorem d_B_settle_9 : decode b_B_settle 9 = .ok (.getfield 11, 3) := by decide +kernel
theorem d_B_settle_12 : decode b_B_settle 12 = .ok (.iload_n 1, 1) := by decide +kernel
theorem d_B_settle_13 : decode b_B_settle 13 = .ok (.aaload, 1) := by decide +kernel
theorem d_B_settle_14 : decode b_B_settle 14 = .ok (.aload_n 0, 1) := by decide +kernel
theorem d_B_settle_15 : decode b_B_settle 15 = .ok (.aload_n 0, 1) := by decide +kernel
theorem d_B_settle_16 : decode b_B_settle 16 = .ok (.getfield 11, 3) := by decide +kernel
theorem d_B_settle_19 : decode b_B_settle 19 = .ok (.iload_n 1, 1) := by decide +kernel
theorem d_B_settle_20 : decode b_B_settle 20 = .ok (.aaload, 1) := by decide +kernel
theorem d_B_settle_21 : decode b_B_settle 21 = .ok (.getfield 34, 3) := by decide +kernel
theorem d_B_settle_24 : decode b_B_settle 24 = .ok (.invokevirtual 37, 3) := by decide +kernel
theorem d_B_settle_27 : decode b_B_settle 27 = .ok (.ifCond .eq 15, 3) := by decide +kernel
theorem d_B_settle_30 : decode b_B_settle 30 = .ok (.aload_n 0, 1) := by decide +kernel
theorem d_B_settle_31 : decode b_B_settle 31 = .ok (.getfield 11, 3) := by decide +kernel
theorem d_B_settle_34 : decode b_B_settle 34 = .ok (.iload_n 1, 1) := by decide +kernel
theorem d_B_settle_35 : decode b_B_settle 35 = .ok (.aaload, 1) := by decide +kernel
theorem d_B_settle_36 : decode b_B_settle 36 = .ok (.getfield 34, 3) := by decide +kernel
theorem d_B_settle_39 : decode b_B_settle 39 = .ok (.goto 4, 3) := by decide +kernel
theorem d_B_settle_42 : decode b_B_settle 42 = .ok (.iconst (-1), 1) := by decide +kernel
theorem d_B_settle_43 : decode b_B_settle 43 = .ok (.putfield 41, 3) := by decide +kernel
theorem d_B_settle_46 : decode b_B_settle 46 = .ok (.aload_n 0, 1) := by decide +kernel
theorem d_B_settle_47 : decode b_B_settle 47 = .ok (.getfield 11, 3) := by decide +kernel
theorem d_B_settle_50 : decode b_B_settle 50 = .ok (.iload_n 1, 1) := by decide +kernel
theorem d_B_settle_51 : decode b_B_settle 51 = .ok (.aaload, 1) := by decide +kernel
theorem d_B_settle_52 : decode b_B_settle 52 = .ok (.aload_n 0, 1) := by decide +kernel
theorem d_B_settle_53 : decode b_B_settle 53 = .ok (.aload_n 0, 1) := by decide +kernel
theorem d_B_settle_54 : decode b_B_settle 54 = .ok (.getfield 11, 3) := by decide +kernel
theorem d_B_settle_57 : decode b_B_settle 57 = .ok (.iload_n 1, 1) := by decide +kernel
theorem d_B_settle_58 : decode b_B_settle 58 = .ok (.aaload, 1) := by decide +kernel
theorem d_B_settle_59 : decode b_B_settle 59 = .ok (.invokevirtual 44, 3) := by decide +kernel
theorem d_B_settle_62 : decode b_B_settle 62 = .ok (.putfield 48, 3) := by decide +kernel
theorem d_B_settle_65 : decode b_B_settle 65 = .ok (.iinc 1 1, 3) := by decide +kernel
theorem d_B_settle_68 : decode b_B_settle 68 = .ok (.goto (-66), 3) := by decide +kernel
theorem d_B_settle_71 : decode b_B_settle 71 = .ok (.return_, 1) := by decide +kernel
theorem d_B_gatherSupertypes_0 : decode b_B_gatherSupertypes 0 = .ok (.iconst 0, 1) := by decide +kernel
theorem d_B_gatherSupertypes_1 : decode b_B_gatherSupertypes 1 = .ok (.istore_n 2, 1) := by decide +kernel
theorem d_B_gatherSupertypes_2 : decode b_B_gatherSupertypes 2 = .ok (.aload_n 1, 1) := by decide +kernel
theorem d_B_gatherSupertypes_3 : decode b_B_gatherSupertypes 3 = .ok (.getfield 41, 3) := by decide +kernel
theorem d_B_gatherSupertypes_6 : decode b_B_gatherSupertypes 6 = .ok (.iconst (-1), 1) := by decide +kernel
theorem d_B_gatherSupertypes_7 : decode b_B_gatherSupertypes 7 = .ok (.if_icmp .eq 23, 3) := by decide +kernel
theorem d_B_gatherSupertypes_10 : decode b_B_gatherSupertypes 10 = .ok (.iconst 1, 1) := by decide +kernel
theorem d_B_gatherSupertypes_11 : decode b_B_gatherSupertypes 11 = .ok (.aload_n 1, 1) := by decide +kernel
theorem d_B_gatherSupertypes_12 : decode b_B_gatherSupertypes 12 = .ok (.getfield 41, 3) := by decide +kernel
theorem d_B_gatherSupertypes_15 : decode b_B_gatherSupertypes 15 = .ok (.ishl, 1) := by decide +kernel
theorem d_B_gatherSupertypes_16 : decode b_B_gatherSupertypes 16 = .ok (.aload_n 0, 1) := by decide +kernel
theorem d_B_gatherSupertypes_17 : decode b_B_gatherSupertypes 17 = .ok (.getfield 11, 3) := by decide +kernel
theorem d_B_gatherSupertypes_20 : decode b_B_gatherSupertypes 20 = .ok (.aload_n 1, 1) := by decide +kernel
theorem d_B_gatherSupertypes_21 : decode b_B_gatherSupertypes 21 = .ok (.getfield 41, 3) := by decide +kernel
theorem d_B_gatherSupertypes_24 : decode b_B_gatherSupertypes 24 = .ok (.aaload, 1) := by decide +kernel
theorem d_B_gatherSupertypes_25 : decode b_B_gatherSupertypes 25 = .ok (.getfield 48, 3) := by decide +kernel
theorem d_B_gatherSupertypes_28 : decode b_B_gatherSupertypes 28 = .ok (.ior, 1) := by decide +kernel
theorem d_B_gatherSupertypes_29 : decode b_B_gatherSupertypes 29 = .ok (.istore_n 2, 1) := by decide +kernel
theorem d_B_gatherSupertypes_30 : decode b_B_gatherSupertypes 30 = .ok (.iconst 0, 1) := by decide +kernel
theorem d_B_gatherSupertypes_31 : decode b_B_gatherSupertypes 31 = .ok (.istore_n 3, 1) := by decide +kernel
theorem d_B_gatherSupertypes_32 : decode b_B_gatherSupertypes 32 = .ok (.iload_n 3, 1) := by decide +kernel
theorem d_B_gatherSupertypes_33 : decode b_B_gatherSupertypes 33 = .ok (.aload_n 1, 1) := by decide +kernel
theorem d_B_gatherSupertypes_34 : decode b_B_gatherSupertypes 34 = .ok (.getfield 51, 3) := by decide +kernel
theorem d_B_gatherSupertypes_37 : decode b_B_gatherSupertypes 37 = .ok (.if_icmp .ge 44, 3) := by decide +kernel
theorem d_B_gatherSupertypes_40 : decode b_B_gatherSupertypes 40 = .ok (.aload_n 1, 1) := by decide +kernel
theorem d_B_gatherSupertypes_41 : decode b_B_gatherSupertypes 41 = .ok (.getfield 54, 3) := by decide +kernel
theorem d_B_gatherSupertypes_44 : decode b_B_gatherSupertypes 44 = .ok (.iload_n 3, 1) := by decide +kernel
theorem d_B_gatherSupertypes_45 : decode b_B_gatherSupertypes 45 = .ok (.iaload, 1) := by decide +kernel
theorem d_B_gatherSupertypes_46 : decode b_B_gatherSupertypes 46 = .ok (.istore 4, 2) := by decide +kernel
theorem d_B_gatherSupertypes_48 : decode b_B_gatherSupertypes 48 = .ok (.aload_n 0, 1) := by decide +kernel
theorem d_B_gatherSupertypes_49 : decode b_B_gatherSupertypes 49 = .ok (.iload 4, 2) := by decide +kernel
theorem d_B_gatherSupertypes_51 : decode b_B_gatherSupertypes 51 = .ok (.invokevirtual 57, 3) := by decide +kernel
theorem d_B_gatherSupertypes_54 : decode b_B_gatherSupertypes 54 = .ok (.ifCond .eq 21, 3) := by decide +kernel
theorem d_B_gatherSupertypes_57 : decode b_B_gatherSupertypes 57 = .ok (.iload_n 2, 1) := by decide +kernel
theorem d_B_gatherSupertypes_58 : decode b_B_gatherSupertypes 58 = .ok (.iconst 1, 1) := by decide +kernel
theorem d_B_gatherSupertypes_59 : decode b_B_gatherSupertypes 59 = .ok (.iload 4, 2) := by decide +kernel
theorem d_B_gatherSupertypes_61 : decode b_B_gatherSupertypes 61 = .ok (.ishl, 1) := by decide +kernel
theorem d_B_gatherSupertypes_62 : decode b_B_gatherSupertypes 62 = .ok (.ior, 1) := by decide +kernel
theorem d_B_gatherSupertypes_63 : decode b_B_gatherSupertypes 63 = .ok (.aload_n 0, 1) := by decide +kernel
theorem d_B_gatherSupertypes_64 : decode b_B_gatherSupertypes 64 = .ok (.getfield 11, 3) := by decide +kernel
theorem d_B_gatherSupertypes_67 : decode b_B_gatherSupertypes 67 = .ok (.iload 4, 2) := by decide +kernel
theorem d_B_gatherSupertypes_69 : decode b_B_gatherSupertypes 69 = .ok (.aaload, 1) := by decide +kernel
theorem d_B_gatherSupertypes_70 : decode b_B_gatherSupertypes 70 = .ok (.getfield 48, 3) := by decide +kernel
theorem d_B_gatherSupertypes_73 : decode b_B_gatherSupertypes 73 = .ok (.ior, 1) := by decide +kernel
theorem d_B_gatherSupertypes_74 : decode b_B_gatherSupertypes 74 = .ok (.istore_n 2, 1) := by decide +kernel
theorem d_B_gatherSupertypes_75 : decode b_B_gatherSupertypes 75 = .ok (.iinc 3 1, 3) := by decide +kernel
theorem d_B_gatherSupertypes_78 : decode b_B_gatherSupertypes 78 = .ok (.goto (-46), 3) := by decide +kernel
theorem d_B_gatherSupertypes_81 : decode b_B_gatherSupertypes 81 = .ok (.iload_n 2, 1) := by decide +kernel
theorem d_B_gatherSupertypes_82 : decode b_B_gatherSupertypes 82 = .ok (.ireturn, 1) := by decide +kernel
theorem d_B_isClass_0 : decode b_B_isClass 0 = .ok (.iload_n 1, 1) := by decide +kernel
theorem d_B_isClass_1 : decode b_B_isClass 1 = .ok (.bipush 12, 2) := by decide +kernel
theorem d_B_isClass_3 : decode b_B_isClass 3 = .ok (.invokestatic 60, 3) := by decide +kernel
theorem d_B_isClass_6 : decode b_B_isClass 6 = .ok (.ifCond .eq 31, 3) := by decide +kernel
theorem d_B_isClass_9 : decode b_B_isClass 9 = .ok (.aload_n 0, 1) := by decide +kernel
theorem d_B_isClass_10 : decode b_B_isClass 10 = .ok (.getfield 11, 3) := by decide +kernel
theorem d_B_isClass_13 : decode b_B_isClass 13 = .ok (.iload_n 1, 1) := by decide +kernel
theorem d_B_isClass_14 : decode b_B_isClass 14 = .ok (.aaload, 1) := by decide +kernel
theorem d_B_isClass_15 : decode b_B_isClass 15 = .ok (.getfield 26, 3) := by decide +kernel
theorem d_B_isClass_18 : decode b_B_isClass 18 = .ok (.ifCond .eq 19, 3) := by decide +kernel
theorem d_B_isClass_21 : decode b_B_isClass 21 = .ok (.aload_n 0, 1) := by decide +kernel
theorem d_B_isClass_22 : decode b_B_isClass 22 = .ok (.getfield 11, 3) := by decide +kernel
theorem d_B_isClass_25 : decode b_B_isClass 25 = .ok (.iload_n 1, 1) := by decide +kernel
theorem d_B_isClass_26 : decode b_B_isClass 26 = .ok (.aaload, 1) := by decide +kernel
theorem d_B_isClass_27 : decode b_B_isClass 27 = .ok (.getfield 64, 3) := by decide +kernel
theorem d_B_isClass_30 : decode b_B_isClass 30 = .ok (.ifCond .ne 7, 3) := by decide +kernel
theorem d_B_isClass_33 : decode b_B_isClass 33 = .ok (.iconst 1, 1) := by decide +kernel
theorem d_B_isClass_34 : decode b_B_isClass 34 = .ok (.goto 4, 3) := by decide +kernel
theorem d_B_isClass_37 : decode b_B_isClass 37 = .ok (.iconst 0, 1) := by decide +kernel
theorem d_B_isClass_38 : decode b_B_isClass 38 = .ok (.ireturn, 1) := by decide +kernel
theorem d_B_isInterface_0 : decode b_B_isInterface 0 = .ok (.aload_n 0, 1) := by decide +kernel
theorem d_B_isInterface_1 : decode b_B_isInterface 1 = .ok (.getfield 11, 3) := by decide +kernel
theorem d_B_isInterface_4 : decode b_B_isInterface 4 = .ok (.iload_n 1, 1) := by decide +kernel
theorem d_B_isInterface_5 : decode b_B_isInterface 5 = .ok (.aaload, 1) := by decide +kernel
theorem d_B_isInterface_6 : decode b_B_isInterface 6 = .ok (.getfield 26, 3) := by decide +kernel
theorem d_B_isInterface_9 : decode b_B_isInterface 9 = .ok (.ifCond .eq 20, 3) := by decide +kernel
theorem d_B_isInterface_12 : decode b_B_isInterface 12 = .ok (.aload_n 0, 1) := by decide +kernel
theorem d_B_isInterface_13 : decode b_B_isInterface 13 = .ok (.getfield 11, 3) := by decide +kernel
theorem d_B_isInterface_16 : decode b_B_isInterface 16 = .ok (.iload_n 1, 1) := by decide +kernel
theorem d_B_isInterface_17 : decode b_B_isInterface 17 = .ok (.aaload, 1) := by decide +kernel
theorem d_B_isInterface_18 : decode b_B_isInterface 18 = .ok (.getfield 64, 3) := by decide +kernel
theorem d_B_isInterface_21 : decode b_B_isInterface 21 = .ok (.iconst 1, 1) := by decide +kernel
theorem d_B_isInterface_22 : decode b_B_isInterface 22 = .ok (.if_icmp .ne 7, 3) := by decide +kernel
theorem d_B_isInterface_25 : decode b_B_isInterface 25 = .ok (.iconst 1, 1) := by decide +kernel
theorem d_B_isInterface_26 : decode b_B_isInterface 26 = .ok (.goto 4, 3) := by decide +kernel
theorem d_B_isInterface_29 : decode b_B_isInterface 29 = .ok (.iconst 0, 1) := by decide +kernel
theorem d_B_isInterface_30 : decode b_B_isInterface 30 = .ok (.ireturn, 1) := by decide +kernel
theorem d_B_whereIs_0 : decode b_B_whereIs 0 = .ok (.aload_n 0, 1) := by decide +kernel
theorem d_B_whereIs_1 : decode b_B_whereIs 1 = .ok (.getfield 11, 3) := by decide +kernel
theorem d_B_whereIs_4 : decode b_B_whereIs 4 = .ok (.iload_n 1, 1) := by decide +kernel
theorem d_B_whereIs_5 : decode b_B_whereIs 5 = .ok (.aaload, 1) := by decide +kernel
theorem d_B_whereIs_6 : decode b_B_whereIs 6 = .ok (.getfield 26, 3) := by decide +kernel
theorem d_B_whereIs_9 : decode b_B_whereIs 9 = .ok (.ifCond .ne 6, 3) := by decide +kernel
theorem d_B_whereIs_12 : decode b_B_whereIs 12 = .ok (.bipush 12, 2) := by decide +kernel
theorem d_B_whereIs_14 : decode b_B_whereIs 14 = .ok (.ireturn, 1) := by decide +kernel
theorem d_B_whereIs_15 : decode b_B_whereIs 15 = .ok (.iload_n 2, 1) := by decide +kernel
theorem d_B_whereIs_16 : decode b_B_whereIs 16 = .ok (.ifCond .ne 10, 3) := by decide +kernel
theorem d_B_whereIs_19 : decode b_B_whereIs 19 = .ok (.aload_n 0, 1) := by decide +kernel
theorem d_B_whereIs_20 : decode b_B_whereIs 20 = .ok (.iload_n 1, 1) := by decide +kernel
theorem d_B_whereIs_21 : decode b_B_whereIs 21 = .ok (.iload_n 3, 1) := by decide +kernel
theorem d_B_whereIs_22 : decode b_B_whereIs 22 = .ok (.invokevirtual 67, 3) := by decide +kernel
theorem d_B_whereIs_25 : decode b_B_whereIs 25 = .ok (.ireturn, 1) := by decide +kernel
theorem d_B_whereIs_26 : decode b_B_whereIs 26 = .ok (.iload_n 2, 1) := by decide +kernel
theorem d_B_whereIs_27 : decode b_B_whereIs 27 = .ok (.iconst 1, 1) := by decide +kernel
theorem d_B_whereIs_28 : decode b_B_whereIs 28 = .ok (.if_icmp .ne 10, 3) := by decide +kernel
theorem d_B_whereIs_31 : decode b_B_whereIs 31 = .ok (.aload_n 0, 1) := by decide +kernel
theorem d_B_whereIs_32 : decode b_B_whereIs 32 = .ok (.iload_n 1, 1) := by decide +kernel
theorem d_B_whereIs_33 : decode b_B_whereIs 33 = .ok (.iload_n 3, 1) := by decide +kernel
theorem d_B_whereIs_34 : decode b_B_whereIs 34 = .ok (.invokevirtual 71, 3) := by decide +kernel
theorem d_B_whereIs_37 : decode b_B_whereIs 37 = .ok (.ireturn, 1) := by decide +kernel
theorem d_B_whereIs_38 : decode b_B_whereIs 38 = .ok (.aload_n 0, 1) := by decide +kernel
theorem d_B_whereIs_39 : decode b_B_whereIs 39 = .ok (.getfield 11, 3) := by decide +kernel
theorem d_B_whereIs_42 : decode b_B_whereIs 42 = .ok (.iload_n 1, 1) := by decide +kernel
theorem d_B_whereIs_43 : decode b_B_whereIs 43 = .ok (.aaload, 1) := by decide +kernel
theorem d_B_whereIs_44 : decode b_B_whereIs 44 = .ok (.iload_n 2, 1) := by decide +kernel
theorem d_B_whereIs_45 : decode b_B_whereIs 45 = .ok (.iload_n 3, 1) := by decide +kernel
theorem d_B_whereIs_46 : decode b_B_whereIs 46 = .ok (.invokevirtual 74, 3) := by decide +kernel
theorem d_B_whereIs_49 : decode b_B_whereIs 49 = .ok (.ifnull 7, 3) := by decide +kernel
theorem d_B_whereIs_52 : decode b_B_whereIs 52 = .ok (.iload_n 1, 1) := by decide +kernel
theorem d_B_whereIs_53 : decode b_B_whereIs 53 = .ok (.goto 5, 3) := by decide +kernel
theorem d_B_whereIs_56 : decode b_B_whereIs 56 = .ok (.bipush 12, 2) := by decide +kernel
theorem d_B_whereIs_58 : decode b_B_whereIs 58 = .ok (.ireturn, 1) := by decide +kernel
theorem d_B_whereIsField_0 : decode b_B_whereIsField 0 = .ok (.aload_n 0, 1) := by decide +kernel
theorem d_B_whereIsField_1 : decode b_B_whereIsField 1 = .ok (.getfield 11, 3) := by decide +kernel
theorem d_B_whereIsField_4 : decode b_B_whereIsField 4 = .ok (.iload_n 1, 1) := by decide +kernel
theorem d_B_whereIsField_5 : decode b_B_whereIsField 5 = .ok (.aaload, 1) := by decide +kernel
theorem d_B_whereIsField_6 : decode b_B_whereIsField 6 = .ok (.getfield 48, 3) := by decide +kernel
theorem d_B_whereIsField_9 : decode b_B_whereIsField 9 = .ok (.iconst 1, 1) := by decide +kernel
theorem d_B_whereIsField_10 : decode b_B_whereIsField 10 = .ok (.iload_n 1, 1) := by decide +kernel
theorem d_B_whereIsField_11 : decode b_B_whereIsField 11 = .ok (.ishl, 1) := by decide +kernel
theorem d_B_whereIsField_12 : decode b_B_whereIsField 12 = .ok (.ior, 1) := by decide +kernel
theorem d_B_whereIsField_13 : decode b_B_whereIsField 13 = .ok (.istore_n 3, 1) := by decide +kernel
theorem d_B_whereIsField_14 : decode b_B_whereIsField 14 = .ok (.iconst 0, 1) := by decide +kernel
theorem d_B_whereIsField_15 : decode b_B_whereIsField 15 = .ok (.istore 4, 2) := by decide +kernel
theorem d_B_whereIsField_17 : decode b_B_whereIsField 17 = .ok (.iload 4, 2) := by decide +kernel
theorem d_B_whereIsField_19 : decode b_B_whereIsField 19 = .ok (.iload_n 1, 1) := by decide +kernel
theorem d_B_whereIsField_20 : decode b_B_whereIsField 20 = .ok (.if_icmp .gt 32, 3) := by decide +kernel
theorem d_B_whereIsField_23 : decode b_B_whereIsField 23 = .ok (.iload_n 3, 1) := by decide +kernel
theorem d_B_whereIsField_24 : decode b_B_whereIsField 24 = .ok (.iload 4, 2) := by decide +kernel
theorem d_B_whereIsField_26 : decode b_B_whereIsField 26 = .ok (.invokestatic 78, 3) := by decide +kernel
theorem d_B_whereIsField_29 : decode b_B_whereIsField 29 = .ok (.ifCond .eq 17, 3) := by decide +kernel
theorem d_B_whereIsField_32 : decode b_B_whereIsField 32 = .ok (.aload_n 0, 1) := by decide +kernel
theorem d_B_whereIsField_33 : decode b_B_whereIsField 33 = .ok (.getfield 18, 3) := by decide +kernel
theorem d_B_whereIsField_36 : decode b_B_whereIsField 36 = .ok (.iload 4, 2) := by decide +kernel
theorem d_B_whereIsField_38 : decode b_B_whereIsField 38 = .ok (.aload_n 0, 1) := by decide +kernel
theorem d_B_whereIsField_39 : decode b_B_whereIsField 39 = .ok (.iload 4, 2) := by decide +kernel
theorem d_B_whereIsField_41 : decode b_B_whereIsField 41 = .ok (.iload_n 2, 1) := by decide +kernel
theorem d_B_whereIsField_42 : decode b_B_whereIsField 42 = .ok (.invokevirtual 81, 3) := by decide +kernel
theorem d_B_whereIsField_45 : decode b_B_whereIsField 45 = .ok (.iastore, 1) := by decide +kernel
theorem d_B_whereIsField_46 : decode b_B_whereIsField 46 = .ok (.iinc 4 1, 3) := by decide +kernel
theorem d_B_whereIsField_49 : decode b_B_whereIsField 49 = .ok (.goto (-32), 3) := by decide +kernel
theorem d_B_whereIsField_52 : decode b_B_whereIsField 52 = .ok (.aload_n 0, 1) := by decide +kernel
theorem d_B_whereIsField_53 : decode b_B_whereIsField 53 = .ok (.getfield 18, 3) := by decide +kernel
theorem d_B_whereIsField_56 : decode b_B_whereIsField 56 = .ok (.iload_n 1, 1) := by decide +kernel
theorem d_B_whereIsField_57 : decode b_B_whereIsField 57 = .ok (.iaload, 1) := by decide +kernel
theorem d_B_whereIsField_58 : decode b_B_whereIsField 58 = .ok (.ireturn, 1) := by decide +kernel
theorem d_B_fieldOwnerFor_0 : decode b_B_fieldOwnerFor 0 = .ok (.aload_n 0, 1) := by decide +kernel
theorem d_B_fieldOwnerFor_1 : decode b_B_fieldOwnerFor 1 = .ok (.getfield 11, 3) := by decide +kernel
theorem d_B_fieldOwnerFor_4 : decode b_B_fieldOwnerFor 4 = .ok (.iload_n 1, 1) := by decide +kernel
theorem d_B_fieldOwnerFor_5 : decode b_B_fieldOwnerFor 5 = .ok (.aaload, 1) := by decide +kernel
theorem d_B_fieldOwnerFor_6 : decode b_B_fieldOwnerFor 6 = .ok (.astore_n 3, 1) := by decide +kernel
theorem d_B_fieldOwnerFor_7 : decode b_B_fieldOwnerFor 7 = .ok (.aload_n 3, 1) := by decide +kernel
theorem d_B_fieldOwnerFor_8 : decode b_B_fieldOwnerFor 8 = .ok (.iconst 0, 1) := by decide +kernel
theorem d_B_fieldOwnerFor_9 : decode b_B_fieldOwnerFor 9 = .ok (.iload_n 2, 1) := by decide +kernel
theorem d_B_fieldOwnerFor_10 : decode b_B_fieldOwnerFor 10 = .ok (.invokevirtual 74, 3) := by decide +kernel
theorem d_B_fieldOwnerFor_13 : decode b_B_fieldOwnerFor 13 = .ok (.ifnull 5, 3) := by decide +kernel
theorem d_B_fieldOwnerFor_16 : decode b_B_fieldOwnerFor 16 = .ok (.iload_n 1, 1) := by decide +kernel
theorem d_B_fieldOwnerFor_17 : decode b_B_fieldOwnerFor 17 = .ok (.ireturn, 1) := by decide +kernel
theorem d_B_fieldOwnerFor_18 : decode b_B_fieldOwnerFor 18 = .ok (.iconst 0, 1) := by decide +kernel
theorem d_B_fieldOwnerFor_19 : decode b_B_fieldOwnerFor 19 = .ok (.istore 4, 2) := by decide +kernel
theorem d_B_fieldOwnerFor_21 : decode b_B_fieldOwnerFor 21 = .ok (.iload 4, 2) := by decide +kernel
theorem d_B_fieldOwnerFor_23 : decode b_B_fieldOwnerFor 23 = .ok (.aload_n 3, 1) := by decide +kernel
theorem d_B_fieldOwnerFor_24 : decode b_B_fieldOwnerFor 24 = .ok (.getfield 51, 3) := by decide +kernel
theorem d_B_fieldOwnerFor_27 : decode b_B_fieldOwnerFor 27 = .ok (.if_icmp .ge 47, 3) := by decide +kernel
theorem d_B_fieldOwnerFor_30 : decode b_B_fieldOwnerFor 30 = .ok (.aload_n 3, 1) := by decide +kernel
theorem d_B_fieldOwnerFor_31 : decode b_B_fieldOwnerFor 31 = .ok (.getfield 54, 3) := by decide +kernel
theorem d_B_fieldOwnerFor_34 : decode b_B_fieldOwnerFor 34 = .ok (.iload 4, 2) := by decide +kernel
theorem d_B_fieldOwnerFor_36 : decode b_B_fieldOwnerFor 36 = .ok (.iaload, 1) := by decide +kernel
theorem d_B_fieldOwnerFor_37 : decode b_B_fieldOwnerFor 37 = .ok (.istore 5, 2) := by decide +kernel
theorem d_B_fieldOwnerFor_39 : decode b_B_fieldOwnerFor 39 = .ok (.aload_n 0, 1) := by decide +kernel
theorem d_B_fieldOwnerFor_40 : decode b_B_fieldOwnerFor 40 = .ok (.iload 5, 2) := by decide +kernel
theorem d_B_fieldOwnerFor_42 : decode b_B_fieldOwnerFor 42 = .ok (.invokevirtual 57, 3) := by decide +kernel
theorem d_B_fieldOwnerFor_45 : decode b_B_fieldOwnerFor 45 = .ok (.ifCond .eq 23, 3) := by decide +kernel
theorem d_B_fieldOwnerFor_48 : decode b_B_fieldOwnerFor 48 = .ok (.aload_n 0, 1) := by decide +kernel
theorem d_B_fieldOwnerFor_49 : decode b_B_fieldOwnerFor 49 = .ok (.getfield 18, 3) := by decide +kernel
theorem d_B_fieldOwnerFor_52 : decode b_B_fieldOwnerFor 52 = .ok (.iload 5, 2) := by decide +kernel
theorem d_B_fieldOwnerFor_54 : decode b_B_fieldOwnerFor 54 = .ok (.iaload, 1) := by decide +kernel
theorem d_B_fieldOwnerFor_55 : decode b_B_fieldOwnerFor 55 = .ok (.bipush 12, 2) := by decide +kernel
theorem d_B_fieldOwnerFor_57 : decode b_B_fieldOwnerFor 57 = .ok (.if_icmp .eq 11, 3) := by decide +kernel
theorem d_B_fieldOwnerFor_60 : decode b_B_fieldOwnerFor 60 = .ok (.aload_n 0, 1) := by decide +kernel
theorem d_B_fieldOwnerFor_61 : decode b_B_fieldOwnerFor 61 = .ok (.getfield 18, 3) := by decide +kernel
theorem d_B_fieldOwnerFor_64 : decode b_B_fieldOwnerFor 64 = .ok (.iload 5, 2) := by decide +kernel
theorem d_B_fieldOwnerFor_66 : decode b_B_fieldOwnerFor 66 = .ok (.iaload, 1) := by decide +kernel
theorem d_B_fieldOwnerFor_67 : decode b_B_fieldOwnerFor 67 = .ok (.ireturn, 1) := by decide +kernel
theorem d_B_fieldOwnerFor_68 : decode b_B_fieldOwnerFor 68 = .ok (.iinc 4 1, 3) := by decide +kernel
theorem d_B_fieldOwnerFor_71 : decode b_B_fieldOwnerFor 71 = .ok (.goto (-50), 3) := by decide +kernel
theorem d_B_fieldOwnerFor_74 : decode b_B_fieldOwnerFor 74 = .ok (.aload_n 3, 1) := by decide +kernel
theorem d_B_fieldOwnerFor_75 : decode b_B_fieldOwnerFor 75 = .ok (.getfield 41, 3) := by decide +kernel
theorem d_B_fieldOwnerFor_78 : decode b_B_fieldOwnerFor 78 = .ok (.iconst (-1), 1) := by decide +kernel
theorem d_B_fieldOwnerFor_79 : decode b_B_fieldOwnerFor 79 = .ok (.if_icmp .ne 8, 3) := by decide +kernel
theorem d_B_fieldOwnerFor_82 : decode b_B_fieldOwnerFor 82 = .ok (.bipush 12, 2) := by decide +kernel
theorem d_B_fieldOwnerFor_84 : decode b_B_fieldOwnerFor 84 = .ok (.goto 12, 3) := by decide +kernel
theorem d_B_fieldOwnerFor_87 : decode b_B_fieldOwnerFor 87 = .ok (.aload_n 0, 1) := by decide +kernel
theorem d_B_fieldOwnerFor_88 : decode b_B_fieldOwnerFor 88 = .ok (.getfield 18, 3) := by decide +kernel
theorem d_B_fieldOwnerFor_91 : decode b_B_fieldOwnerFor 91 = .ok (.aload_n 3, 1) := by decide +kernel
theorem d_B_fieldOwnerFor_92 : decode b_B_fieldOwnerFor 92 = .ok (.getfield 41, 3) := by decide +kernel
theorem d_B_fieldOwnerFor_95 : decode b_B_fieldOwnerFor 95 = .ok (.iaload, 1) := by decide +kernel
theorem d_B_fieldOwnerFor_96 : decode b_B_fieldOwnerFor 96 = .ok (.ireturn, 1) := by decide +kernel
theorem d_B_whereIsMethod_0 : decode b_B_whereIsMethod 0 = .ok (.iload_n 1, 1) := by decide +kernel
theorem d_B_whereIsMethod_1 : decode b_B_whereIsMethod 1 = .ok (.istore_n 3, 1) := by decide +kernel
theorem d_B_whereIsMethod_2 : decode b_B_whereIsMethod 2 = .ok (.iconst 0, 1) := by decide +kernel
theorem d_B_whereIsMethod_3 : decode b_B_whereIsMethod 3 = .ok (.istore 4, 2) := by decide +kernel
theorem d_B_whereIsMethod_5 : decode b_B_whereIsMethod 5 = .ok (.iload 4, 2) := by decide +kernel
theorem d_B_whereIsMethod_7 : decode b_B_whereIsMethod 7 = .ok (.bipush 12, 2) := by decide +kernel
theorem d_B_whereIsMethod_9 : decode b_B_whereIsMethod 9 = .ok (.if_icmp .ge 40, 3) := by decide +kernel
theorem d_B_whereIsMethod_12 : decode b_B_whereIsMethod 12 = .ok (.iload_n 3, 1) := by decide +kernel
theorem d_B_whereIsMethod_13 : decode b_B_whereIsMethod 13 = .ok (.iconst (-1), 1) := by decide +kernel
theorem d_B_whereIsMethod_14 : decode b_B_whereIsMethod 14 = .ok (.if_icmp .eq 35, 3) := by decide +kernel
theorem d_B_whereIsMethod_17 : decode b_B_whereIsMethod 17 = .ok (.aload_n 0, 1) := by decide +kernel
theorem d_B_whereIsMethod_18 : decode b_B_whereIsMethod 18 = .ok (.getfield 11, 3) := by decide +kernel
theorem d_B_whereIsMethod_21 : decode b_B_whereIsMethod 21 = .ok (.iload_n 3, 1) := by decide +kernel
theorem d_B_whereIsMethod_22 : decode b_B_whereIsMethod 22 = .ok (.aaload, 1) := by decide +kernel
theorem d_B_whereIsMethod_23 : decode b_B_whereIsMethod 23 = .ok (.iconst 1, 1) := by decide +kernel
theorem d_B_whereIsMethod_24 : decode b_B_whereIsMethod 24 = .ok (.iload_n 2, 1) := by decide +kernel
theorem d_B_whereIsMethod_25 : decode b_B_whereIsMethod 25 = .ok (.invokevirtual 74, 3) := by decide +kernel
theorem d_B_whereIsMethod_28 : decode b_B_whereIsMethod 28 = .ok (.ifnull 5, 3) := by decide +kernel
theorem d_B_whereIsMethod_31 : decode b_B_whereIsMethod 31 = .ok (.iload_n 3, 1) := by decide +kernel
theorem d_B_whereIsMethod_32 : decode b_B_whereIsMethod 32 = .ok (.ireturn, 1) := by decide +kernel
theorem d_B_whereIsMethod_33 : decode b_B_whereIsMethod 33 = .ok (.aload_n 0, 1) := by decide +kernel
theorem d_B_whereIsMethod_34 : decode b_B_whereIsMethod 34 = .ok (.getfield 11, 3) := by decide +kernel
theorem d_B_whereIsMethod_37 : decode b_B_whereIsMethod 37 = .ok (.iload_n 3, 1) := by decide +kernel
theorem d_B_whereIsMethod_38 : decode b_B_whereIsMethod 38 = .ok (.aaload, 1) := by decide +kernel
theorem d_B_whereIsMethod_39 : decode b_B_whereIsMethod 39 = .ok (.getfield 41, 3) := by decide +kernel
theorem d_B_whereIsMethod_42 : decode b_B_whereIsMethod 42 = .ok (.istore_n 3, 1) := by decide +kernel
theorem d_B_whereIsMethod_43 : decode b_B_whereIsMethod 43 = .ok (.iinc 4 1, 3) := by decide +kernel
theorem d_B_whereIsMethod_46 : decode b_B_whereIsMethod 46 = .ok (.goto (-41), 3) := by decide +kernel
theorem d_B_whereIsMethod_49 : decode b_B_whereIsMethod 49 = .ok (.aload_n 0, 1) := by decide +kernel
theorem d_B_whereIsMethod_50 : decode b_B_whereIsMethod 50 = .ok (.aload_n 0, 1) := by decide +kernel
theorem d_B_whereIsMethod_51 : decode b_B_whereIsMethod 51 = .ok (.getfield 11, 3) := by decide +kernel
theorem d_B_whereIsMethod_54 : decode b_B_whereIsMethod 54 = .ok (.iload_n 1, 1) := by decide +kernel
theorem d_B_whereIsMethod_55 : decode b_B_whereIsMethod 55 = .ok (.aaload, 1) := by decide +kernel
theorem d_B_whereIsMethod_56 : decode b_B_whereIsMethod 56 = .ok (.getfield 48, 3) := by decide +kernel
theorem d_B_whereIsMethod_59 : decode b_B_whereIsMethod 59 = .ok (.iload_n 2, 1) := by decide +kernel
theorem d_B_whereIsMethod_60 : decode b_B_whereIsMethod 60 = .ok (.invokevirtual 84, 3) := by decide +kernel
theorem d_B_whereIsMethod_63 : decode b_B_whereIsMethod 63 = .ok (.ireturn, 1) := by decide +kernel
theorem d_B_whereIsInterfaceMethod_0 : decode b_B_whereIsInterfaceMethod 0 = .ok (.bipush 12, 2) := by decide +kernel
theorem d_B_whereIsInterfaceMethod_2 : decode b_B_whereIsInterfaceMethod 2 = .ok (.istore_n 3, 1) := by decide +kernel
theorem d_B_whereIsInterfaceMethod_3 : decode b_B_whereIsInterfaceMethod 3 = .ok (.iconst 0, 1) := by decide +kernel
theorem d_B_whereIsInterfaceMethod_4 : decode b_B_whereIsInterfaceMethod 4 = .ok (.istore 4, 2) := by decide +kernel
theorem d_B_whereIsInterfaceMethod_6 : decode b_B_whereIsInterfaceMethod 6 = .ok (.iload 4, 2) := by decide +kernel
theorem d_B_whereIsInterfaceMethod_8 : decode b_B_whereIsInterfaceMethod 8 = .ok (.bipush 12, 2) := by decide +kernel
theorem d_B_whereIsInterfaceMethod_10 : decode b_B_whereIsInterfaceMethod 10 = .ok (.if_icmp .ge 96, 3) := by decide +kernel
theorem d_B_whereIsInterfaceMethod_13 : decode b_B_whereIsInterfaceMethod 13 = .ok (.iload_n 1, 1) := by decide +kernel
theorem d_B_whereIsInterfaceMethod_14 : decode b_B_whereIsInterfaceMethod 14 = .ok (.iload 4, 2) := by decide +kernel
theorem d_B_whereIsInterfaceMethod_16 : decode b_B_whereIsInterfaceMethod 16 = .ok (.invokestatic 78, 3) := by decide +kernel
theorem d_B_whereIsInterfaceMethod_19 : decode b_B_whereIsInterfaceMethod 19 = .ok (.ifCond .eq 81, 3) := by decide +kernel
theorem d_B_whereIsInterfaceMethod_22 : decode b_B_whereIsInterfaceMethod 22 = .ok (.aload_n 0, 1) := by decide +kernel
theorem d_B_whereIsInterfaceMethod_23 : decode b_B_whereIsInterfaceMethod 23 = .ok (.getfield 11, 3) := by decide +kernel
theorem d_B_whereIsInterfaceMethod_26 : decode b_B_whereIsInterfaceMethod 26 = .ok (.iload 4, 2) := by decide +kernel
theorem d_B_whereIsInterfaceMethod_28 : decode b_B_whereIsInterfaceMethod 28 = .ok (.aaload, 1) := by decide +kernel
theorem d_B_whereIsInterfaceMethod_29 : decode b_B_whereIsInterfaceMethod 29 = .ok (.getfield 64, 3) := by decide +kernel
theorem d_B_whereIsInterfaceMethod_32 : decode b_B_whereIsInterfaceMethod 32 = .ok (.iconst 1, 1) := by decide +kernel
theorem d_B_whereIsInterfaceMethod_33 : decode b_B_whereIsInterfaceMethod 33 = .ok (.if_icmp .eq 6, 3) := by decide +kernel
theorem d_B_whereIsInterfaceMethod_36 : decode b_B_whereIsInterfaceMethod 36 = .ok (.goto 64, 3) := by decide +kernel
theorem d_B_whereIsInterfaceMethod_39 : decode b_B_whereIsInterfaceMethod 39 = .ok (.aload_n 0, 1) := by decide +kernel
theorem d_B_whereIsInterfaceMethod_40 : decode b_B_whereIsInterfaceMethod 40 = .ok (.getfield 11, 3) := by decide +kernel
theorem d_B_whereIsInterfaceMethod_43 : decode b_B_whereIsInterfaceMethod 43 = .ok (.iload 4, 2) := by decide +kernel
theorem d_B_whereIsInterfaceMethod_45 : decode b_B_whereIsInterfaceMethod 45 = .ok (.aaload, 1) := by decide +kernel
theorem d_B_whereIsInterfaceMethod_46 : decode b_B_whereIsInterfaceMethod 46 = .ok (.iconst 1, 1) := by decide +kernel
theorem d_B_whereIsInterfaceMethod_47 : decode b_B_whereIsInterfaceMethod 47 = .ok (.iload_n 2, 1) := by decide +kernel
theorem d_B_whereIsInterfaceMethod_48 : decode b_B_whereIsInterfaceMethod 48 = .ok (.invokevirtual 74, 3) := by decide +kernel
theorem d_B_whereIsInterfaceMethod_51 : decode b_B_whereIsInterfaceMethod 51 = .ok (.astore 5, 2) := by decide +kernel
theorem d_B_whereIsInterfaceMethod_53 : decode b_B_whereIsInterfaceMethod 53 = .ok (.aload 5, 2) := by decide +kernel
theorem d_B_whereIsInterfaceMethod_55 : decode b_B_whereIsInterfaceMethod 55 = .ok (.ifnull 45, 3) := by decide +kernel
theorem d_B_whereIsInterfaceMethod_58 : decode b_B_whereIsInterfaceMethod 58 = .ok (.aload 5, 2) := by decide +kernel
theorem d_B_whereIsInterfaceMethod_60 : decode b_B_whereIsInterfaceMethod 60 = .ok (.iconst 4, 1) := by decide +kernel
theorem d_B_whereIsInterfaceMethod_61 : decode b_B_whereIsInterfaceMethod 61 = .ok (.invokevirtual 87, 3) := by decide +kernel
theorem d_B_whereIsInterfaceMethod_64 : decode b_B_whereIsInterfaceMethod 64 = .ok (.ifCond .ne 36, 3) := by decide +kernel
theorem d_B_whereIsInterfaceMethod_67 : decode b_B_whereIsInterfaceMethod 67 = .ok (.aload 5, 2) := by decide +kernel
theorem d_B_whereIsInterfaceMethod_69 : decode b_B_whereIsInterfaceMethod 69 = .ok (.invokevirtual 92, 3) := by decide +kernel
theorem d_B_whereIsInterfaceMethod_72 : decode b_B_whereIsInterfaceMethod 72 = .ok (.ifCond .ne 6, 3) := by decide +kernel
theorem d_B_whereIsInterfaceMethod_75 : decode b_B_whereIsInterfaceMethod 75 = .ok (.goto 25, 3) := by decide +kernel
theorem d_B_whereIsInterfaceMethod_78 : decode b_B_whereIsInterfaceMethod 78 = .ok (.aload 5, 2) := by decide +kernel
theorem d_B_whereIsInterfaceMethod_80 : decode b_B_whereIsInterfaceMethod 80 = .ok (.bipush 16, 2) := by decide +kernel
theorem d_B_whereIsInterfaceMethod_82 : decode b_B_whereIsInterfaceMethod 82 = .ok (.invokevirtual 87, 3) := by decide +kernel
theorem d_B_whereIsInterfaceMethod_85 : decode b_B_whereIsInterfaceMethod 85 = .ok (.ifCond .ne 6, 3) := by decide +kernel
theorem d_B_whereIsInterfaceMethod_88 : decode b_B_whereIsInterfaceMethod 88 = .ok (.iload 4, 2) := by decide +kernel
theorem d_B_whereIsInterfaceMethod_90 : decode b_B_whereIsInterfaceMethod 90 = .ok (.ireturn, 1) := by decide +kernel
theorem d_B_whereIsInterfaceMethod_91 : decode b_B_whereIsInterfaceMethod 91 = .ok (.iload_n 3, 1) := by decide +kernel
theorem d_B_whereIsInterfaceMethod_92 : decode b_B_whereIsInterfaceMethod 92 = .ok (.bipush 12, 2) := by decide +kernel
theorem d_B_whereIsInterfaceMethod_94 : decode b_B_whereIsInterfaceMethod 94 = .ok (.if_icmp .ne 6, 3) := by decide +kernel
theorem d_B_whereIsInterfaceMethod_97 : decode b_B_whereIsInterfaceMethod 97 = .ok (.iload 4, 2) := by decide +kernel
theorem d_B_whereIsInterfaceMethod_99 : decode b_B_whereIsInterfaceMethod 99 = .ok (.istore_n 3, 1) := by decide +kernel
theorem d_B_whereIsInterfaceMethod_100 : decode b_B_whereIsInterfaceMethod 100 = .ok (.iinc 4 1, 3) := by decide +kernel
theorem d_B_whereIsInterfaceMethod_103 : decode b_B_whereIsInterfaceMethod 103 = .ok (.goto (-97), 3) := by decide +kernel
theorem d_B_whereIsInterfaceMethod_106 : decode b_B_whereIsInterfaceMethod 106 = .ok (.iload_n 3, 1) := by decide +kernel
theorem d_B_whereIsInterfaceMethod_107 : decode b_B_whereIsInterfaceMethod 107 = .ok (.ireturn, 1) := by decide +kernel
theorem d_C_init_0 : decode b_C_init 0 = .ok (.aload_n 0, 1) := by decide +kernel
theorem d_C_init_1 : decode b_C_init 1 = .ok (.invokespecial 3, 3) := by decide +kernel
theorem d_C_init_4 : decode b_C_init 4 = .ok (.aload_n 0, 1) := by decide +kernel
theorem d_C_init_5 : decode b_C_init 5 = .ok (.sipush 636, 3) := by decide +kernel
theorem d_C_init_8 : decode b_C_init 8 = .ok (.newarray .int, 2) := by decide +kernel
theorem d_C_init_10 : decode b_C_init 10 = .ok (.putfield 9, 3) := by decide +kernel
theorem d_C_init_13 : decode b_C_init 13 = .ok (.aload_n 0, 1) := by decide +kernel
theorem d_C_init_14 : decode b_C_init 14 = .ok (.sipush 636, 3) := by decide +kernel
theorem d_C_init_17 : decode b_C_init 17 = .ok (.newarray .int, 2) := by decide +kernel
theorem d_C_init_19 : decode b_C_init 19 = .ok (.putfield 15, 3) := by decide +kernel
theorem d_C_init_22 : decode b_C_init 22 = .ok (.aload_n 0, 1) := by decide +kernel
theorem d_C_init_23 : decode b_C_init 23 = .ok (.sipush 636, 3) := by decide +kernel
theorem d_C_init_26 : decode b_C_init 26 = .ok (.newarray .int, 2) := by decide +kernel
theorem d_C_init_28 : decode b_C_init 28 = .ok (.putfield 18, 3) := by decide +kernel
theorem d_C_init_31 : decode b_C_init 31 = .ok (.aload_n 0, 1) := by decide +kernel
theorem d_C_init_32 : decode b_C_init 32 = .ok (.bipush 8, 2) := by decide +kernel
theorem d_C_init_34 : decode b_C_init 34 = .ok (.anewarray 21, 3) := by decide +kernel
theorem d_C_init_37 : decode b_C_init 37 = .ok (.putfield 23, 3) := by decide +kernel
theorem d_C_init_40 : decode b_C_init 40 = .ok (.return_, 1) := by decide +kernel
theorem d_C_bringUpToDate_0 : decode b_C_bringUpToDate 0 = .ok (.aload_n 0, 1) := by decide +kernel
theorem d_C_bringUpToDate_1 : decode b_C_bringUpToDate 1 = .ok (.getfield 27, 3) := by decide +kernel
theorem d_C_bringUpToDate_4 : decode b_C_bringUpToDate 4 = .ok (.ifCond .ne 4, 3) := by decide +kernel
theorem d_C_bringUpToDate_7 : decode b_C_bringUpToDate 7 = .ok (.return_, 1) := by decide +kernel
theorem d_C_bringUpToDate_8 : decode b_C_bringUpToDate 8 = .ok (.aload_n 0, 1) := by decide +kernel
theorem d_C_bringUpToDate_9 : decode b_C_bringUpToDate 9 = .ok (.iconst 0, 1) := by decide +kernel
theorem d_C_bringUpToDate_10 : decode b_C_bringUpToDate 10 = .ok (.putfield 27, 3) := by decide +kernel
theorem d_C_bringUpToDate_13 : decode b_C_bringUpToDate 13 = .ok (.aload_n 0, 1) := by decide +kernel
theorem d_C_bringUpToDate_14 : decode b_C_bringUpToDate 14 = .ok (.iconst 0, 1) := by decide +kernel
theorem d_C_bringUpToDate_15 : decode b_C_bringUpToDate 15 = .ok (.putfield 31, 3) := by decide +kernel
theorem d_C_bringUpToDate_18 : decode b_C_bringUpToDate 18 = .ok (.iconst 0, 1) := by decide +kernel
theorem d_C_bringUpToDate_19 : decode b_C_bringUpToDate 19 = .ok (.istore_n 3, 1) := by decide +kernel
theorem d_C_bringUpToDate_20 : decode b_C_bringUpToDate 20 = .ok (.iload_n 3, 1) := by decide +kernel
theorem d_C_bringUpToDate_21 : decode b_C_bringUpToDate 21 = .ok (.bipush 12, 2) := by decide +kernel
theorem d_C_bringUpToDate_23 : decode b_C_bringUpToDate 23 = .ok (.if_icmp .ge 28, 3) := by decide +kernel
theorem d_C_bringUpToDate_26 : decode b_C_bringUpToDate 26 = .ok (.aload_n 1, 1) := by decide +kernel
theorem d_C_bringUpToDate_27 : decode b_C_bringUpToDate 27 = .ok (.getfield 35, 3) := by decide +kernel
theorem d_C_bringUpToDate_30 : decode b_C_bringUpToDate 30 = .ok (.iload_n 3, 1) := by decide +kernel
theorem d_C_bringUpToDate_31 : decode b_C_bringUpToDate 31 = .ok (.aaload, 1) := by decide +kernel
theorem d_C_bringUpToDate_32 : decode b_C_bringUpToDate 32 = .ok (.invokevirtual 40, 3) := by decide +kernel
theorem d_C_bringUpToDate_35 : decode b_C_bringUpToDate 35 = .ok (.ifCond .eq 10, 3) := by decide +kernel
theorem d_C_bringUpToDate_38 : decode b_C_bringUpToDate 38 = .ok (.aload_n 0, 1) := by decide +kernel
theorem d_C_bringUpToDate_39 : decode b_C_bringUpToDate 39 = .ok (.aload_n 1, 1) := by decide +kernel
theorem d_C_bringUpToDate_40 : decode b_C_bringUpToDate 40 = .ok (.aload_n 2, 1) := by decide +kernel
theorem d_C_bringUpToDate_41 : decode b_C_bringUpToDate 41 = .ok (.iload_n 3, 1) := by decide +kernel
theorem d_C_bringUpToDate_42 : decode b_C_bringUpToDate 42 = .ok (.invokevirtual 46, 3) := by decide +kernel
theorem d_C_bringUpToDate_45 : decode b_C_bringUpToDate 45 = .ok (.iinc 3 1, 3) := by decide +kernel
theorem d_C_bringUpToDate_48 : decode b_C_bringUpToDate 48 = .ok (.goto (-28), 3) := by decide +kernel
theorem d_C_bringUpToDate_51 : decode b_C_bringUpToDate 51 = .ok (.return_, 1) := by decide +kernel
theorem d_C_add_0 : decode b_C_add 0 = .ok (.aload_n 0, 1) := by decide +kernel
theorem d_C_add_1 : decode b_C_add 1 = .ok (.getfield 31, 3) := by decide +kernel
theorem d_C_add_4 : decode b_C_add 4 = .ok (.sipush 636, 3) := by decide +kernel
theorem d_C_add_7 : decode b_C_add 7 = .ok (.if_icmp .ge 43, 3) := by decide +kernel
theorem d_C_add_10 : decode b_C_add 10 = .ok (.aload_n 0, 1) := by decide +kernel
theorem d_C_add_11 : decode b_C_add 11 = .ok (.getfield 9, 3) := by decide +kernel
theorem d_C_add_14 : decode b_C_add 14 = .ok (.aload_n 0, 1) := by decide +kernel
theorem d_C_add_15 : decode b_C_add 15 = .ok (.getfield 31, 3) := by decide +kernel
theorem d_C_add_18 : decode b_C_add 18 = .ok (.iload_n 1, 1) := by decide +kernel
theorem d_C_add_19 : decode b_C_add 19 = .ok (.iastore, 1) := by decide +kernel
theorem d_C_add_20 : decode b_C_add 20 = .ok (.aload_n 0, 1) := by decide +kernel
theorem d_C_add_21 : decode b_C_add 21 = .ok (.getfield 15, 3) := by decide +kernel
theorem d_C_add_24 : decode b_C_add 24 = .ok (.aload_n 0, 1) := by decide +kernel
theorem d_C_add_25 : decode b_C_add 25 = .ok (.getfield 31, 3) := by decide +kernel
theorem d_C_add_28 : decode b_C_add 28 = .ok (.iload_n 2, 1) := by decide +kernel
theorem d_C_add_29 : decode b_C_add 29 = .ok (.iastore, 1) := by decide +kernel
theorem d_C_add_30 : decode b_C_add 30 = .ok (.aload_n 0, 1) := by decide +kernel
theorem d_C_add_31 : decode b_C_add 31 = .ok (.getfield 18, 3) := by decide +kernel
theorem d_C_add_34 : decode b_C_add 34 = .ok (.aload_n 0, 1) := by decide +kernel
theorem d_C_add_35 : decode b_C_add 35 = .ok (.getfield 31, 3) := by decide +kernel
theorem d_C_add_38 : decode b_C_add 38 = .ok (.iload_n 3, 1) := by decide +kernel
theorem d_C_add_39 : decode b_C_add 39 = .ok (.iastore, 1) := by decide +kernel
theorem d_C_add_40 : decode b_C_add 40 = .ok (.aload_n 0, 1) := by decide +kernel
theorem d_C_add_41 : decode b_C_add 41 = .ok (.dup, 1) := by decide +kernel
theorem d_C_add_42 : decode b_C_add 42 = .ok (.getfield 31, 3) := by decide +kernel
theorem d_C_add_45 : decode b_C_add 45 = .ok (.iconst 1, 1) := by decide +kernel
theorem d_C_add_46 : decode b_C_add 46 = .ok (.iadd, 1) := by decide +kernel
theorem d_C_add_47 : decode b_C_add 47 = .ok (.putfield 31, 3) := by decide +kernel
theorem d_C_add_50 : decode b_C_add 50 = .ok (.return_, 1) := by decide +kernel
theorem d_C_judgeType_0 : decode b_C_judgeType 0 = .ok (.aload_n 1, 1) := by decide +kernel
theorem d_C_judgeType_1 : decode b_C_judgeType 1 = .ok (.getfield 35, 3) := by decide +kernel
theorem d_C_judgeType_4 : decode b_C_judgeType 4 = .ok (.iload_n 3, 1) := by decide +kernel
theorem d_C_judgeType_5 : decode b_C_judgeType 5 = .ok (.aaload, 1) := by decide +kernel
theorem d_C_judgeType_6 : decode b_C_judgeType 6 = .ok (.astore 4, 2) := by decide +kernel
theorem d_C_judgeType_8 : decode b_C_judgeType 8 = .ok (.aload_n 2, 1) := by decide +kernel
theorem d_C_judgeType_9 : decode b_C_judgeType 9 = .ok (.getfield 35, 3) := by decide +kernel
theorem d_C_judgeType_12 : decode b_C_judgeType 12 = .ok (.iload_n 3, 1) := by decide +kernel
theorem d_C_judgeType_13 : decode b_C_judgeType 13 = .ok (.aaload, 1) := by decide +kernel
theorem d_C_judgeType_14 : decode b_C_judgeType 14 = .ok (.astore 5, 2) := by decide +kernel
theorem d_C_judgeType_16 : decode b_C_judgeType 16 = .ok (.aload 5, 2) := by decide +kernel
theorem d_C_judgeType_18 : decode b_C_judgeType 18 = .ok (.invokevirtual 40, 3) := by decide +kernel
theorem d_C_judgeType_21 : decode b_C_judgeType 21 = .ok (.ifCond .ne 13, 3) := by decide +kernel
theorem d_C_judgeType_24 : decode b_C_judgeType 24 = .ok (.aload_n 0, 1) := by decide +kernel
theorem d_C_judgeType_25 : decode b_C_judgeType 25 = .ok (.iconst 0, 1) := by decide +kernel
theorem d_C_judgeType_26 : decode b_C_judgeType 26 = .ok (.iload_n 3, 1) := by decide +kernel
theorem d_C_judgeType_27 : decode b_C_judgeType 27 = .ok (.iconst (-1), 1) := by decide +kernel
theorem d_C_judgeType_28 : decode b_C_judgeType 28 = .ok (.invokevirtual 50, 3) := by decide +kernel
theorem d_C_judgeType_31 : decode b_C_judgeType 31 = .ok (.goto 67, 3) := by decide +kernel
theorem d_C_judgeType_34 : decode b_C_judgeType 34 = .ok (.aload 5, 2) := by decide +kernel
theorem d_C_judgeType_36 : decode b_C_judgeType 36 = .ok (.getfield 54, 3) := by decide +kernel
theorem d_C_judgeType_39 : decode b_C_judgeType 39 = .ok (.aload 4, 2) := by decide +kernel
theorem d_C_judgeType_41 : decode b_C_judgeType 41 = .ok (.getfield 54, 3) := by decide +kernel
theorem d_C_judgeType_44 : decode b_C_judgeType 44 = .ok (.if_icmp .eq 13, 3) := by decide +kernel
theorem d_C_judgeType_47 : decode b_C_judgeType 47 = .ok (.aload_n 0, 1) := by decide +kernel
theorem d_C_judgeType_48 : decode b_C_judgeType 48 = .ok (.iconst 1, 1) := by decide +kernel
theorem d_C_judgeType_49 : decode b_C_judgeType 49 = .ok (.iload_n 3, 1) := by decide +kernel
theorem d_C_judgeType_50 : decode b_C_judgeType 50 = .ok (.iconst (-1), 1) := by decide +kernel
theorem d_C_judgeType_51 : decode b_C_judgeType 51 = .ok (.invokevirtual 50, 3) := by decide +kernel
theorem d_C_judgeType_54 : decode b_C_judgeType 54 = .ok (.goto 44, 3) := by decide +kernel
theorem d_C_judgeType_57 : decode b_C_judgeType 57 = .ok (.aload_n 0, 1) := by decide +kernel
theorem d_C_judgeType_58 : decode b_C_judgeType 58 = .ok (.aload 4, 2) := by decide +kernel
theorem d_C_judgeType_60 : decode b_C_judgeType 60 = .ok (.aload 5, 2) := by decide +kernel
theorem d_C_judgeType_62 : decode b_C_judgeType 62 = .ok (.iload_n 3, 1) := by decide +kernel
theorem d_C_judgeType_63 : decode b_C_judgeType 63 = .ok (.invokevirtual 57, 3) := by decide +kernel
theorem d_C_judgeType_66 : decode b_C_judgeType 66 = .ok (.aload_n 0, 1) := by decide +kernel
theorem d_C_judgeType_67 : decode b_C_judgeType 67 = .ok (.aload 4, 2) := by decide +kernel
theorem d_C_judgeType_69 : decode b_C_judgeType 69 = .ok (.aload_n 2, 1) := by decide +kernel
theorem d_C_judgeType_70 : decode b_C_judgeType 70 = .ok (.iload_n 3, 1) := by decide +kernel
theorem d_C_judgeType_71 : decode b_C_judgeType 71 = .ok (.invokevirtual 61, 3) := by decide +kernel
theorem d_C_judgeType_74 : decode b_C_judgeType 74 = .ok (.aload_n 0, 1) := by decide +kernel
theorem d_C_judgeType_75 : decode b_C_judgeType 75 = .ok (.aload 4, 2) := by decide +kernel
theorem d_C_judgeType_77 : decode b_C_judgeType 77 = .ok (.iload_n 3, 1) := by decide +kernel
theorem d_C_judgeType_78 : decode b_C_judgeType 78 = .ok (.invokevirtual 65, 3) := by decide +kernel
theorem d_C_judgeType_81 : decode b_C_judgeType 81 = .ok (.aload_n 0, 1) := by decide +kernel
theorem d_C_judgeType_82 : decode b_C_judgeType 82 = .ok (.aload 5, 2) := by decide +kernel
theorem d_C_judgeType_84 : decode b_C_judgeType 84 = .ok (.aload_n 1, 1) := by decide +kernel
theorem d_C_judgeType_85 : decode b_C_judgeType 85 = .ok (.iload_n 3, 1) := by decide +kernel
theorem d_C_judgeType_86 : decode b_C_judgeType 86 = .ok (.invokevirtual 61, 3) := by decide +kernel
end
section
theorem d_C_judgeType_89 : decode b_C_judgeType 89 = .ok (.aload_n 0, 1) := by decide +kernel
theorem d_C_judgeType_90 : decode b_C_judgeType 90 = .ok (.aload 4, 2) := by decide +kernel
theorem d_C_judgeType_92 : decode b_C_judgeType 92 = .ok (.aload 5, 2) := by decide +kernel
theorem d_C_judgeType_94 : decode b_C_judgeType 94 = .ok (.iload_n 3, 1) := by decide +kernel
theorem d_C_judgeType_95 : decode b_C_judgeType 95 = .ok (.invokevirtual 69, 3) := by decide +kernel
theorem d_C_judgeType_98 : decode b_C_judgeType 98 = .ok (.return_, 1) := by decide +kernel
theorem d_C_judgeHeader_0 : decode b_C_judgeHeader 0 = .ok (.aload_n 1, 1) := by decide +kernel
theorem d_C_judgeHeader_1 : decode b_C_judgeHeader 1 = .ok (.iconst 2, 1) := by decide +kernel
theorem d_C_judgeHeader_2 : decode b_C_judgeHeader 2 = .ok (.invokevirtual 72, 3) := by decide +kernel
theorem d_C_judgeHeader_5 : decode b_C_judgeHeader 5 = .ok (.ifCond .ne 18, 3) := by decide +kernel
theorem d_C_judgeHeader_8 : decode b_C_judgeHeader 8 = .ok (.aload_n 2, 1) := by decide +kernel
theorem d_C_judgeHeader_9 : decode b_C_judgeHeader 9 = .ok (.iconst 2, 1) := by decide +kernel
theorem d_C_judgeHeader_10 : decode b_C_judgeHeader 10 = .ok (.invokevirtual 72, 3) := by decide +kernel
theorem d_C_judgeHeader_13 : decode b_C_judgeHeader 13 = .ok (.ifCond .eq 10, 3) := by decide +kernel
theorem d_C_judgeHeader_16 : decode b_C_judgeHeader 16 = .ok (.aload_n 0, 1) := by decide +kernel
theorem d_C_judgeHeader_17 : decode b_C_judgeHeader 17 = .ok (.iconst 2, 1) := by decide +kernel
theorem d_C_judgeHeader_18 : decode b_C_judgeHeader 18 = .ok (.iload_n 3, 1) := by decide +kernel
theorem d_C_judgeHeader_19 : decode b_C_judgeHeader 19 = .ok (.iconst (-1), 1) := by decide +kernel
theorem d_C_judgeHeader_20 : decode b_C_judgeHeader 20 = .ok (.invokevirtual 50, 3) := by decide +kernel
theorem d_C_judgeHeader_23 : decode b_C_judgeHeader 23 = .ok (.aload_n 1, 1) := by decide +kernel
theorem d_C_judgeHeader_24 : decode b_C_judgeHeader 24 = .ok (.iconst 4, 1) := by decide +kernel
theorem d_C_judgeHeader_25 : decode b_C_judgeHeader 25 = .ok (.invokevirtual 72, 3) := by decide +kernel
theorem d_C_judgeHeader_28 : decode b_C_judgeHeader 28 = .ok (.ifCond .ne 18, 3) := by decide +kernel
theorem d_C_judgeHeader_31 : decode b_C_judgeHeader 31 = .ok (.aload_n 2, 1) := by decide +kernel
theorem d_C_judgeHeader_32 : decode b_C_judgeHeader 32 = .ok (.iconst 4, 1) := by decide +kernel
theorem d_C_judgeHeader_33 : decode b_C_judgeHeader 33 = .ok (.invokevirtual 72, 3) := by decide +kernel
theorem d_C_judgeHeader_36 : decode b_C_judgeHeader 36 = .ok (.ifCond .eq 10, 3) := by decide +kernel
theorem d_C_judgeHeader_39 : decode b_C_judgeHeader 39 = .ok (.aload_n 0, 1) := by decide +kernel
theorem d_C_judgeHeader_40 : decode b_C_judgeHeader 40 = .ok (.iconst 3, 1) := by decide +kernel
theorem d_C_judgeHeader_41 : decode b_C_judgeHeader 41 = .ok (.iload_n 3, 1) := by decide +kernel
theorem d_C_judgeHeader_42 : decode b_C_judgeHeader 42 = .ok (.iconst (-1), 1) := by decide +kernel
theorem d_C_judgeHeader_43 : decode b_C_judgeHeader 43 = .ok (.invokevirtual 50, 3) := by decide +kernel
theorem d_C_judgeHeader_46 : decode b_C_judgeHeader 46 = .ok (.aload_n 1, 1) := by decide +kernel
theorem d_C_judgeHeader_47 : decode b_C_judgeHeader 47 = .ok (.getfield 76, 3) := by decide +kernel
theorem d_C_judgeHeader_50 : decode b_C_judgeHeader 50 = .ok (.aload_n 2, 1) := by decide +kernel
theorem d_C_judgeHeader_51 : decode b_C_judgeHeader 51 = .ok (.getfield 76, 3) := by decide +kernel
theorem d_C_judgeHeader_54 : decode b_C_judgeHeader 54 = .ok (.iconst (-1), 1) := by decide +kernel
theorem d_C_judgeHeader_55 : decode b_C_judgeHeader 55 = .ok (.ixor, 1) := by decide +kernel
theorem d_C_judgeHeader_56 : decode b_C_judgeHeader 56 = .ok (.iand, 1) := by decide +kernel
theorem d_C_judgeHeader_57 : decode b_C_judgeHeader 57 = .ok (.istore 4, 2) := by decide +kernel
theorem d_C_judgeHeader_59 : decode b_C_judgeHeader 59 = .ok (.iconst 0, 1) := by decide +kernel
theorem d_C_judgeHeader_60 : decode b_C_judgeHeader 60 = .ok (.istore 5, 2) := by decide +kernel
theorem d_C_judgeHeader_62 : decode b_C_judgeHeader 62 = .ok (.iload 5, 2) := by decide +kernel
theorem d_C_judgeHeader_64 : decode b_C_judgeHeader 64 = .ok (.bipush 12, 2) := by decide +kernel
theorem d_C_judgeHeader_66 : decode b_C_judgeHeader 66 = .ok (.if_icmp .ge 27, 3) := by decide +kernel
theorem d_C_judgeHeader_69 : decode b_C_judgeHeader 69 = .ok (.iload 4, 2) := by decide +kernel
theorem d_C_judgeHeader_71 : decode b_C_judgeHeader 71 = .ok (.iload 5, 2) := by decide +kernel
theorem d_C_judgeHeader_73 : decode b_C_judgeHeader 73 = .ok (.invokestatic 79, 3) := by decide +kernel
theorem d_C_judgeHeader_76 : decode b_C_judgeHeader 76 = .ok (.ifCond .eq 11, 3) := by decide +kernel
theorem d_C_judgeHeader_79 : decode b_C_judgeHeader 79 = .ok (.aload_n 0, 1) := by decide +kernel
theorem d_C_judgeHeader_80 : decode b_C_judgeHeader 80 = .ok (.iconst 4, 1) := by decide +kernel
theorem d_C_judgeHeader_81 : decode b_C_judgeHeader 81 = .ok (.iload_n 3, 1) := by decide +kernel
theorem d_C_judgeHeader_82 : decode b_C_judgeHeader 82 = .ok (.iload 5, 2) := by decide +kernel
theorem d_C_judgeHeader_84 : decode b_C_judgeHeader 84 = .ok (.invokevirtual 50, 3) := by decide +kernel
theorem d_C_judgeHeader_87 : decode b_C_judgeHeader 87 = .ok (.iinc 5 1, 3) := by decide +kernel
theorem d_C_judgeHeader_90 : decode b_C_judgeHeader 90 = .ok (.goto (-28), 3) := by decide +kernel
theorem d_C_judgeHeader_93 : decode b_C_judgeHeader 93 = .ok (.return_, 1) := by decide +kernel
theorem d_C_judgeOldMembers_0 : decode b_C_judgeOldMembers 0 = .ok (.iconst 5, 1) := by decide +kernel
theorem d_C_judgeOldMembers_1 : decode b_C_judgeOldMembers 1 = .ok (.istore_n 3, 1) := by decide +kernel
theorem d_C_judgeOldMembers_2 : decode b_C_judgeOldMembers 2 = .ok (.iload_n 3, 1) := by decide +kernel
theorem d_C_judgeOldMembers_3 : decode b_C_judgeOldMembers 3 = .ok (.bipush 11, 2) := by decide +kernel
theorem d_C_judgeOldMembers_5 : decode b_C_judgeOldMembers 5 = .ok (.if_icmp .gt 69, 3) := by decide +kernel
theorem d_C_judgeOldMembers_8 : decode b_C_judgeOldMembers 8 = .ok (.iconst 0, 1) := by decide +kernel
theorem d_C_judgeOldMembers_9 : decode b_C_judgeOldMembers 9 = .ok (.istore 4, 2) := by decide +kernel
theorem d_C_judgeOldMembers_11 : decode b_C_judgeOldMembers 11 = .ok (.iload 4, 2) := by decide +kernel
theorem d_C_judgeOldMembers_13 : decode b_C_judgeOldMembers 13 = .ok (.aload_n 1, 1) := by decide +kernel
theorem d_C_judgeOldMembers_14 : decode b_C_judgeOldMembers 14 = .ok (.getfield 83, 3) := by decide +kernel
theorem d_C_judgeOldMembers_17 : decode b_C_judgeOldMembers 17 = .ok (.if_icmp .ge 51, 3) := by decide +kernel
theorem d_C_judgeOldMembers_20 : decode b_C_judgeOldMembers 20 = .ok (.aload_n 1, 1) := by decide +kernel
theorem d_C_judgeOldMembers_21 : decode b_C_judgeOldMembers 21 = .ok (.getfield 86, 3) := by decide +kernel
theorem d_C_judgeOldMembers_24 : decode b_C_judgeOldMembers 24 = .ok (.iload 4, 2) := by decide +kernel
theorem d_C_judgeOldMembers_26 : decode b_C_judgeOldMembers 26 = .ok (.aaload, 1) := by decide +kernel
theorem d_C_judgeOldMembers_27 : decode b_C_judgeOldMembers 27 = .ok (.astore 5, 2) := by decide +kernel
theorem d_C_judgeOldMembers_29 : decode b_C_judgeOldMembers 29 = .ok (.aload 5, 2) := by decide +kernel
theorem d_C_judgeOldMembers_31 : decode b_C_judgeOldMembers 31 = .ok (.invokevirtual 89, 3) := by decide +kernel
theorem d_C_judgeOldMembers_34 : decode b_C_judgeOldMembers 34 = .ok (.ifCond .eq 28, 3) := by decide +kernel
theorem d_C_judgeOldMembers_37 : decode b_C_judgeOldMembers 37 = .ok (.iload_n 3, 1) := by decide +kernel
theorem d_C_judgeOldMembers_38 : decode b_C_judgeOldMembers 38 = .ok (.aload_n 1, 1) := by decide +kernel
theorem d_C_judgeOldMembers_39 : decode b_C_judgeOldMembers 39 = .ok (.aload 5, 2) := by decide +kernel
theorem d_C_judgeOldMembers_41 : decode b_C_judgeOldMembers 41 = .ok (.aload_n 0, 1) := by decide +kernel
theorem d_C_judgeOldMembers_42 : decode b_C_judgeOldMembers 42 = .ok (.getfield 23, 3) := by decide +kernel
theorem d_C_judgeOldMembers_45 : decode b_C_judgeOldMembers 45 = .ok (.iload 4, 2) := by decide +kernel
theorem d_C_judgeOldMembers_47 : decode b_C_judgeOldMembers 47 = .ok (.aaload, 1) := by decide +kernel
theorem d_C_judgeOldMembers_48 : decode b_C_judgeOldMembers 48 = .ok (.invokestatic 92, 3) := by decide +kernel
theorem d_C_judgeOldMembers_51 : decode b_C_judgeOldMembers 51 = .ok (.ifCond .eq 11, 3) := by decide +kernel
theorem d_C_judgeOldMembers_54 : decode b_C_judgeOldMembers 54 = .ok (.aload_n 0, 1) := by decide +kernel
theorem d_C_judgeOldMembers_55 : decode b_C_judgeOldMembers 55 = .ok (.iload_n 3, 1) := by decide +kernel
theorem d_C_judgeOldMembers_56 : decode b_C_judgeOldMembers 56 = .ok (.iload_n 2, 1) := by decide +kernel
theorem d_C_judgeOldMembers_57 : decode b_C_judgeOldMembers 57 = .ok (.iload 4, 2) := by decide +kernel
theorem d_C_judgeOldMembers_59 : decode b_C_judgeOldMembers 59 = .ok (.invokevirtual 50, 3) := by decide +kernel
theorem d_C_judgeOldMembers_62 : decode b_C_judgeOldMembers 62 = .ok (.iinc 4 1, 3) := by decide +kernel
theorem d_C_judgeOldMembers_65 : decode b_C_judgeOldMembers 65 = .ok (.goto (-54), 3) := by decide +kernel
theorem d_C_judgeOldMembers_68 : decode b_C_judgeOldMembers 68 = .ok (.iinc 3 1, 3) := by decide +kernel
theorem d_C_judgeOldMembers_71 : decode b_C_judgeOldMembers 71 = .ok (.goto (-69), 3) := by decide +kernel
theorem d_C_judgeOldMembers_74 : decode b_C_judgeOldMembers 74 = .ok (.return_, 1) := by decide +kernel
theorem d_C_judgeNewMembers_0 : decode b_C_judgeNewMembers 0 = .ok (.bipush 12, 2) := by decide +kernel
theorem d_C_judgeNewMembers_2 : decode b_C_judgeNewMembers 2 = .ok (.istore 4, 2) := by decide +kernel
theorem d_C_judgeNewMembers_4 : decode b_C_judgeNewMembers 4 = .ok (.iload 4, 2) := by decide +kernel
theorem d_C_judgeNewMembers_6 : decode b_C_judgeNewMembers 6 = .ok (.bipush 13, 2) := by decide +kernel
theorem d_C_judgeNewMembers_8 : decode b_C_judgeNewMembers 8 = .ok (.if_icmp .gt 79, 3) := by decide +kernel
theorem d_C_judgeNewMembers_11 : decode b_C_judgeNewMembers 11 = .ok (.iconst 0, 1) := by decide +kernel
theorem d_C_judgeNewMembers_12 : decode b_C_judgeNewMembers 12 = .ok (.istore 5, 2) := by decide +kernel
theorem d_C_judgeNewMembers_14 : decode b_C_judgeNewMembers 14 = .ok (.iload 5, 2) := by decide +kernel
theorem d_C_judgeNewMembers_16 : decode b_C_judgeNewMembers 16 = .ok (.aload_n 2, 1) := by decide +kernel
theorem d_C_judgeNewMembers_17 : decode b_C_judgeNewMembers 17 = .ok (.getfield 83, 3) := by decide +kernel
theorem d_C_judgeNewMembers_20 : decode b_C_judgeNewMembers 20 = .ok (.if_icmp .ge 61, 3) := by decide +kernel
theorem d_C_judgeNewMembers_23 : decode b_C_judgeNewMembers 23 = .ok (.aload_n 2, 1) := by decide +kernel
theorem d_C_judgeNewMembers_24 : decode b_C_judgeNewMembers 24 = .ok (.getfield 86, 3) := by decide +kernel
theorem d_C_judgeNewMembers_27 : decode b_C_judgeNewMembers 27 = .ok (.iload 5, 2) := by decide +kernel
theorem d_C_judgeNewMembers_29 : decode b_C_judgeNewMembers 29 = .ok (.aaload, 1) := by decide +kernel
theorem d_C_judgeNewMembers_30 : decode b_C_judgeNewMembers 30 = .ok (.astore 6, 2) := by decide +kernel
theorem d_C_judgeNewMembers_32 : decode b_C_judgeNewMembers 32 = .ok (.aload_n 1, 1) := by decide +kernel
theorem d_C_judgeNewMembers_33 : decode b_C_judgeNewMembers 33 = .ok (.aload 6, 2) := by decide +kernel
theorem d_C_judgeNewMembers_35 : decode b_C_judgeNewMembers 35 = .ok (.getfield 96, 3) := by decide +kernel
theorem d_C_judgeNewMembers_38 : decode b_C_judgeNewMembers 38 = .ok (.aload 6, 2) := by decide +kernel
theorem d_C_judgeNewMembers_40 : decode b_C_judgeNewMembers 40 = .ok (.getfield 97, 3) := by decide +kernel
theorem d_C_judgeNewMembers_43 : decode b_C_judgeNewMembers 43 = .ok (.invokevirtual 100, 3) := by decide +kernel
theorem d_C_judgeNewMembers_46 : decode b_C_judgeNewMembers 46 = .ok (.ifnonnull 29, 3) := by decide +kernel
theorem d_C_judgeNewMembers_49 : decode b_C_judgeNewMembers 49 = .ok (.iload 4, 2) := by decide +kernel
theorem d_C_judgeNewMembers_51 : decode b_C_judgeNewMembers 51 = .ok (.aload 6, 2) := by decide +kernel
theorem d_C_judgeNewMembers_53 : decode b_C_judgeNewMembers 53 = .ok (.aload_n 0, 1) := by decide +kernel
theorem d_C_judgeNewMembers_54 : decode b_C_judgeNewMembers 54 = .ok (.getfield 23, 3) := by decide +kernel
theorem d_C_judgeNewMembers_57 : decode b_C_judgeNewMembers 57 = .ok (.iload 5, 2) := by decide +kernel
theorem d_C_judgeNewMembers_59 : decode b_C_judgeNewMembers 59 = .ok (.aaload, 1) := by decide +kernel
theorem d_C_judgeNewMembers_60 : decode b_C_judgeNewMembers 60 = .ok (.invokestatic 104, 3) := by decide +kernel
theorem d_C_judgeNewMembers_63 : decode b_C_judgeNewMembers 63 = .ok (.ifCond .eq 12, 3) := by decide +kernel
theorem d_C_judgeNewMembers_66 : decode b_C_judgeNewMembers 66 = .ok (.aload_n 0, 1) := by decide +kernel
theorem d_C_judgeNewMembers_67 : decode b_C_judgeNewMembers 67 = .ok (.iload 4, 2) := by decide +kernel
theorem d_C_judgeNewMembers_69 : decode b_C_judgeNewMembers 69 = .ok (.iload_n 3, 1) := by decide +kernel
theorem d_C_judgeNewMembers_70 : decode b_C_judgeNewMembers 70 = .ok (.iload 5, 2) := by decide +kernel
theorem d_C_judgeNewMembers_72 : decode b_C_judgeNewMembers 72 = .ok (.invokevirtual 50, 3) := by decide +kernel
theorem d_C_judgeNewMembers_75 : decode b_C_judgeNewMembers 75 = .ok (.iinc 5 1, 3) := by decide +kernel
theorem d_C_judgeNewMembers_78 : decode b_C_judgeNewMembers 78 = .ok (.goto (-64), 3) := by decide +kernel
theorem d_C_judgeNewMembers_81 : decode b_C_judgeNewMembers 81 = .ok (.iinc 4 1, 3) := by decide +kernel
theorem d_C_judgeNewMembers_84 : decode b_C_judgeNewMembers 84 = .ok (.goto (-80), 3) := by decide +kernel
theorem d_C_judgeNewMembers_87 : decode b_C_judgeNewMembers 87 = .ok (.return_, 1) := by decide +kernel
theorem d_C_findPartners_0 : decode b_C_findPartners 0 = .ok (.iconst 0, 1) := by decide +kernel
theorem d_C_findPartners_1 : decode b_C_findPartners 1 = .ok (.istore 4, 2) := by decide +kernel
theorem d_C_findPartners_3 : decode b_C_findPartners 3 = .ok (.iload 4, 2) := by decide +kernel
theorem d_C_findPartners_5 : decode b_C_findPartners 5 = .ok (.aload_n 1, 1) := by decide +kernel
theorem d_C_findPartners_6 : decode b_C_findPartners 6 = .ok (.getfield 83, 3) := by decide +kernel
theorem d_C_findPartners_9 : decode b_C_findPartners 9 = .ok (.if_icmp .ge 73, 3) := by decide +kernel
theorem d_C_findPartners_12 : decode b_C_findPartners 12 = .ok (.aload_n 1, 1) := by decide +kernel
theorem d_C_findPartners_13 : decode b_C_findPartners 13 = .ok (.getfield 86, 3) := by decide +kernel
theorem d_C_findPartners_16 : decode b_C_findPartners 16 = .ok (.iload 4, 2) := by decide +kernel
theorem d_C_findPartners_18 : decode b_C_findPartners 18 = .ok (.aaload, 1) := by decide +kernel
theorem d_C_findPartners_19 : decode b_C_findPartners 19 = .ok (.astore 5, 2) := by decide +kernel
theorem d_C_findPartners_21 : decode b_C_findPartners 21 = .ok (.aload_n 2, 1) := by decide +kernel
theorem d_C_findPartners_22 : decode b_C_findPartners 22 = .ok (.iload_n 3, 1) := by decide +kernel
theorem d_C_findPartners_23 : decode b_C_findPartners 23 = .ok (.aload 5, 2) := by decide +kernel
theorem d_C_findPartners_25 : decode b_C_findPartners 25 = .ok (.getfield 96, 3) := by decide +kernel
theorem d_C_findPartners_28 : decode b_C_findPartners 28 = .ok (.aload 5, 2) := by decide +kernel
theorem d_C_findPartners_30 : decode b_C_findPartners 30 = .ok (.getfield 97, 3) := by decide +kernel
theorem d_C_findPartners_33 : decode b_C_findPartners 33 = .ok (.invokevirtual 108, 3) := by decide +kernel
theorem d_C_findPartners_36 : decode b_C_findPartners 36 = .ok (.istore 6, 2) := by decide +kernel
theorem d_C_findPartners_38 : decode b_C_findPartners 38 = .ok (.aload_n 0, 1) := by decide +kernel
theorem d_C_findPartners_39 : decode b_C_findPartners 39 = .ok (.getfield 23, 3) := by decide +kernel
theorem d_C_findPartners_42 : decode b_C_findPartners 42 = .ok (.iload 4, 2) := by decide +kernel
theorem d_C_findPartners_44 : decode b_C_findPartners 44 = .ok (.iload 6, 2) := by decide +kernel
theorem d_C_findPartners_46 : decode b_C_findPartners 46 = .ok (.bipush 12, 2) := by decide +kernel
theorem d_C_findPartners_48 : decode b_C_findPartners 48 = .ok (.if_icmp .ne 7, 3) := by decide +kernel
theorem d_C_findPartners_51 : decode b_C_findPartners 51 = .ok (.aconst_null, 1) := by decide +kernel
theorem d_C_findPartners_52 : decode b_C_findPartners 52 = .ok (.goto 23, 3) := by decide +kernel
theorem d_C_findPartners_55 : decode b_C_findPartners 55 = .ok (.aload_n 2, 1) := by decide +kernel
theorem d_C_findPartners_56 : decode b_C_findPartners 56 = .ok (.getfield 35, 3) := by decide +kernel
theorem d_C_findPartners_59 : decode b_C_findPartners 59 = .ok (.iload 6, 2) := by decide +kernel
theorem d_C_findPartners_61 : decode b_C_findPartners 61 = .ok (.aaload, 1) := by decide +kernel
theorem d_C_findPartners_62 : decode b_C_findPartners 62 = .ok (.aload 5, 2) := by decide +kernel
theorem d_C_findPartners_64 : decode b_C_findPartners 64 = .ok (.getfield 96, 3) := by decide +kernel
theorem d_C_findPartners_67 : decode b_C_findPartners 67 = .ok (.aload 5, 2) := by decide +kernel
theorem d_C_findPartners_69 : decode b_C_findPartners 69 = .ok (.getfield 97, 3) := by decide +kernel
theorem d_C_findPartners_72 : decode b_C_findPartners 72 = .ok (.invokevirtual 100, 3) := by decide +kernel
theorem d_C_findPartners_75 : decode b_C_findPartners 75 = .ok (.aastore, 1) := by decide +kernel
theorem d_C_findPartners_76 : decode b_C_findPartners 76 = .ok (.iinc 4 1, 3) := by decide +kernel
theorem d_C_findPartners_79 : decode b_C_findPartners 79 = .ok (.goto (-76), 3) := by decide +kernel
theorem d_C_findPartners_82 : decode b_C_findPartners 82 = .ok (.return_, 1) := by decide +kernel
theorem d_C_breaksAsOld_0 : decode b_C_breaksAsOld 0 = .ok (.aload_n 3, 1) := by decide +kernel
theorem d_C_breaksAsOld_1 : decode b_C_breaksAsOld 1 = .ok (.ifnonnull 14, 3) := by decide +kernel
theorem d_C_breaksAsOld_4 : decode b_C_breaksAsOld 4 = .ok (.iload_n 0, 1) := by decide +kernel
theorem d_C_breaksAsOld_5 : decode b_C_breaksAsOld 5 = .ok (.iconst 5, 1) := by decide +kernel
theorem d_C_breaksAsOld_6 : decode b_C_breaksAsOld 6 = .ok (.if_icmp .ne 7, 3) := by decide +kernel
theorem d_C_breaksAsOld_9 : decode b_C_breaksAsOld 9 = .ok (.iconst 1, 1) := by decide +kernel
theorem d_C_breaksAsOld_10 : decode b_C_breaksAsOld 10 = .ok (.goto 4, 3) := by decide +kernel
theorem d_C_breaksAsOld_13 : decode b_C_breaksAsOld 13 = .ok (.iconst 0, 1) := by decide +kernel
theorem d_C_breaksAsOld_14 : decode b_C_breaksAsOld 14 = .ok (.ireturn, 1) := by decide +kernel
theorem d_C_breaksAsOld_15 : decode b_C_breaksAsOld 15 = .ok (.iload_n 0, 1) := by decide +kernel
theorem d_C_breaksAsOld_16 : decode b_C_breaksAsOld 16 = .ok (.tableswitch 200 6 11 #[40, 57, 76, 107, 128, 160], 40) := by decide +kernel
theorem d_C_breaksAsOld_56 : decode b_C_breaksAsOld 56 = .ok (.aload_n 3, 1) := by decide +kernel
theorem d_C_breaksAsOld_57 : decode b_C_breaksAsOld 57 = .ok (.invokevirtual 112, 3) := by decide +kernel
theorem d_C_breaksAsOld_60 : decode b_C_breaksAsOld 60 = .ok (.aload_n 2, 1) := by decide +kernel
theorem d_C_breaksAsOld_61 : decode b_C_breaksAsOld 61 = .ok (.invokevirtual 112, 3) := by decide +kernel
theorem d_C_breaksAsOld_64 : decode b_C_breaksAsOld 64 = .ok (.if_icmp .ge 7, 3) := by decide +kernel
theorem d_C_breaksAsOld_67 : decode b_C_breaksAsOld 67 = .ok (.iconst 1, 1) := by decide +kernel
theorem d_C_breaksAsOld_68 : decode b_C_breaksAsOld 68 = .ok (.goto 4, 3) := by decide +kernel
theorem d_C_breaksAsOld_71 : decode b_C_breaksAsOld 71 = .ok (.iconst 0, 1) := by decide +kernel
theorem d_C_breaksAsOld_72 : decode b_C_breaksAsOld 72 = .ok (.ireturn, 1) := by decide +kernel
theorem d_C_breaksAsOld_73 : decode b_C_breaksAsOld 73 = .ok (.aload_n 2, 1) := by decide +kernel
theorem d_C_breaksAsOld_74 : decode b_C_breaksAsOld 74 = .ok (.iconst 4, 1) := by decide +kernel
theorem d_C_breaksAsOld_75 : decode b_C_breaksAsOld 75 = .ok (.invokevirtual 116, 3) := by decide +kernel
theorem d_C_breaksAsOld_78 : decode b_C_breaksAsOld 78 = .ok (.aload_n 3, 1) := by decide +kernel
theorem d_C_breaksAsOld_79 : decode b_C_breaksAsOld 79 = .ok (.iconst 4, 1) := by decide +kernel
theorem d_C_breaksAsOld_80 : decode b_C_breaksAsOld 80 = .ok (.invokevirtual 116, 3) := by decide +kernel
theorem d_C_breaksAsOld_83 : decode b_C_breaksAsOld 83 = .ok (.if_icmp .eq 7, 3) := by decide +kernel
theorem d_C_breaksAsOld_86 : decode b_C_breaksAsOld 86 = .ok (.iconst 1, 1) := by decide +kernel
theorem d_C_breaksAsOld_87 : decode b_C_breaksAsOld 87 = .ok (.goto 4, 3) := by decide +kernel
theorem d_C_breaksAsOld_90 : decode b_C_breaksAsOld 90 = .ok (.iconst 0, 1) := by decide +kernel
theorem d_C_breaksAsOld_91 : decode b_C_breaksAsOld 91 = .ok (.ireturn, 1) := by decide +kernel
theorem d_C_breaksAsOld_92 : decode b_C_breaksAsOld 92 = .ok (.aload_n 2, 1) := by decide +kernel
theorem d_C_breaksAsOld_93 : decode b_C_breaksAsOld 93 = .ok (.getfield 96, 3) := by decide +kernel
theorem d_C_breaksAsOld_96 : decode b_C_breaksAsOld 96 = .ok (.ifCond .ne 25, 3) := by decide +kernel
theorem d_C_breaksAsOld_99 : decode b_C_breaksAsOld 99 = .ok (.aload_n 2, 1) := by decide +kernel
theorem d_C_breaksAsOld_100 : decode b_C_breaksAsOld 100 = .ok (.bipush 8, 2) := by decide +kernel
theorem d_C_breaksAsOld_102 : decode b_C_breaksAsOld 102 = .ok (.invokevirtual 116, 3) := by decide +kernel
theorem d_C_breaksAsOld_105 : decode b_C_breaksAsOld 105 = .ok (.ifCond .ne 16, 3) := by decide +kernel
theorem d_C_breaksAsOld_108 : decode b_C_breaksAsOld 108 = .ok (.aload_n 3, 1) := by decide +kernel
theorem d_C_breaksAsOld_109 : decode b_C_breaksAsOld 109 = .ok (.bipush 8, 2) := by decide +kernel
theorem d_C_breaksAsOld_111 : decode b_C_breaksAsOld 111 = .ok (.invokevirtual 116, 3) := by decide +kernel
theorem d_C_breaksAsOld_114 : decode b_C_breaksAsOld 114 = .ok (.ifCond .eq 7, 3) := by decide +kernel
theorem d_C_breaksAsOld_117 : decode b_C_breaksAsOld 117 = .ok (.iconst 1, 1) := by decide +kernel
theorem d_C_breaksAsOld_118 : decode b_C_breaksAsOld 118 = .ok (.goto 4, 3) := by decide +kernel
theorem d_C_breaksAsOld_121 : decode b_C_breaksAsOld 121 = .ok (.iconst 0, 1) := by decide +kernel
theorem d_C_breaksAsOld_122 : decode b_C_breaksAsOld 122 = .ok (.ireturn, 1) := by decide +kernel
theorem d_C_breaksAsOld_123 : decode b_C_breaksAsOld 123 = .ok (.aload_n 2, 1) := by decide +kernel
theorem d_C_breaksAsOld_124 : decode b_C_breaksAsOld 124 = .ok (.getfield 117, 3) := by decide +kernel
theorem d_C_breaksAsOld_127 : decode b_C_breaksAsOld 127 = .ok (.ifCond .eq 15, 3) := by decide +kernel
theorem d_C_breaksAsOld_130 : decode b_C_breaksAsOld 130 = .ok (.aload_n 2, 1) := by decide +kernel
theorem d_C_breaksAsOld_131 : decode b_C_breaksAsOld 131 = .ok (.aload_n 3, 1) := by decide +kernel
theorem d_C_breaksAsOld_132 : decode b_C_breaksAsOld 132 = .ok (.invokevirtual 120, 3) := by decide +kernel
theorem d_C_breaksAsOld_135 : decode b_C_breaksAsOld 135 = .ok (.ifCond .ne 7, 3) := by decide +kernel
theorem d_C_breaksAsOld_138 : decode b_C_breaksAsOld 138 = .ok (.iconst 1, 1) := by decide +kernel
theorem d_C_breaksAsOld_139 : decode b_C_breaksAsOld 139 = .ok (.goto 4, 3) := by decide +kernel
theorem d_C_breaksAsOld_142 : decode b_C_breaksAsOld 142 = .ok (.iconst 0, 1) := by decide +kernel
theorem d_C_breaksAsOld_143 : decode b_C_breaksAsOld 143 = .ok (.ireturn, 1) := by decide +kernel
theorem d_C_breaksAsOld_144 : decode b_C_breaksAsOld 144 = .ok (.aload_n 2, 1) := by decide +kernel
theorem d_C_breaksAsOld_145 : decode b_C_breaksAsOld 145 = .ok (.getfield 96, 3) := by decide +kernel
theorem d_C_breaksAsOld_148 : decode b_C_breaksAsOld 148 = .ok (.iconst 1, 1) := by decide +kernel
theorem d_C_breaksAsOld_149 : decode b_C_breaksAsOld 149 = .ok (.if_icmp .ne 25, 3) := by decide +kernel
theorem d_C_breaksAsOld_152 : decode b_C_breaksAsOld 152 = .ok (.aload_n 2, 1) := by decide +kernel
theorem d_C_breaksAsOld_153 : decode b_C_breaksAsOld 153 = .ok (.bipush 16, 2) := by decide +kernel
theorem d_C_breaksAsOld_155 : decode b_C_breaksAsOld 155 = .ok (.invokevirtual 116, 3) := by decide +kernel
theorem d_C_breaksAsOld_158 : decode b_C_breaksAsOld 158 = .ok (.ifCond .ne 16, 3) := by decide +kernel
theorem d_C_breaksAsOld_161 : decode b_C_breaksAsOld 161 = .ok (.aload_n 3, 1) := by decide +kernel
theorem d_C_breaksAsOld_162 : decode b_C_breaksAsOld 162 = .ok (.bipush 16, 2) := by decide +kernel
theorem d_C_breaksAsOld_164 : decode b_C_breaksAsOld 164 = .ok (.invokevirtual 116, 3) := by decide +kernel
theorem d_C_breaksAsOld_167 : decode b_C_breaksAsOld 167 = .ok (.ifCond .eq 7, 3) := by decide +kernel
theorem d_C_breaksAsOld_170 : decode b_C_breaksAsOld 170 = .ok (.iconst 1, 1) := by decide +kernel
theorem d_C_breaksAsOld_171 : decode b_C_breaksAsOld 171 = .ok (.goto 4, 3) := by decide +kernel
theorem d_C_breaksAsOld_174 : decode b_C_breaksAsOld 174 = .ok (.iconst 0, 1) := by decide +kernel
theorem d_C_breaksAsOld_175 : decode b_C_breaksAsOld 175 = .ok (.ireturn, 1) := by decide +kernel
theorem d_C_breaksAsOld_176 : decode b_C_breaksAsOld 176 = .ok (.aload_n 2, 1) := by decide +kernel
theorem d_C_breaksAsOld_177 : decode b_C_breaksAsOld 177 = .ok (.getfield 96, 3) := by decide +kernel
theorem d_C_breaksAsOld_180 : decode b_C_breaksAsOld 180 = .ok (.iconst 1, 1) := by decide +kernel
theorem d_C_breaksAsOld_181 : decode b_C_breaksAsOld 181 = .ok (.if_icmp .ne 33, 3) := by decide +kernel
theorem d_C_breaksAsOld_184 : decode b_C_breaksAsOld 184 = .ok (.aload_n 2, 1) := by decide +kernel
theorem d_C_breaksAsOld_185 : decode b_C_breaksAsOld 185 = .ok (.bipush 12, 2) := by decide +kernel
theorem d_C_breaksAsOld_187 : decode b_C_breaksAsOld 187 = .ok (.invokevirtual 116, 3) := by decide +kernel
theorem d_C_breaksAsOld_190 : decode b_C_breaksAsOld 190 = .ok (.ifCond .ne 24, 3) := by decide +kernel
theorem d_C_breaksAsOld_193 : decode b_C_breaksAsOld 193 = .ok (.aload_n 1, 1) := by decide +kernel
theorem d_C_breaksAsOld_194 : decode b_C_breaksAsOld 194 = .ok (.iconst 4, 1) := by decide +kernel
theorem d_C_breaksAsOld_195 : decode b_C_breaksAsOld 195 = .ok (.invokevirtual 72, 3) := by decide +kernel
theorem d_C_breaksAsOld_198 : decode b_C_breaksAsOld 198 = .ok (.ifCond .ne 16, 3) := by decide +kernel
theorem d_C_breaksAsOld_201 : decode b_C_breaksAsOld 201 = .ok (.aload_n 3, 1) := by decide +kernel
theorem d_C_breaksAsOld_202 : decode b_C_breaksAsOld 202 = .ok (.bipush 8, 2) := by decide +kernel
theorem d_C_breaksAsOld_204 : decode b_C_breaksAsOld 204 = .ok (.invokevirtual 116, 3) := by decide +kernel
theorem d_C_breaksAsOld_207 : decode b_C_breaksAsOld 207 = .ok (.ifCond .eq 7, 3) := by decide +kernel
theorem d_C_breaksAsOld_210 : decode b_C_breaksAsOld 210 = .ok (.iconst 1, 1) := by decide +kernel
theorem d_C_breaksAsOld_211 : decode b_C_breaksAsOld 211 = .ok (.goto 4, 3) := by decide +kernel
theorem d_C_breaksAsOld_214 : decode b_C_breaksAsOld 214 = .ok (.iconst 0, 1) := by decide +kernel
theorem d_C_breaksAsOld_215 : decode b_C_breaksAsOld 215 = .ok (.ireturn, 1) := by decide +kernel
theorem d_C_breaksAsOld_216 : decode b_C_breaksAsOld 216 = .ok (.iconst 0, 1) := by decide +kernel
theorem d_C_breaksAsOld_217 : decode b_C_breaksAsOld 217 = .ok (.ireturn, 1) := by decide +kernel
theorem d_C_breaksAsNew_0 : decode b_C_breaksAsNew 0 = .ok (.iload_n 0, 1) := by decide +kernel
theorem d_C_breaksAsNew_1 : decode b_C_breaksAsNew 1 = .ok (.bipush 13, 2) := by decide +kernel
theorem d_C_breaksAsNew_3 : decode b_C_breaksAsNew 3 = .ok (.if_icmp .ne 30, 3) := by decide +kernel
theorem d_C_breaksAsNew_6 : decode b_C_breaksAsNew 6 = .ok (.aload_n 1, 1) := by decide +kernel
theorem d_C_breaksAsNew_7 : decode b_C_breaksAsNew 7 = .ok (.getfield 96, 3) := by decide +kernel
theorem d_C_breaksAsNew_10 : decode b_C_breaksAsNew 10 = .ok (.iconst 1, 1) := by decide +kernel
theorem d_C_breaksAsNew_11 : decode b_C_breaksAsNew 11 = .ok (.if_icmp .ne 20, 3) := by decide +kernel
theorem d_C_breaksAsNew_14 : decode b_C_breaksAsNew 14 = .ok (.aload_n 1, 1) := by decide +kernel
theorem d_C_breaksAsNew_15 : decode b_C_breaksAsNew 15 = .ok (.bipush 16, 2) := by decide +kernel
theorem d_C_breaksAsNew_17 : decode b_C_breaksAsNew 17 = .ok (.invokevirtual 116, 3) := by decide +kernel
theorem d_C_breaksAsNew_20 : decode b_C_breaksAsNew 20 = .ok (.ifCond .eq 11, 3) := by decide +kernel
theorem d_C_breaksAsNew_23 : decode b_C_breaksAsNew 23 = .ok (.aload_n 2, 1) := by decide +kernel
theorem d_C_breaksAsNew_24 : decode b_C_breaksAsNew 24 = .ok (.ifnonnull 7, 3) := by decide +kernel
theorem d_C_breaksAsNew_27 : decode b_C_breaksAsNew 27 = .ok (.iconst 1, 1) := by decide +kernel
theorem d_C_breaksAsNew_28 : decode b_C_breaksAsNew 28 = .ok (.goto 4, 3) := by decide +kernel
theorem d_C_breaksAsNew_31 : decode b_C_breaksAsNew 31 = .ok (.iconst 0, 1) := by decide +kernel
theorem d_C_breaksAsNew_32 : decode b_C_breaksAsNew 32 = .ok (.ireturn, 1) := by decide +kernel
theorem d_C_breaksAsNew_33 : decode b_C_breaksAsNew 33 = .ok (.aload_n 1, 1) := by decide +kernel
theorem d_C_breaksAsNew_34 : decode b_C_breaksAsNew 34 = .ok (.getfield 96, 3) := by decide +kernel
theorem d_C_breaksAsNew_37 : decode b_C_breaksAsNew 37 = .ok (.iconst 2, 1) := by decide +kernel
theorem d_C_breaksAsNew_38 : decode b_C_breaksAsNew 38 = .ok (.if_icmp .eq 42, 3) := by decide +kernel
theorem d_C_breaksAsNew_41 : decode b_C_breaksAsNew 41 = .ok (.aload_n 2, 1) := by decide +kernel
theorem d_C_breaksAsNew_42 : decode b_C_breaksAsNew 42 = .ok (.ifnull 38, 3) := by decide +kernel
theorem d_C_breaksAsNew_45 : decode b_C_breaksAsNew 45 = .ok (.aload_n 2, 1) := by decide +kernel
theorem d_C_breaksAsNew_46 : decode b_C_breaksAsNew 46 = .ok (.invokevirtual 89, 3) := by decide +kernel
theorem d_C_breaksAsNew_49 : decode b_C_breaksAsNew 49 = .ok (.ifCond .eq 31, 3) := by decide +kernel
theorem d_C_breaksAsNew_52 : decode b_C_breaksAsNew 52 = .ok (.aload_n 1, 1) := by decide +kernel
theorem d_C_breaksAsNew_53 : decode b_C_breaksAsNew 53 = .ok (.invokevirtual 112, 3) := by decide +kernel
theorem d_C_breaksAsNew_56 : decode b_C_breaksAsNew 56 = .ok (.aload_n 2, 1) := by decide +kernel
theorem d_C_breaksAsNew_57 : decode b_C_breaksAsNew 57 = .ok (.invokevirtual 112, 3) := by decide +kernel
theorem d_C_breaksAsNew_60 : decode b_C_breaksAsNew 60 = .ok (.if_icmp .lt 16, 3) := by decide +kernel
theorem d_C_breaksAsNew_63 : decode b_C_breaksAsNew 63 = .ok (.aload_n 1, 1) := by decide +kernel
theorem d_C_breaksAsNew_64 : decode b_C_breaksAsNew 64 = .ok (.iconst 4, 1) := by decide +kernel
theorem d_C_breaksAsNew_65 : decode b_C_breaksAsNew 65 = .ok (.invokevirtual 116, 3) := by decide +kernel
theorem d_C_breaksAsNew_68 : decode b_C_breaksAsNew 68 = .ok (.aload_n 2, 1) := by decide +kernel
theorem d_C_breaksAsNew_69 : decode b_C_breaksAsNew 69 = .ok (.iconst 4, 1) := by decide +kernel
theorem d_C_breaksAsNew_70 : decode b_C_breaksAsNew 70 = .ok (.invokevirtual 116, 3) := by decide +kernel
theorem d_C_breaksAsNew_73 : decode b_C_breaksAsNew 73 = .ok (.if_icmp .eq 7, 3) := by decide +kernel
theorem d_C_breaksAsNew_76 : decode b_C_breaksAsNew 76 = .ok (.iconst 1, 1) := by decide +kernel
theorem d_C_breaksAsNew_77 : decode b_C_breaksAsNew 77 = .ok (.goto 4, 3) := by decide +kernel
theorem d_C_breaksAsNew_80 : decode b_C_breaksAsNew 80 = .ok (.iconst 0, 1) := by decide +kernel
theorem d_C_breaksAsNew_81 : decode b_C_breaksAsNew 81 = .ok (.ireturn, 1) := by decide +kernel
theorem d_M_init_0 : decode b_M_init 0 = .ok (.aload_n 0, 1) := by decide +kernel
theorem d_M_init_1 : decode b_M_init 1 = .ok (.invokespecial 3, 3) := by decide +kernel
theorem d_M_init_4 : decode b_M_init 4 = .ok (.return_, 1) := by decide +kernel
theorem d_M_define_0 : decode b_M_define 0 = .ok (.aload_n 0, 1) := by decide +kernel
theorem d_M_define_1 : decode b_M_define 1 = .ok (.iload_n 1, 1) := by decide +kernel
theorem d_M_define_2 : decode b_M_define 2 = .ok (.putfield 9, 3) := by decide +kernel
theorem d_M_define_5 : decode b_M_define 5 = .ok (.aload_n 0, 1) := by decide +kernel
theorem d_M_define_6 : decode b_M_define 6 = .ok (.iload_n 2, 1) := by decide +kernel
theorem d_M_define_7 : decode b_M_define 7 = .ok (.putfield 15, 3) := by decide +kernel
theorem d_M_define_10 : decode b_M_define 10 = .ok (.aload_n 0, 1) := by decide +kernel
theorem d_M_define_11 : decode b_M_define 11 = .ok (.iload_n 3, 1) := by decide +kernel
theorem d_M_define_12 : decode b_M_define 12 = .ok (.putfield 18, 3) := by decide +kernel
theorem d_M_define_15 : decode b_M_define 15 = .ok (.aload_n 0, 1) := by decide +kernel
theorem d_M_define_16 : decode b_M_define 16 = .ok (.iconst 0, 1) := by decide +kernel
theorem d_M_define_17 : decode b_M_define 17 = .ok (.putfield 21, 3) := by decide +kernel
theorem d_M_define_20 : decode b_M_define 20 = .ok (.aload_n 0, 1) := by decide +kernel
theorem d_M_define_21 : decode b_M_define 21 = .ok (.iconst 0, 1) := by decide +kernel
theorem d_M_define_22 : decode b_M_define 22 = .ok (.putfield 25, 3) := by decide +kernel
theorem d_M_define_25 : decode b_M_define 25 = .ok (.return_, 1) := by decide +kernel
theorem d_M_become_0 : decode b_M_become 0 = .ok (.aload_n 0, 1) := by decide +kernel
theorem d_M_become_1 : decode b_M_become 1 = .ok (.aload_n 1, 1) := by decide +kernel
theorem d_M_become_2 : decode b_M_become 2 = .ok (.getfield 9, 3) := by decide +kernel
theorem d_M_become_5 : decode b_M_become 5 = .ok (.putfield 9, 3) := by decide +kernel
theorem d_M_become_8 : decode b_M_become 8 = .ok (.aload_n 0, 1) := by decide +kernel
theorem d_M_become_9 : decode b_M_become 9 = .ok (.aload_n 1, 1) := by decide +kernel
theorem d_M_become_10 : decode b_M_become 10 = .ok (.getfield 15, 3) := by decide +kernel
theorem d_M_become_13 : decode b_M_become 13 = .ok (.putfield 15, 3) := by decide +kernel
theorem d_M_become_16 : decode b_M_become 16 = .ok (.aload_n 0, 1) := by decide +kernel
theorem d_M_become_17 : decode b_M_become 17 = .ok (.aload_n 1, 1) := by decide +kernel
theorem d_M_become_18 : decode b_M_become 18 = .ok (.getfield 18, 3) := by decide +kernel
theorem d_M_become_21 : decode b_M_become 21 = .ok (.putfield 18, 3) := by decide +kernel
theorem d_M_become_24 : decode b_M_become 24 = .ok (.aload_n 0, 1) := by decide +kernel
theorem d_M_become_25 : decode b_M_become 25 = .ok (.aload_n 1, 1) := by decide +kernel
theorem d_M_become_26 : decode b_M_become 26 = .ok (.getfield 21, 3) := by decide +kernel
theorem d_M_become_29 : decode b_M_become 29 = .ok (.putfield 21, 3) := by decide +kernel
theorem d_M_become_32 : decode b_M_become 32 = .ok (.aload_n 0, 1) := by decide +kernel
theorem d_M_become_33 : decode b_M_become 33 = .ok (.aload_n 1, 1) := by decide +kernel
theorem d_M_become_34 : decode b_M_become 34 = .ok (.getfield 25, 3) := by decide +kernel
theorem d_M_become_37 : decode b_M_become 37 = .ok (.putfield 25, 3) := by decide +kernel
theorem d_M_become_40 : decode b_M_become 40 = .ok (.return_, 1) := by decide +kernel
theorem d_M_hasAny_0 : decode b_M_hasAny 0 = .ok (.aload_n 0, 1) := by decide +kernel
theorem d_M_hasAny_1 : decode b_M_hasAny 1 = .ok (.getfield 18, 3) := by decide +kernel
theorem d_M_hasAny_4 : decode b_M_hasAny 4 = .ok (.iload_n 1, 1) := by decide +kernel
theorem d_M_hasAny_5 : decode b_M_hasAny 5 = .ok (.iand, 1) := by decide +kernel
theorem d_M_hasAny_6 : decode b_M_hasAny 6 = .ok (.ifCond .eq 7, 3) := by decide +kernel
theorem d_M_hasAny_9 : decode b_M_hasAny 9 = .ok (.iconst 1, 1) := by decide +kernel
theorem d_M_hasAny_10 : decode b_M_hasAny 10 = .ok (.goto 4, 3) := by decide +kernel
theorem d_M_hasAny_13 : decode b_M_hasAny 13 = .ok (.iconst 0, 1) := by decide +kernel
theorem d_M_hasAny_14 : decode b_M_hasAny 14 = .ok (.ireturn, 1) := by decide +kernel
theorem d_M_access_0 : decode b_M_access 0 = .ok (.aload_n 0, 1) := by decide +kernel
theorem d_M_access_1 : decode b_M_access 1 = .ok (.getfield 18, 3) := by decide +kernel
theorem d_M_access_4 : decode b_M_access 4 = .ok (.iconst 3, 1) := by decide +kernel
theorem d_M_access_5 : decode b_M_access 5 = .ok (.iand, 1) := by decide +kernel
theorem d_M_access_6 : decode b_M_access 6 = .ok (.ireturn, 1) := by decide +kernel
theorem d_M_isOpen_0 : decode b_M_isOpen 0 = .ok (.aload_n 0, 1) := by decide +kernel
theorem d_M_isOpen_1 : decode b_M_isOpen 1 = .ok (.invokevirtual 28, 3) := by decide +kernel
theorem d_M_isOpen_4 : decode b_M_isOpen 4 = .ok (.iconst 2, 1) := by decide +kernel
theorem d_M_isOpen_5 : decode b_M_isOpen 5 = .ok (.if_icmp .lt 7, 3) := by decide +kernel
theorem d_M_isOpen_8 : decode b_M_isOpen 8 = .ok (.iconst 1, 1) := by decide +kernel
theorem d_M_isOpen_9 : decode b_M_isOpen 9 = .ok (.goto 4, 3) := by decide +kernel
theorem d_M_isOpen_12 : decode b_M_isOpen 12 = .ok (.iconst 0, 1) := by decide +kernel
theorem d_M_isOpen_13 : decode b_M_isOpen 13 = .ok (.ireturn, 1) := by decide +kernel
theorem d_M_hasConstantOf_0 : decode b_M_hasConstantOf 0 = .ok (.aload_n 0, 1) := by decide +kernel
theorem d_M_hasConstantOf_1 : decode b_M_hasConstantOf 1 = .ok (.getfield 21, 3) := by decide +kernel
theorem d_M_hasConstantOf_4 : decode b_M_hasConstantOf 4 = .ok (.ifCond .eq 25, 3) := by decide +kernel
theorem d_M_hasConstantOf_7 : decode b_M_hasConstantOf 7 = .ok (.aload_n 1, 1) := by decide +kernel
theorem d_M_hasConstantOf_8 : decode b_M_hasConstantOf 8 = .ok (.getfield 21, 3) := by decide +kernel
theorem d_M_hasConstantOf_11 : decode b_M_hasConstantOf 11 = .ok (.ifCond .eq 18, 3) := by decide +kernel
theorem d_M_hasConstantOf_14 : decode b_M_hasConstantOf 14 = .ok (.aload_n 0, 1) := by decide +kernel
theorem d_M_hasConstantOf_15 : decode b_M_hasConstantOf 15 = .ok (.getfield 25, 3) := by decide +kernel
theorem d_M_hasConstantOf_18 : decode b_M_hasConstantOf 18 = .ok (.aload_n 1, 1) := by decide +kernel
theorem d_M_hasConstantOf_19 : decode b_M_hasConstantOf 19 = .ok (.getfield 25, 3) := by decide +kernel
theorem d_M_hasConstantOf_22 : decode b_M_hasConstantOf 22 = .ok (.if_icmp .ne 7, 3) := by decide +kernel
theorem d_M_hasConstantOf_25 : decode b_M_hasConstantOf 25 = .ok (.iconst 1, 1) := by decide +kernel
theorem d_M_hasConstantOf_26 : decode b_M_hasConstantOf 26 = .ok (.goto 4, 3) := by decide +kernel
theorem d_M_hasConstantOf_29 : decode b_M_hasConstantOf 29 = .ok (.iconst 0, 1) := by decide +kernel
theorem d_M_hasConstantOf_30 : decode b_M_hasConstantOf 30 = .ok (.ireturn, 1) := by decide +kernel
theorem d_T_init_0 : decode b_T_init 0 = .ok (.aload_n 0, 1) := by decide +kernel
theorem d_T_init_1 : decode b_T_init 1 = .ok (.invokespecial 3, 3) := by decide +kernel
theorem d_T_init_4 : decode b_T_init 4 = .ok (.aload_n 0, 1) := by decide +kernel
theorem d_T_init_5 : decode b_T_init 5 = .ok (.iconst 3, 1) := by decide +kernel
theorem d_T_init_6 : decode b_T_init 6 = .ok (.newarray .int, 2) := by decide +kernel
theorem d_T_init_8 : decode b_T_init 8 = .ok (.putfield 9, 3) := by decide +kernel
theorem d_T_init_11 : decode b_T_init 11 = .ok (.aload_n 0, 1) := by decide +kernel
theorem d_T_init_12 : decode b_T_init 12 = .ok (.bipush 8, 2) := by decide +kernel
theorem d_T_init_14 : decode b_T_init 14 = .ok (.anewarray 15, 3) := by decide +kernel
theorem d_T_init_17 : decode b_T_init 17 = .ok (.putfield 17, 3) := by decide +kernel
theorem d_T_init_20 : decode b_T_init 20 = .ok (.iconst 0, 1) := by decide +kernel
theorem d_T_init_21 : decode b_T_init 21 = .ok (.istore_n 1, 1) := by decide +kernel
theorem d_T_init_22 : decode b_T_init 22 = .ok (.iload_n 1, 1) := by decide +kernel
theorem d_T_init_23 : decode b_T_init 23 = .ok (.bipush 8, 2) := by decide +kernel
theorem d_T_init_25 : decode b_T_init 25 = .ok (.if_icmp .ge 22, 3) := by decide +kernel
theorem d_T_init_28 : decode b_T_init 28 = .ok (.aload_n 0, 1) := by decide +kernel
theorem d_T_init_29 : decode b_T_init 29 = .ok (.getfield 17, 3) := by decide +kernel
theorem d_T_init_32 : decode b_T_init 32 = .ok (.iload_n 1, 1) := by decide +kernel
theorem d_T_init_33 : decode b_T_init 33 = .ok (.new 15, 3) := by decide +kernel
theorem d_T_init_36 : decode b_T_init 36 = .ok (.dup, 1) := by decide +kernel
theorem d_T_init_37 : decode b_T_init 37 = .ok (.invokespecial 21, 3) := by decide +kernel
theorem d_T_init_40 : decode b_T_init 40 = .ok (.aastore, 1) := by decide +kernel
theorem d_T_init_41 : decode b_T_init 41 = .ok (.iinc 1 1, 3) := by decide +kernel
theorem d_T_init_44 : decode b_T_init 44 = .ok (.goto (-22), 3) := by decide +kernel
theorem d_T_init_47 : decode b_T_init 47 = .ok (.aload_n 0, 1) := by decide +kernel
theorem d_T_init_48 : decode b_T_init 48 = .ok (.iconst (-1), 1) := by decide +kernel
theorem d_T_init_49 : decode b_T_init 49 = .ok (.putfield 22, 3) := by decide +kernel
theorem d_T_init_52 : decode b_T_init 52 = .ok (.aload_n 0, 1) := by decide +kernel
theorem d_T_init_53 : decode b_T_init 53 = .ok (.iconst (-1), 1) := by decide +kernel
theorem d_T_init_54 : decode b_T_init 54 = .ok (.putfield 26, 3) := by decide +kernel
theorem d_T_init_57 : decode b_T_init 57 = .ok (.return_, 1) := by decide +kernel
theorem d_T_define_0 : decode b_T_define 0 = .ok (.aload_n 0, 1) := by decide +kernel
theorem d_T_define_1 : decode b_T_define 1 = .ok (.iconst 1, 1) := by decide +kernel
theorem d_T_define_2 : decode b_T_define 2 = .ok (.putfield 29, 3) := by decide +kernel
theorem d_T_define_5 : decode b_T_define 5 = .ok (.aload_n 0, 1) := by decide +kernel
theorem d_T_define_6 : decode b_T_define 6 = .ok (.iload_n 1, 1) := by decide +kernel
theorem d_T_define_7 : decode b_T_define 7 = .ok (.putfield 33, 3) := by decide +kernel
theorem d_T_define_10 : decode b_T_define 10 = .ok (.aload_n 0, 1) := by decide +kernel
theorem d_T_define_11 : decode b_T_define 11 = .ok (.iload_n 2, 1) := by decide +kernel
theorem d_T_define_12 : decode b_T_define 12 = .ok (.putfield 36, 3) := by decide +kernel
theorem d_T_define_15 : decode b_T_define 15 = .ok (.aload_n 0, 1) := by decide +kernel
theorem d_T_define_16 : decode b_T_define 16 = .ok (.iload_n 3, 1) := by decide +kernel
theorem d_T_define_17 : decode b_T_define 17 = .ok (.putfield 22, 3) := by decide +kernel
theorem d_T_define_20 : decode b_T_define 20 = .ok (.return_, 1) := by decide +kernel
theorem d_T_clear_0 : decode b_T_clear 0 = .ok (.aload_n 0, 1) := by decide +kernel
theorem d_T_clear_1 : decode b_T_clear 1 = .ok (.iconst 0, 1) := by decide +kernel
theorem d_T_clear_2 : decode b_T_clear 2 = .ok (.putfield 29, 3) := by decide +kernel
theorem d_T_clear_5 : decode b_T_clear 5 = .ok (.aload_n 0, 1) := by decide +kernel
theorem d_T_clear_6 : decode b_T_clear 6 = .ok (.iconst 0, 1) := by decide +kernel
theorem d_T_clear_7 : decode b_T_clear 7 = .ok (.putfield 33, 3) := by decide +kernel
theorem d_T_clear_10 : decode b_T_clear 10 = .ok (.aload_n 0, 1) := by decide +kernel
theorem d_T_clear_11 : decode b_T_clear 11 = .ok (.iconst 0, 1) := by decide +kernel
theorem d_T_clear_12 : decode b_T_clear 12 = .ok (.putfield 36, 3) := by decide +kernel
theorem d_T_clear_15 : decode b_T_clear 15 = .ok (.aload_n 0, 1) := by decide +kernel
theorem d_T_clear_16 : decode b_T_clear 16 = .ok (.iconst (-1), 1) := by decide +kernel
theorem d_T_clear_17 : decode b_T_clear 17 = .ok (.putfield 22, 3) := by decide +kernel
theorem d_T_clear_20 : decode b_T_clear 20 = .ok (.aload_n 0, 1) := by decide +kernel
theorem d_T_clear_21 : decode b_T_clear 21 = .ok (.iconst 0, 1) := by decide +kernel
theorem d_T_clear_22 : decode b_T_clear 22 = .ok (.putfield 39, 3) := by decide +kernel
theorem d_T_clear_25 : decode b_T_clear 25 = .ok (.aload_n 0, 1) := by decide +kernel
theorem d_T_clear_26 : decode b_T_clear 26 = .ok (.iconst 0, 1) := by decide +kernel
theorem d_T_clear_27 : decode b_T_clear 27 = .ok (.putfield 42, 3) := by decide +kernel
theorem d_T_clear_30 : decode b_T_clear 30 = .ok (.return_, 1) := by decide +kernel
theorem d_T_become_0 : decode b_T_become 0 = .ok (.aload_n 0, 1) := by decide +kernel
theorem d_T_become_1 : decode b_T_become 1 = .ok (.aload_n 1, 1) := by decide +kernel
theorem d_T_become_2 : decode b_T_become 2 = .ok (.getfield 29, 3) := by decide +kernel
theorem d_T_become_5 : decode b_T_become 5 = .ok (.putfield 29, 3) := by decide +kernel
theorem d_T_become_8 : decode b_T_become 8 = .ok (.aload_n 0, 1) := by decide +kernel
theorem d_T_become_9 : decode b_T_become 9 = .ok (.aload_n 1, 1) := by decide +kernel
theorem d_T_become_10 : decode b_T_become 10 = .ok (.getfield 33, 3) := by decide +kernel
theorem d_T_become_13 : decode b_T_become 13 = .ok (.putfield 33, 3) := by decide +kernel
theorem d_T_become_16 : decode b_T_become 16 = .ok (.aload_n 0, 1) := by decide +kernel
theorem d_T_become_17 : decode b_T_become 17 = .ok (.aload_n 1, 1) := by decide +kernel
theorem d_T_become_18 : decode b_T_become 18 = .ok (.getfield 36, 3) := by decide +kernel
theorem d_T_become_21 : decode b_T_become 21 = .ok (.putfield 36, 3) := by decide +kernel
theorem d_T_become_24 : decode b_T_become 24 = .ok (.aload_n 0, 1) := by decide +kernel
theorem d_T_become_25 : decode b_T_become 25 = .ok (.aload_n 1, 1) := by decide +kernel
theorem d_T_become_26 : decode b_T_become 26 = .ok (.getfield 22, 3) := by decide +kernel
theorem d_T_become_29 : decode b_T_become 29 = .ok (.putfield 22, 3) := by decide +kernel
theorem d_T_become_32 : decode b_T_become 32 = .ok (.aload_n 1, 1) := by decide +kernel
theorem d_T_become_33 : decode b_T_become 33 = .ok (.getfield 9, 3) := by decide +kernel
theorem d_T_become_36 : decode b_T_become 36 = .ok (.iconst 0, 1) := by decide +kernel
theorem d_T_become_37 : decode b_T_become 37 = .ok (.aload_n 0, 1) := by decide +kernel
theorem d_T_become_38 : decode b_T_become 38 = .ok (.getfield 9, 3) := by decide +kernel
theorem d_T_become_41 : decode b_T_become 41 = .ok (.iconst 0, 1) := by decide +kernel
theorem d_T_become_42 : decode b_T_become 42 = .ok (.iconst 3, 1) := by decide +kernel
theorem d_T_become_43 : decode b_T_become 43 = .ok (.invokestatic 45, 3) := by decide +kernel
theorem d_T_become_46 : decode b_T_become 46 = .ok (.aload_n 0, 1) := by decide +kernel
theorem d_T_become_47 : decode b_T_become 47 = .ok (.aload_n 1, 1) := by decide +kernel
theorem d_T_become_48 : decode b_T_become 48 = .ok (.getfield 39, 3) := by decide +kernel
theorem d_T_become_51 : decode b_T_become 51 = .ok (.putfield 39, 3) := by decide +kernel
theorem d_T_become_54 : decode b_T_become 54 = .ok (.iconst 0, 1) := by decide +kernel
theorem d_T_become_55 : decode b_T_become 55 = .ok (.istore_n 2, 1) := by decide +kernel
theorem d_T_become_56 : decode b_T_become 56 = .ok (.iload_n 2, 1) := by decide +kernel
theorem d_T_become_57 : decode b_T_become 57 = .ok (.aload_n 1, 1) := by decide +kernel
theorem d_T_become_58 : decode b_T_become 58 = .ok (.getfield 42, 3) := by decide +kernel
theorem d_T_become_61 : decode b_T_become 61 = .ok (.if_icmp .ge 24, 3) := by decide +kernel
theorem d_T_become_64 : decode b_T_become 64 = .ok (.aload_n 0, 1) := by decide +kernel
theorem d_T_become_65 : decode b_T_become 65 = .ok (.getfield 17, 3) := by decide +kernel
theorem d_T_become_68 : decode b_T_become 68 = .ok (.iload_n 2, 1) := by decide +kernel
theorem d_T_become_69 : decode b_T_become 69 = .ok (.aaload, 1) := by decide +kernel
theorem d_T_become_70 : decode b_T_become 70 = .ok (.aload_n 1, 1) := by decide +kernel
theorem d_T_become_71 : decode b_T_become 71 = .ok (.getfield 17, 3) := by decide +kernel
theorem d_T_become_74 : decode b_T_become 74 = .ok (.iload_n 2, 1) := by decide +kernel
theorem d_T_become_75 : decode b_T_become 75 = .ok (.aaload, 1) := by decide +kernel
theorem d_T_become_76 : decode b_T_become 76 = .ok (.invokevirtual 51, 3) := by decide +kernel
theorem d_T_become_79 : decode b_T_become 79 = .ok (.iinc 2 1, 3) := by decide +kernel
theorem d_T_become_82 : decode b_T_become 82 = .ok (.goto (-26), 3) := by decide +kernel
theorem d_T_become_85 : decode b_T_become 85 = .ok (.aload_n 0, 1) := by decide +kernel
theorem d_T_become_86 : decode b_T_become 86 = .ok (.aload_n 1, 1) := by decide +kernel
theorem d_T_become_87 : decode b_T_become 87 = .ok (.getfield 42, 3) := by decide +kernel
theorem d_T_become_90 : decode b_T_become 90 = .ok (.putfield 42, 3) := by decide +kernel
theorem d_T_become_93 : decode b_T_become 93 = .ok (.aload_n 0, 1) := by decide +kernel
theorem d_T_become_94 : decode b_T_become 94 = .ok (.aload_n 1, 1) := by decide +kernel
theorem d_T_become_95 : decode b_T_become 95 = .ok (.getfield 26, 3) := by decide +kernel
theorem d_T_become_98 : decode b_T_become 98 = .ok (.putfield 26, 3) := by decide +kernel
theorem d_T_become_101 : decode b_T_become 101 = .ok (.aload_n 0, 1) := by decide +kernel
theorem d_T_become_102 : decode b_T_become 102 = .ok (.aload_n 1, 1) := by decide +kernel
theorem d_T_become_103 : decode b_T_become 103 = .ok (.getfield 55, 3) := by decide +kernel
theorem d_T_become_106 : decode b_T_become 106 = .ok (.putfield 55, 3) := by decide +kernel
theorem d_T_become_109 : decode b_T_become 109 = .ok (.return_, 1) := by decide +kernel
theorem d_T_hasAny_0 : decode b_T_hasAny 0 = .ok (.aload_n 0, 1) := by decide +kernel
theorem d_T_hasAny_1 : decode b_T_hasAny 1 = .ok (.getfield 36, 3) := by decide +kernel
theorem d_T_hasAny_4 : decode b_T_hasAny 4 = .ok (.iload_n 1, 1) := by decide +kernel
theorem d_T_hasAny_5 : decode b_T_hasAny 5 = .ok (.iand, 1) := by decide +kernel
theorem d_T_hasAny_6 : decode b_T_hasAny 6 = .ok (.ifCond .eq 7, 3) := by decide +kernel
theorem d_T_hasAny_9 : decode b_T_hasAny 9 = .ok (.iconst 1, 1) := by decide +kernel
theorem d_T_hasAny_10 : decode b_T_hasAny 10 = .ok (.goto 4, 3) := by decide +kernel
theorem d_T_hasAny_13 : decode b_T_hasAny 13 = .ok (.iconst 0, 1) := by decide +kernel
theorem d_T_hasAny_14 : decode b_T_hasAny 14 = .ok (.ireturn, 1) := by decide +kernel
theorem d_T_isPublic_0 : decode b_T_isPublic 0 = .ok (.aload_n 0, 1) := by decide +kernel
theorem d_T_isPublic_1 : decode b_T_isPublic 1 = .ok (.getfield 29, 3) := by decide +kernel
theorem d_T_isPublic_4 : decode b_T_isPublic 4 = .ok (.ifCond .eq 15, 3) := by decide +kernel
theorem d_T_isPublic_7 : decode b_T_isPublic 7 = .ok (.aload_n 0, 1) := by decide +kernel
theorem d_T_isPublic_8 : decode b_T_isPublic 8 = .ok (.iconst 1, 1) := by decide +kernel
theorem d_T_isPublic_9 : decode b_T_isPublic 9 = .ok (.invokevirtual 58, 3) := by decide +kernel
theorem d_T_isPublic_12 : decode b_T_isPublic 12 = .ok (.ifCond .eq 7, 3) := by decide +kernel
theorem d_T_isPublic_15 : decode b_T_isPublic 15 = .ok (.iconst 1, 1) := by decide +kernel
theorem d_T_isPublic_16 : decode b_T_isPublic 16 = .ok (.goto 4, 3) := by decide +kernel
theorem d_T_isPublic_19 : decode b_T_isPublic 19 = .ok (.iconst 0, 1) := by decide +kernel
theorem d_T_isPublic_20 : decode b_T_isPublic 20 = .ok (.ireturn, 1) := by decide +kernel
theorem d_T_names_0 : decode b_T_names 0 = .ok (.iconst 0, 1) := by decide +kernel
theorem d_T_names_1 : decode b_T_names 1 = .ok (.istore_n 2, 1) := by decide +kernel
theorem d_T_names_2 : decode b_T_names 2 = .ok (.iload_n 2, 1) := by decide +kernel
theorem d_T_names_3 : decode b_T_names 3 = .ok (.aload_n 0, 1) := by decide +kernel
theorem d_T_names_4 : decode b_T_names 4 = .ok (.getfield 39, 3) := by decide +kernel
theorem d_T_names_7 : decode b_T_names 7 = .ok (.if_icmp .ge 21, 3) := by decide +kernel
theorem d_T_names_10 : decode b_T_names 10 = .ok (.aload_n 0, 1) := by decide +kernel
theorem d_T_names_11 : decode b_T_names 11 = .ok (.getfield 9, 3) := by decide +kernel
theorem d_T_names_14 : decode b_T_names 14 = .ok (.iload_n 2, 1) := by decide +kernel
theorem d_T_names_15 : decode b_T_names 15 = .ok (.iaload, 1) := by decide +kernel
theorem d_T_names_16 : decode b_T_names 16 = .ok (.iload_n 1, 1) := by decide +kernel
theorem d_T_names_17 : decode b_T_names 17 = .ok (.if_icmp .ne 5, 3) := by decide +kernel
theorem d_T_names_20 : decode b_T_names 20 = .ok (.iconst 1, 1) := by decide +kernel
theorem d_T_names_21 : decode b_T_names 21 = .ok (.ireturn, 1) := by decide +kernel
theorem d_T_names_22 : decode b_T_names 22 = .ok (.iinc 2 1, 3) := by decide +kernel
theorem d_T_names_25 : decode b_T_names 25 = .ok (.goto (-23), 3) := by decide +kernel
theorem d_T_names_28 : decode b_T_names 28 = .ok (.iconst 0, 1) := by decide +kernel
theorem d_T_names_29 : decode b_T_names 29 = .ok (.ireturn, 1) := by decide +kernel
theorem d_T_addInterface_0 : decode b_T_addInterface 0 = .ok (.aload_n 0, 1) := by decide +kernel
theorem d_T_addInterface_1 : decode b_T_addInterface 1 = .ok (.getfield 39, 3) := by decide +kernel
theorem d_T_addInterface_4 : decode b_T_addInterface 4 = .ok (.iconst 3, 1) := by decide +kernel
theorem d_T_addInterface_5 : decode b_T_addInterface 5 = .ok (.if_icmp .ge 23, 3) := by decide +kernel
theorem d_T_addInterface_8 : decode b_T_addInterface 8 = .ok (.aload_n 0, 1) := by decide +kernel
theorem d_T_addInterface_9 : decode b_T_addInterface 9 = .ok (.getfield 9, 3) := by decide +kernel
theorem d_T_addInterface_12 : decode b_T_addInterface 12 = .ok (.aload_n 0, 1) := by decide +kernel
theorem d_T_addInterface_13 : decode b_T_addInterface 13 = .ok (.getfield 39, 3) := by decide +kernel
theorem d_T_addInterface_16 : decode b_T_addInterface 16 = .ok (.iload_n 1, 1) := by decide +kernel
theorem d_T_addInterface_17 : decode b_T_addInterface 17 = .ok (.iastore, 1) := by decide +kernel
theorem d_T_addInterface_18 : decode b_T_addInterface 18 = .ok (.aload_n 0, 1) := by decide +kernel
theorem d_T_addInterface_19 : decode b_T_addInterface 19 = .ok (.dup, 1) := by decide +kernel
theorem d_T_addInterface_20 : decode b_T_addInterface 20 = .ok (.getfield 39, 3) := by decide +kernel
theorem d_T_addInterface_23 : decode b_T_addInterface 23 = .ok (.iconst 1, 1) := by decide +kernel
theorem d_T_addInterface_24 : decode b_T_addInterface 24 = .ok (.iadd, 1) := by decide +kernel
theorem d_T_addInterface_25 : decode b_T_addInterface 25 = .ok (.putfield 39, 3) := by decide +kernel
theorem d_T_addInterface_28 : decode b_T_addInterface 28 = .ok (.return_, 1) := by decide +kernel
theorem d_T_addMember_0 : decode b_T_addMember 0 = .ok (.aload_n 0, 1) := by decide +kernel
theorem d_T_addMember_1 : decode b_T_addMember 1 = .ok (.getfield 42, 3) := by decide +kernel
theorem d_T_addMember_4 : decode b_T_addMember 4 = .ok (.bipush 8, 2) := by decide +kernel
theorem d_T_addMember_6 : decode b_T_addMember 6 = .ok (.if_icmp .ge 28, 3) := by decide +kernel
theorem d_T_addMember_9 : decode b_T_addMember 9 = .ok (.aload_n 0, 1) := by decide +kernel
theorem d_T_addMember_10 : decode b_T_addMember 10 = .ok (.getfield 17, 3) := by decide +kernel
theorem d_T_addMember_13 : decode b_T_addMember 13 = .ok (.aload_n 0, 1) := by decide +kernel
theorem d_T_addMember_14 : decode b_T_addMember 14 = .ok (.getfield 42, 3) := by decide +kernel
theorem d_T_addMember_17 : decode b_T_addMember 17 = .ok (.aaload, 1) := by decide +kernel
theorem d_T_addMember_18 : decode b_T_addMember 18 = .ok (.iload_n 1, 1) := by decide +kernel
theorem d_T_addMember_19 : decode b_T_addMember 19 = .ok (.iload_n 2, 1) := by decide +kernel
theorem d_T_addMember_20 : decode b_T_addMember 20 = .ok (.iload_n 3, 1) := by decide +kernel
theorem d_T_addMember_21 : decode b_T_addMember 21 = .ok (.invokevirtual 62, 3) := by decide +kernel
theorem d_T_addMember_24 : decode b_T_addMember 24 = .ok (.aload_n 0, 1) := by decide +kernel
theorem d_T_addMember_25 : decode b_T_addMember 25 = .ok (.dup, 1) := by decide +kernel
theorem d_T_addMember_26 : decode b_T_addMember 26 = .ok (.getfield 42, 3) := by decide +kernel
theorem d_T_addMember_29 : decode b_T_addMember 29 = .ok (.iconst 1, 1) := by decide +kernel
theorem d_T_addMember_30 : decode b_T_addMember 30 = .ok (.iadd, 1) := by decide +kernel
theorem d_T_addMember_31 : decode b_T_addMember 31 = .ok (.putfield 42, 3) := by decide +kernel
theorem d_T_addMember_34 : decode b_T_addMember 34 = .ok (.return_, 1) := by decide +kernel
theorem d_T_takeOut_0 : decode b_T_takeOut 0 = .ok (.iload_n 1, 1) := by decide +kernel
theorem d_T_takeOut_1 : decode b_T_takeOut 1 = .ok (.istore_n 2, 1) := by decide +kernel
theorem d_T_takeOut_2 : decode b_T_takeOut 2 = .ok (.iload_n 2, 1) := by decide +kernel
theorem d_T_takeOut_3 : decode b_T_takeOut 3 = .ok (.aload_n 0, 1) := by decide +kernel
theorem d_T_takeOut_4 : decode b_T_takeOut 4 = .ok (.getfield 42, 3) := by decide +kernel
theorem d_T_takeOut_7 : decode b_T_takeOut 7 = .ok (.iconst 1, 1) := by decide +kernel
theorem d_T_takeOut_8 : decode b_T_takeOut 8 = .ok (.isub, 1) := by decide +kernel
theorem d_T_takeOut_9 : decode b_T_takeOut 9 = .ok (.if_icmp .ge 26, 3) := by decide +kernel
theorem d_T_takeOut_12 : decode b_T_takeOut 12 = .ok (.aload_n 0, 1) := by decide +kernel
theorem d_T_takeOut_13 : decode b_T_takeOut 13 = .ok (.getfield 17, 3) := by decide +kernel
theorem d_T_takeOut_16 : decode b_T_takeOut 16 = .ok (.iload_n 2, 1) := by decide +kernel
theorem d_T_takeOut_17 : decode b_T_takeOut 17 = .ok (.aaload, 1) := by decide +kernel
theorem d_T_takeOut_18 : decode b_T_takeOut 18 = .ok (.aload_n 0, 1) := by decide +kernel
theorem d_T_takeOut_19 : decode b_T_takeOut 19 = .ok (.getfield 17, 3) := by decide +kernel
theorem d_T_takeOut_22 : decode b_T_takeOut 22 = .ok (.iload_n 2, 1) := by decide +kernel
theorem d_T_takeOut_23 : decode b_T_takeOut 23 = .ok (.iconst 1, 1) := by decide +kernel
theorem d_T_takeOut_24 : decode b_T_takeOut 24 = .ok (.iadd, 1) := by decide +kernel
theorem d_T_takeOut_25 : decode b_T_takeOut 25 = .ok (.aaload, 1) := by decide +kernel
theorem d_T_takeOut_26 : decode b_T_takeOut 26 = .ok (.invokevirtual 51, 3) := by decide +kernel
theorem d_T_takeOut_29 : decode b_T_takeOut 29 = .ok (.iinc 2 1, 3) := by decide +kernel
theorem d_T_takeOut_32 : decode b_T_takeOut 32 = .ok (.goto (-30), 3) := by decide +kernel
theorem d_T_takeOut_35 : decode b_T_takeOut 35 = .ok (.aload_n 0, 1) := by decide +kernel
theorem d_T_takeOut_36 : decode b_T_takeOut 36 = .ok (.dup, 1) := by decide +kernel
theorem d_T_takeOut_37 : decode b_T_takeOut 37 = .ok (.getfield 42, 3) := by decide +kernel
theorem d_T_takeOut_40 : decode b_T_takeOut 40 = .ok (.iconst 1, 1) := by decide +kernel
theorem d_T_takeOut_41 : decode b_T_takeOut 41 = .ok (.isub, 1) := by decide +kernel
theorem d_T_takeOut_42 : decode b_T_takeOut 42 = .ok (.putfield 42, 3) := by decide +kernel
theorem d_T_takeOut_45 : decode b_T_takeOut 45 = .ok (.return_, 1) := by decide +kernel
theorem d_T_own_0 : decode b_T_own 0 = .ok (.iconst 0, 1) := by decide +kernel
theorem d_T_own_1 : decode b_T_own 1 = .ok (.istore_n 3, 1) := by decide +kernel
theorem d_T_own_2 : decode b_T_own 2 = .ok (.iload_n 3, 1) := by decide +kernel
theorem d_T_own_3 : decode b_T_own 3 = .ok (.aload_n 0, 1) := by decide +kernel
theorem d_T_own_4 : decode b_T_own 4 = .ok (.getfield 42, 3) := by decide +kernel
theorem d_T_own_7 : decode b_T_own 7 = .ok (.if_icmp .ge 42, 3) := by decide +kernel
theorem d_T_own_10 : decode b_T_own 10 = .ok (.aload_n 0, 1) := by decide +kernel
theorem d_T_own_11 : decode b_T_own 11 = .ok (.getfield 17, 3) := by decide +kernel
theorem d_T_own_14 : decode b_T_own 14 = .ok (.iload_n 3, 1) := by decide +kernel
theorem d_T_own_15 : decode b_T_own 15 = .ok (.aaload, 1) := by decide +kernel
theorem d_T_own_16 : decode b_T_own 16 = .ok (.getfield 66, 3) := by decide +kernel
theorem d_T_own_19 : decode b_T_own 19 = .ok (.iload_n 1, 1) := by decide +kernel
theorem d_T_own_20 : decode b_T_own 20 = .ok (.if_icmp .ne 23, 3) := by decide +kernel
theorem d_T_own_23 : decode b_T_own 23 = .ok (.aload_n 0, 1) := by decide +kernel
theorem d_T_own_24 : decode b_T_own 24 = .ok (.getfield 17, 3) := by decide +kernel
theorem d_T_own_27 : decode b_T_own 27 = .ok (.iload_n 3, 1) := by decide +kernel
theorem d_T_own_28 : decode b_T_own 28 = .ok (.aaload, 1) := by decide +kernel
theorem d_T_own_29 : decode b_T_own 29 = .ok (.getfield 67, 3) := by decide +kernel
theorem d_T_own_32 : decode b_T_own 32 = .ok (.iload_n 2, 1) := by decide +kernel
theorem d_T_own_33 : decode b_T_own 33 = .ok (.if_icmp .ne 10, 3) := by decide +kernel
theorem d_T_own_36 : decode b_T_own 36 = .ok (.aload_n 0, 1) := by decide +kernel
theorem d_T_own_37 : decode b_T_own 37 = .ok (.getfield 17, 3) := by decide +kernel
theorem d_T_own_40 : decode b_T_own 40 = .ok (.iload_n 3, 1) := by decide +kernel
theorem d_T_own_41 : decode b_T_own 41 = .ok (.aaload, 1) := by decide +kernel
theorem d_T_own_42 : decode b_T_own 42 = .ok (.areturn, 1) := by decide +kernel
theorem d_T_own_43 : decode b_T_own 43 = .ok (.iinc 3 1, 3) := by decide +kernel
theorem d_T_own_46 : decode b_T_own 46 = .ok (.goto (-44), 3) := by decide +kernel
theorem d_T_own_49 : decode b_T_own 49 = .ok (.aconst_null, 1) := by decide +kernel
theorem d_T_own_50 : decode b_T_own 50 = .ok (.areturn, 1) := by decide +kernel
theorem d_L_law_0 : decode code 0 = .ok (.new 7, 3) := by decide +kernel
theorem d_L_law_3 : decode code 3 = .ok (.dup, 1) := by decide +kernel
theorem d_L_law_4 : decode code 4 = .ok (.invokespecial 9, 3) := by decide +kernel
theorem d_L_law_7 : decode code 7 = .ok (.astore_n 1, 1) := by decide +kernel
theorem d_L_law_8 : decode code 8 = .ok (.new 10, 3) := by decide +kernel
theorem d_L_law_11 : decode code 11 = .ok (.dup, 1) := by decide +kernel
theorem d_L_law_12 : decode code 12 = .ok (.invokespecial 12, 3) := by decide +kernel
theorem d_L_law_15 : decode code 15 = .ok (.astore_n 2, 1) := by decide +kernel
theorem d_L_law_16 : decode code 16 = .ok (.iconst 0, 1) := by decide +kernel
theorem d_L_law_17 : decode code 17 = .ok (.istore_n 3, 1) := by decide +kernel
theorem d_L_law_18 : decode code 18 = .ok (.iload_n 3, 1) := by decide +kernel
theorem d_L_law_19 : decode code 19 = .ok (.aload_n 0, 1) := by decide +kernel
theorem d_L_law_20 : decode code 20 = .ok (.arraylength, 1) := by decide +kernel
theorem d_L_law_21 : decode code 21 = .ok (.bipush 6, 2) := by decide +kernel
theorem d_L_law_23 : decode code 23 = .ok (.isub, 1) := by decide +kernel
theorem d_L_law_24 : decode code 24 = .ok (.if_icmp .gt 666, 3) := by decide +kernel
theorem d_L_law_27 : decode code 27 = .ok (.aload_n 0, 1) := by decide +kernel
theorem d_L_law_28 : decode code 28 = .ok (.iload_n 3, 1) := by decide +kernel
theorem d_L_law_29 : decode code 29 = .ok (.iaload, 1) := by decide +kernel
theorem d_L_law_30 : decode code 30 = .ok (.bipush 15, 2) := by decide +kernel
theorem d_L_law_32 : decode code 32 = .ok (.iand, 1) := by decide +kernel
theorem d_L_law_33 : decode code 33 = .ok (.tableswitch 651 0 15 #[79, 142, 185, 248, 301, 334, 377, 390, 401, 460, 493, 546, 559, 592, 605, 628], 79) := by decide +kernel
theorem d_L_law_112 : decode code 112 = .ok (.aload_n 1, 1) := by decide +kernel
theorem d_L_law_113 : decode code 113 = .ok (.aload_n 0, 1) := by decide +kernel
theorem d_L_law_114 : decode code 114 = .ok (.iload_n 3, 1) := by decide +kernel
theorem d_L_law_115 : decode code 115 = .ok (.iconst 1, 1) := by decide +kernel
theorem d_L_law_116 : decode code 116 = .ok (.iadd, 1) := by decide +kernel
theorem d_L_law_117 : decode code 117 = .ok (.iaload, 1) := by decide +kernel
theorem d_L_law_118 : decode code 118 = .ok (.aload_n 0, 1) := by decide +kernel
theorem d_L_law_119 : decode code 119 = .ok (.iload_n 3, 1) := by decide +kernel
theorem d_L_law_120 : decode code 120 = .ok (.iconst 2, 1) := by decide +kernel
theorem d_L_law_121 : decode code 121 = .ok (.iadd, 1) := by decide +kernel
theorem d_L_law_122 : decode code 122 = .ok (.iaload, 1) := by decide +kernel
theorem d_L_law_123 : decode code 123 = .ok (.aload_n 0, 1) := by decide +kernel
theorem d_L_law_124 : decode code 124 = .ok (.iload_n 3, 1) := by decide +kernel
theorem d_L_law_125 : decode code 125 = .ok (.iconst 3, 1) := by decide +kernel
theorem d_L_law_126 : decode code 126 = .ok (.iadd, 1) := by decide +kernel
theorem d_L_law_127 : decode code 127 = .ok (.iaload, 1) := by decide +kernel
theorem d_L_law_128 : decode code 128 = .ok (.aload_n 0, 1) := by decide +kernel
theorem d_L_law_129 : decode code 129 = .ok (.iload_n 3, 1) := by decide +kernel
theorem d_L_law_130 : decode code 130 = .ok (.iconst 4, 1) := by decide +kernel
theorem d_L_law_131 : decode code 131 = .ok (.iadd, 1) := by decide +kernel
theorem d_L_law_132 : decode code 132 = .ok (.iaload, 1) := by decide +kernel
theorem d_L_law_133 : decode code 133 = .ok (.aload_n 0, 1) := by decide +kernel
theorem d_L_law_134 : decode code 134 = .ok (.iload_n 3, 1) := by decide +kernel
theorem d_L_law_135 : decode code 135 = .ok (.iconst 5, 1) := by decide +kernel
theorem d_L_law_136 : decode code 136 = .ok (.iadd, 1) := by decide +kernel
theorem d_L_law_137 : decode code 137 = .ok (.iaload, 1) := by decide +kernel
theorem d_L_law_138 : decode code 138 = .ok (.invokevirtual 13, 3) := by decide +kernel
theorem d_L_law_141 : decode code 141 = .ok (.aload_n 2, 1) := by decide +kernel
theorem d_L_law_142 : decode code 142 = .ok (.aload_n 0, 1) := by decide +kernel
theorem d_L_law_143 : decode code 143 = .ok (.iload_n 3, 1) := by decide +kernel
theorem d_L_law_144 : decode code 144 = .ok (.iconst 1, 1) := by decide +kernel
theorem d_L_law_145 : decode code 145 = .ok (.iadd, 1) := by decide +kernel
theorem d_L_law_146 : decode code 146 = .ok (.iaload, 1) := by decide +kernel
theorem d_L_law_147 : decode code 147 = .ok (.aload_n 0, 1) := by decide +kernel
theorem d_L_law_148 : decode code 148 = .ok (.iload_n 3, 1) := by decide +kernel
theorem d_L_law_149 : decode code 149 = .ok (.iconst 2, 1) := by decide +kernel
theorem d_L_law_150 : decode code 150 = .ok (.iadd, 1) := by decide +kernel
theorem d_L_law_151 : decode code 151 = .ok (.iaload, 1) := by decide +kernel
theorem d_L_law_152 : decode code 152 = .ok (.aload_n 0, 1) := by decide +kernel
theorem d_L_law_153 : decode code 153 = .ok (.iload_n 3, 1) := by decide +kernel
theorem d_L_law_154 : decode code 154 = .ok (.iconst 3, 1) := by decide +kernel
theorem d_L_law_155 : decode code 155 = .ok (.iadd, 1) := by decide +kernel
theorem d_L_law_156 : decode code 156 = .ok (.iaload, 1) := by decide +kernel
theorem d_L_law_157 : decode code 157 = .ok (.aload_n 0, 1) := by decide +kernel
theorem d_L_law_158 : decode code 158 = .ok (.iload_n 3, 1) := by decide +kernel
theorem d_L_law_159 : decode code 159 = .ok (.iconst 4, 1) := by decide +kernel
theorem d_L_law_160 : decode code 160 = .ok (.iadd, 1) := by decide +kernel
theorem d_L_law_161 : decode code 161 = .ok (.iaload, 1) := by decide +kernel
theorem d_L_law_162 : decode code 162 = .ok (.aload_n 0, 1) := by decide +kernel
theorem d_L_law_163 : decode code 163 = .ok (.iload_n 3, 1) := by decide +kernel
theorem d_L_law_164 : decode code 164 = .ok (.iconst 5, 1) := by decide +kernel
theorem d_L_law_165 : decode code 165 = .ok (.iadd, 1) := by decide +kernel
theorem d_L_law_166 : decode code 166 = .ok (.iaload, 1) := by decide +kernel
theorem d_L_law_167 : decode code 167 = .ok (.invokevirtual 17, 3) := by decide +kernel
theorem d_L_law_170 : decode code 170 = .ok (.if_icmp .eq 514, 3) := by decide +kernel
theorem d_L_law_173 : decode code 173 = .ok (.iconst 0, 1) := by decide +kernel
theorem d_L_law_174 : decode code 174 = .ok (.ireturn, 1) := by decide +kernel
theorem d_L_law_175 : decode code 175 = .ok (.aload_n 1, 1) := by decide +kernel
theorem d_L_law_176 : decode code 176 = .ok (.aload_n 0, 1) := by decide +kernel
theorem d_L_law_177 : decode code 177 = .ok (.iload_n 3, 1) := by decide +kernel
theorem d_L_law_178 : decode code 178 = .ok (.iconst 1, 1) := by decide +kernel
theorem d_L_law_179 : decode code 179 = .ok (.iadd, 1) := by decide +kernel
theorem d_L_law_180 : decode code 180 = .ok (.iaload, 1) := by decide +kernel
theorem d_L_law_181 : decode code 181 = .ok (.aload_n 0, 1) := by decide +kernel
theorem d_L_law_182 : decode code 182 = .ok (.iload_n 3, 1) := by decide +kernel
theorem d_L_law_183 : decode code 183 = .ok (.iconst 2, 1) := by decide +kernel
theorem d_L_law_184 : decode code 184 = .ok (.iadd, 1) := by decide +kernel
theorem d_L_law_185 : decode code 185 = .ok (.iaload, 1) := by decide +kernel
theorem d_L_law_186 : decode code 186 = .ok (.aload_n 0, 1) := by decide +kernel
theorem d_L_law_187 : decode code 187 = .ok (.iload_n 3, 1) := by decide +kernel
theorem d_L_law_188 : decode code 188 = .ok (.iconst 3, 1) := by decide +kernel
theorem d_L_law_189 : decode code 189 = .ok (.iadd, 1) := by decide +kernel
theorem d_L_law_190 : decode code 190 = .ok (.iaload, 1) := by decide +kernel
theorem d_L_law_191 : decode code 191 = .ok (.invokevirtual 18, 3) := by decide +kernel
theorem d_L_law_194 : decode code 194 = .ok (.aload_n 2, 1) := by decide +kernel
theorem d_L_law_195 : decode code 195 = .ok (.aload_n 0, 1) := by decide +kernel
theorem d_L_law_196 : decode code 196 = .ok (.iload_n 3, 1) := by decide +kernel
theorem d_L_law_197 : decode code 197 = .ok (.iconst 1, 1) := by decide +kernel
theorem d_L_law_198 : decode code 198 = .ok (.iadd, 1) := by decide +kernel
theorem d_L_law_199 : decode code 199 = .ok (.iaload, 1) := by decide +kernel
theorem d_L_law_200 : decode code 200 = .ok (.aload_n 0, 1) := by decide +kernel
theorem d_L_law_201 : decode code 201 = .ok (.iload_n 3, 1) := by decide +kernel
theorem d_L_law_202 : decode code 202 = .ok (.iconst 2, 1) := by decide +kernel
theorem d_L_law_203 : decode code 203 = .ok (.iadd, 1) := by decide +kernel
theorem d_L_law_204 : decode code 204 = .ok (.iaload, 1) := by decide +kernel
theorem d_L_law_205 : decode code 205 = .ok (.aload_n 0, 1) := by decide +kernel
theorem d_L_law_206 : decode code 206 = .ok (.iload_n 3, 1) := by decide +kernel
theorem d_L_law_207 : decode code 207 = .ok (.iconst 3, 1) := by decide +kernel
theorem d_L_law_208 : decode code 208 = .ok (.iadd, 1) := by decide +kernel
theorem d_L_law_209 : decode code 209 = .ok (.iaload, 1) := by decide +kernel
theorem d_L_law_210 : decode code 210 = .ok (.invokevirtual 22, 3) := by decide +kernel
theorem d_L_law_213 : decode code 213 = .ok (.if_icmp .eq 471, 3) := by decide +kernel
theorem d_L_law_216 : decode code 216 = .ok (.iconst 0, 1) := by decide +kernel
theorem d_L_law_217 : decode code 217 = .ok (.ireturn, 1) := by decide +kernel
theorem d_L_law_218 : decode code 218 = .ok (.aload_n 1, 1) := by decide +kernel
theorem d_L_law_219 : decode code 219 = .ok (.aload_n 0, 1) := by decide +kernel
theorem d_L_law_220 : decode code 220 = .ok (.iload_n 3, 1) := by decide +kernel
theorem d_L_law_221 : decode code 221 = .ok (.iconst 1, 1) := by decide +kernel
theorem d_L_law_222 : decode code 222 = .ok (.iadd, 1) := by decide +kernel
theorem d_L_law_223 : decode code 223 = .ok (.iaload, 1) := by decide +kernel
theorem d_L_law_224 : decode code 224 = .ok (.aload_n 0, 1) := by decide +kernel
theorem d_L_law_225 : decode code 225 = .ok (.iload_n 3, 1) := by decide +kernel
theorem d_L_law_226 : decode code 226 = .ok (.iconst 2, 1) := by decide +kernel
theorem d_L_law_227 : decode code 227 = .ok (.iadd, 1) := by decide +kernel
theorem d_L_law_228 : decode code 228 = .ok (.iaload, 1) := by decide +kernel
theorem d_L_law_229 : decode code 229 = .ok (.aload_n 0, 1) := by decide +kernel
theorem d_L_law_230 : decode code 230 = .ok (.iload_n 3, 1) := by decide +kernel
theorem d_L_law_231 : decode code 231 = .ok (.iconst 3, 1) := by decide +kernel
theorem d_L_law_232 : decode code 232 = .ok (.iadd, 1) := by decide +kernel
theorem d_L_law_233 : decode code 233 = .ok (.iaload, 1) := by decide +kernel
theorem d_L_law_234 : decode code 234 = .ok (.aload_n 0, 1) := by decide +kernel
theorem d_L_law_235 : decode code 235 = .ok (.iload_n 3, 1) := by decide +kernel
theorem d_L_law_236 : decode code 236 = .ok (.iconst 4, 1) := by decide +kernel
theorem d_L_law_237 : decode code 237 = .ok (.iadd, 1) := by decide +kernel
theorem d_L_law_238 : decode code 238 = .ok (.iaload, 1) := by decide +kernel
theorem d_L_law_239 : decode code 239 = .ok (.aload_n 0, 1) := by decide +kernel
theorem d_L_law_240 : decode code 240 = .ok (.iload_n 3, 1) := by decide +kernel
theorem d_L_law_241 : decode code 241 = .ok (.iconst 5, 1) := by decide +kernel
theorem d_L_law_242 : decode code 242 = .ok (.iadd, 1) := by decide +kernel
theorem d_L_law_243 : decode code 243 = .ok (.iaload, 1) := by decide +kernel
theorem d_L_law_244 : decode code 244 = .ok (.invokevirtual 23, 3) := by decide +kernel
theorem d_L_law_247 : decode code 247 = .ok (.aload_n 2, 1) := by decide +kernel
theorem d_L_law_248 : decode code 248 = .ok (.aload_n 0, 1) := by decide +kernel
theorem d_L_law_249 : decode code 249 = .ok (.iload_n 3, 1) := by decide +kernel
theorem d_L_law_250 : decode code 250 = .ok (.iconst 1, 1) := by decide +kernel
theorem d_L_law_251 : decode code 251 = .ok (.iadd, 1) := by decide +kernel
theorem d_L_law_252 : decode code 252 = .ok (.iaload, 1) := by decide +kernel
theorem d_L_law_253 : decode code 253 = .ok (.aload_n 0, 1) := by decide +kernel
theorem d_L_law_254 : decode code 254 = .ok (.iload_n 3, 1) := by decide +kernel
theorem d_L_law_255 : decode code 255 = .ok (.iconst 2, 1) := by decide +kernel
theorem d_L_law_256 : decode code 256 = .ok (.iadd, 1) := by decide +kernel
theorem d_L_law_257 : decode code 257 = .ok (.iaload, 1) := by decide +kernel
theorem d_L_law_258 : decode code 258 = .ok (.aload_n 0, 1) := by decide +kernel
theorem d_L_law_259 : decode code 259 = .ok (.iload_n 3, 1) := by decide +kernel
theorem d_L_law_260 : decode code 260 = .ok (.iconst 3, 1) := by decide +kernel
theorem d_L_law_261 : decode code 261 = .ok (.iadd, 1) := by decide +kernel
theorem d_L_law_262 : decode code 262 = .ok (.iaload, 1) := by decide +kernel
theorem d_L_law_263 : decode code 263 = .ok (.aload_n 0, 1) := by decide +kernel
theorem d_L_law_264 : decode code 264 = .ok (.iload_n 3, 1) := by decide +kernel
theorem d_L_law_265 : decode code 265 = .ok (.iconst 4, 1) := by decide +kernel
theorem d_L_law_266 : decode code 266 = .ok (.iadd, 1) := by decide +kernel
theorem d_L_law_267 : decode code 267 = .ok (.iaload, 1) := by decide +kernel
theorem d_L_law_268 : decode code 268 = .ok (.aload_n 0, 1) := by decide +kernel
theorem d_L_law_269 : decode code 269 = .ok (.iload_n 3, 1) := by decide +kernel
theorem d_L_law_270 : decode code 270 = .ok (.iconst 5, 1) := by decide +kernel
theorem d_L_law_271 : decode code 271 = .ok (.iadd, 1) := by decide +kernel
theorem d_L_law_272 : decode code 272 = .ok (.iaload, 1) := by decide +kernel
theorem d_L_law_273 : decode code 273 = .ok (.invokevirtual 26, 3) := by decide +kernel
theorem d_L_law_276 : decode code 276 = .ok (.if_icmp .eq 408, 3) := by decide +kernel
theorem d_L_law_279 : decode code 279 = .ok (.iconst 0, 1) := by decide +kernel
theorem d_L_law_280 : decode code 280 = .ok (.ireturn, 1) := by decide +kernel
theorem d_L_law_281 : decode code 281 = .ok (.aload_n 1, 1) := by decide +kernel
theorem d_L_law_282 : decode code 282 = .ok (.aload_n 0, 1) := by decide +kernel
theorem d_L_law_283 : decode code 283 = .ok (.iload_n 3, 1) := by decide +kernel
theorem d_L_law_284 : decode code 284 = .ok (.iconst 1, 1) := by decide +kernel
theorem d_L_law_285 : decode code 285 = .ok (.iadd, 1) := by decide +kernel
theorem d_L_law_286 : decode code 286 = .ok (.iaload, 1) := by decide +kernel
theorem d_L_law_287 : decode code 287 = .ok (.aload_n 0, 1) := by decide +kernel
theorem d_L_law_288 : decode code 288 = .ok (.iload_n 3, 1) := by decide +kernel
theorem d_L_law_289 : decode code 289 = .ok (.iconst 2, 1) := by decide +kernel
theorem d_L_law_290 : decode code 290 = .ok (.iadd, 1) := by decide +kernel
theorem d_L_law_291 : decode code 291 = .ok (.iaload, 1) := by decide +kernel
theorem d_L_law_292 : decode code 292 = .ok (.aload_n 0, 1) := by decide +kernel
theorem d_L_law_293 : decode code 293 = .ok (.iload_n 3, 1) := by decide +kernel
theorem d_L_law_294 : decode code 294 = .ok (.iconst 3, 1) := by decide +kernel
theorem d_L_law_295 : decode code 295 = .ok (.iadd, 1) := by decide +kernel
theorem d_L_law_296 : decode code 296 = .ok (.iaload, 1) := by decide +kernel
theorem d_L_law_297 : decode code 297 = .ok (.aload_n 0, 1) := by decide +kernel
theorem d_L_law_298 : decode code 298 = .ok (.iload_n 3, 1) := by decide +kernel
theorem d_L_law_299 : decode code 299 = .ok (.iconst 4, 1) := by decide +kernel
theorem d_L_law_300 : decode code 300 = .ok (.iadd, 1) := by decide +kernel
theorem d_L_law_301 : decode code 301 = .ok (.iaload, 1) := by decide +kernel
theorem d_L_law_302 : decode code 302 = .ok (.invokevirtual 27, 3) := by decide +kernel
theorem d_L_law_305 : decode code 305 = .ok (.aload_n 2, 1) := by decide +kernel
theorem d_L_law_306 : decode code 306 = .ok (.aload_n 0, 1) := by decide +kernel
theorem d_L_law_307 : decode code 307 = .ok (.iload_n 3, 1) := by decide +kernel
theorem d_L_law_308 : decode code 308 = .ok (.iconst 1, 1) := by decide +kernel
theorem d_L_law_309 : decode code 309 = .ok (.iadd, 1) := by decide +kernel
theorem d_L_law_310 : decode code 310 = .ok (.iaload, 1) := by decide +kernel
theorem d_L_law_311 : decode code 311 = .ok (.aload_n 0, 1) := by decide +kernel
theorem d_L_law_312 : decode code 312 = .ok (.iload_n 3, 1) := by decide +kernel
theorem d_L_law_313 : decode code 313 = .ok (.iconst 2, 1) := by decide +kernel
theorem d_L_law_314 : decode code 314 = .ok (.iadd, 1) := by decide +kernel
theorem d_L_law_315 : decode code 315 = .ok (.iaload, 1) := by decide +kernel
theorem d_L_law_316 : decode code 316 = .ok (.aload_n 0, 1) := by decide +kernel
theorem d_L_law_317 : decode code 317 = .ok (.iload_n 3, 1) := by decide +kernel
theorem d_L_law_318 : decode code 318 = .ok (.iconst 3, 1) := by decide +kernel
theorem d_L_law_319 : decode code 319 = .ok (.iadd, 1) := by decide +kernel
theorem d_L_law_320 : decode code 320 = .ok (.iaload, 1) := by decide +kernel
theorem d_L_law_321 : decode code 321 = .ok (.aload_n 0, 1) := by decide +kernel
theorem d_L_law_322 : decode code 322 = .ok (.iload_n 3, 1) := by decide +kernel
theorem d_L_law_323 : decode code 323 = .ok (.iconst 4, 1) := by decide +kernel
theorem d_L_law_324 : decode code 324 = .ok (.iadd, 1) := by decide +kernel
theorem d_L_law_325 : decode code 325 = .ok (.iaload, 1) := by decide +kernel
theorem d_L_law_326 : decode code 326 = .ok (.invokevirtual 31, 3) := by decide +kernel
theorem d_L_law_329 : decode code 329 = .ok (.if_icmp .eq 355, 3) := by decide +kernel
theorem d_L_law_332 : decode code 332 = .ok (.iconst 0, 1) := by decide +kernel
theorem d_L_law_333 : decode code 333 = .ok (.ireturn, 1) := by decide +kernel
theorem d_L_law_334 : decode code 334 = .ok (.aload_n 1, 1) := by decide +kernel
theorem d_L_law_335 : decode code 335 = .ok (.aload_n 0, 1) := by decide +kernel
theorem d_L_law_336 : decode code 336 = .ok (.iload_n 3, 1) := by decide +kernel
theorem d_L_law_337 : decode code 337 = .ok (.iconst 1, 1) := by decide +kernel
theorem d_L_law_338 : decode code 338 = .ok (.iadd, 1) := by decide +kernel
theorem d_L_law_339 : decode code 339 = .ok (.iaload, 1) := by decide +kernel
theorem d_L_law_340 : decode code 340 = .ok (.aload_n 0, 1) := by decide +kernel
theorem d_L_law_341 : decode code 341 = .ok (.iload_n 3, 1) := by decide +kernel
theorem d_L_law_342 : decode code 342 = .ok (.iconst 2, 1) := by decide +kernel
theorem d_L_law_343 : decode code 343 = .ok (.iadd, 1) := by decide +kernel
theorem d_L_law_344 : decode code 344 = .ok (.iaload, 1) := by decide +kernel
theorem d_L_law_345 : decode code 345 = .ok (.invokevirtual 32, 3) := by decide +kernel
theorem d_L_law_348 : decode code 348 = .ok (.aload_n 2, 1) := by decide +kernel
theorem d_L_law_349 : decode code 349 = .ok (.aload_n 0, 1) := by decide +kernel
theorem d_L_law_350 : decode code 350 = .ok (.iload_n 3, 1) := by decide +kernel
theorem d_L_law_351 : decode code 351 = .ok (.iconst 1, 1) := by decide +kernel
theorem d_L_law_352 : decode code 352 = .ok (.iadd, 1) := by decide +kernel
theorem d_L_law_353 : decode code 353 = .ok (.iaload, 1) := by decide +kernel
theorem d_L_law_354 : decode code 354 = .ok (.aload_n 0, 1) := by decide +kernel
theorem d_L_law_355 : decode code 355 = .ok (.iload_n 3, 1) := by decide +kernel
theorem d_L_law_356 : decode code 356 = .ok (.iconst 2, 1) := by decide +kernel
theorem d_L_law_357 : decode code 357 = .ok (.iadd, 1) := by decide +kernel
theorem d_L_law_358 : decode code 358 = .ok (.iaload, 1) := by decide +kernel
theorem d_L_law_359 : decode code 359 = .ok (.invokevirtual 36, 3) := by decide +kernel
theorem d_L_law_362 : decode code 362 = .ok (.if_icmp .eq 322, 3) := by decide +kernel
theorem d_L_law_365 : decode code 365 = .ok (.iconst 0, 1) := by decide +kernel
theorem d_L_law_366 : decode code 366 = .ok (.ireturn, 1) := by decide +kernel
theorem d_L_law_367 : decode code 367 = .ok (.aload_n 1, 1) := by decide +kernel
theorem d_L_law_368 : decode code 368 = .ok (.aload_n 0, 1) := by decide +kernel
theorem d_L_law_369 : decode code 369 = .ok (.iload_n 3, 1) := by decide +kernel
theorem d_L_law_370 : decode code 370 = .ok (.iconst 1, 1) := by decide +kernel
theorem d_L_law_371 : decode code 371 = .ok (.iadd, 1) := by decide +kernel
theorem d_L_law_372 : decode code 372 = .ok (.iaload, 1) := by decide +kernel
theorem d_L_law_373 : decode code 373 = .ok (.aload_n 0, 1) := by decide +kernel
theorem d_L_law_374 : decode code 374 = .ok (.iload_n 3, 1) := by decide +kernel
theorem d_L_law_375 : decode code 375 = .ok (.iconst 2, 1) := by decide +kernel
theorem d_L_law_376 : decode code 376 = .ok (.iadd, 1) := by decide +kernel
theorem d_L_law_377 : decode code 377 = .ok (.iaload, 1) := by decide +kernel
theorem d_L_law_378 : decode code 378 = .ok (.aload_n 0, 1) := by decide +kernel
theorem d_L_law_379 : decode code 379 = .ok (.iload_n 3, 1) := by decide +kernel
theorem d_L_law_380 : decode code 380 = .ok (.iconst 3, 1) := by decide +kernel
theorem d_L_law_381 : decode code 381 = .ok (.iadd, 1) := by decide +kernel
theorem d_L_law_382 : decode code 382 = .ok (.iaload, 1) := by decide +kernel
theorem d_L_law_383 : decode code 383 = .ok (.invokevirtual 37, 3) := by decide +kernel
theorem d_L_law_386 : decode code 386 = .ok (.aload_n 2, 1) := by decide +kernel
theorem d_L_law_387 : decode code 387 = .ok (.aload_n 0, 1) := by decide +kernel
theorem d_L_law_388 : decode code 388 = .ok (.iload_n 3, 1) := by decide +kernel
theorem d_L_law_389 : decode code 389 = .ok (.iconst 1, 1) := by decide +kernel
theorem d_L_law_390 : decode code 390 = .ok (.iadd, 1) := by decide +kernel
theorem d_L_law_391 : decode code 391 = .ok (.iaload, 1) := by decide +kernel
theorem d_L_law_392 : decode code 392 = .ok (.aload_n 0, 1) := by decide +kernel
theorem d_L_law_393 : decode code 393 = .ok (.iload_n 3, 1) := by decide +kernel
theorem d_L_law_394 : decode code 394 = .ok (.iconst 2, 1) := by decide +kernel
theorem d_L_law_395 : decode code 395 = .ok (.iadd, 1) := by decide +kernel
theorem d_L_law_396 : decode code 396 = .ok (.iaload, 1) := by decide +kernel
theorem d_L_law_397 : decode code 397 = .ok (.aload_n 0, 1) := by decide +kernel
theorem d_L_law_398 : decode code 398 = .ok (.iload_n 3, 1) := by decide +kernel
theorem d_L_law_399 : decode code 399 = .ok (.iconst 3, 1) := by decide +kernel
theorem d_L_law_400 : decode code 400 = .ok (.iadd, 1) := by decide +kernel
theorem d_L_law_401 : decode code 401 = .ok (.iaload, 1) := by decide +kernel
theorem d_L_law_402 : decode code 402 = .ok (.invokevirtual 40, 3) := by decide +kernel
theorem d_L_law_405 : decode code 405 = .ok (.if_icmp .eq 279, 3) := by decide +kernel
theorem d_L_law_408 : decode code 408 = .ok (.iconst 0, 1) := by decide +kernel
theorem d_L_law_409 : decode code 409 = .ok (.ireturn, 1) := by decide +kernel
theorem d_L_law_410 : decode code 410 = .ok (.aload_n 1, 1) := by decide +kernel
theorem d_L_law_411 : decode code 411 = .ok (.invokevirtual 41, 3) := by decide +kernel
theorem d_L_law_414 : decode code 414 = .ok (.aload_n 2, 1) := by decide +kernel
theorem d_L_law_415 : decode code 415 = .ok (.invokevirtual 45, 3) := by decide +kernel
theorem d_L_law_418 : decode code 418 = .ok (.if_icmp .eq 266, 3) := by decide +kernel
theorem d_L_law_421 : decode code 421 = .ok (.iconst 0, 1) := by decide +kernel
theorem d_L_law_422 : decode code 422 = .ok (.ireturn, 1) := by decide +kernel
theorem d_L_law_423 : decode code 423 = .ok (.aload_n 1, 1) := by decide +kernel
theorem d_L_law_424 : decode code 424 = .ok (.invokevirtual 46, 3) := by decide +kernel
theorem d_L_law_427 : decode code 427 = .ok (.aload_n 2, 1) := by decide +kernel
theorem d_L_law_428 : decode code 428 = .ok (.invokevirtual 49, 3) := by decide +kernel
theorem d_L_law_431 : decode code 431 = .ok (.goto 253, 3) := by decide +kernel
theorem d_L_law_434 : decode code 434 = .ok (.aload_n 1, 1) := by decide +kernel
theorem d_L_law_435 : decode code 435 = .ok (.aload_n 0, 1) := by decide +kernel
theorem d_L_law_436 : decode code 436 = .ok (.iload_n 3, 1) := by decide +kernel
theorem d_L_law_437 : decode code 437 = .ok (.iconst 1, 1) := by decide +kernel
theorem d_L_law_438 : decode code 438 = .ok (.iadd, 1) := by decide +kernel
theorem d_L_law_439 : decode code 439 = .ok (.iaload, 1) := by decide +kernel
theorem d_L_law_440 : decode code 440 = .ok (.aload_n 0, 1) := by decide +kernel
theorem d_L_law_441 : decode code 441 = .ok (.iload_n 3, 1) := by decide +kernel
theorem d_L_law_442 : decode code 442 = .ok (.iconst 2, 1) := by decide +kernel
theorem d_L_law_443 : decode code 443 = .ok (.iadd, 1) := by decide +kernel
theorem d_L_law_444 : decode code 444 = .ok (.iaload, 1) := by decide +kernel
theorem d_L_law_445 : decode code 445 = .ok (.aload_n 0, 1) := by decide +kernel
theorem d_L_law_446 : decode code 446 = .ok (.iload_n 3, 1) := by decide +kernel
theorem d_L_law_447 : decode code 447 = .ok (.iconst 3, 1) := by decide +kernel
theorem d_L_law_448 : decode code 448 = .ok (.iadd, 1) := by decide +kernel
theorem d_L_law_449 : decode code 449 = .ok (.iaload, 1) := by decide +kernel
theorem d_L_law_450 : decode code 450 = .ok (.ifCond .eq 7, 3) := by decide +kernel
theorem d_L_law_453 : decode code 453 = .ok (.iconst 1, 1) := by decide +kernel
theorem d_L_law_454 : decode code 454 = .ok (.goto 4, 3) := by decide +kernel
theorem d_L_law_457 : decode code 457 = .ok (.iconst 0, 1) := by decide +kernel
theorem d_L_law_458 : decode code 458 = .ok (.invokevirtual 50, 3) := by decide +kernel
theorem d_L_law_461 : decode code 461 = .ok (.aload_n 2, 1) := by decide +kernel
theorem d_L_law_462 : decode code 462 = .ok (.aload_n 0, 1) := by decide +kernel
theorem d_L_law_463 : decode code 463 = .ok (.iload_n 3, 1) := by decide +kernel
theorem d_L_law_464 : decode code 464 = .ok (.iconst 1, 1) := by decide +kernel
theorem d_L_law_465 : decode code 465 = .ok (.iadd, 1) := by decide +kernel
theorem d_L_law_466 : decode code 466 = .ok (.iaload, 1) := by decide +kernel
theorem d_L_law_467 : decode code 467 = .ok (.aload_n 0, 1) := by decide +kernel
theorem d_L_law_468 : decode code 468 = .ok (.iload_n 3, 1) := by decide +kernel
theorem d_L_law_469 : decode code 469 = .ok (.iconst 2, 1) := by decide +kernel
theorem d_L_law_470 : decode code 470 = .ok (.iadd, 1) := by decide +kernel
theorem d_L_law_471 : decode code 471 = .ok (.iaload, 1) := by decide +kernel
theorem d_L_law_472 : decode code 472 = .ok (.aload_n 0, 1) := by decide +kernel
theorem d_L_law_473 : decode code 473 = .ok (.iload_n 3, 1) := by decide +kernel
theorem d_L_law_474 : decode code 474 = .ok (.iconst 3, 1) := by decide +kernel
theorem d_L_law_475 : decode code 475 = .ok (.iadd, 1) := by decide +kernel
theorem d_L_law_476 : decode code 476 = .ok (.iaload, 1) := by decide +kernel
theorem d_L_law_477 : decode code 477 = .ok (.ifCond .eq 7, 3) := by decide +kernel
theorem d_L_law_480 : decode code 480 = .ok (.iconst 1, 1) := by decide +kernel
theorem d_L_law_481 : decode code 481 = .ok (.goto 4, 3) := by decide +kernel
theorem d_L_law_484 : decode code 484 = .ok (.iconst 0, 1) := by decide +kernel
theorem d_L_law_485 : decode code 485 = .ok (.invokevirtual 54, 3) := by decide +kernel
theorem d_L_law_488 : decode code 488 = .ok (.if_icmp .eq 196, 3) := by decide +kernel
theorem d_L_law_491 : decode code 491 = .ok (.iconst 0, 1) := by decide +kernel
theorem d_L_law_492 : decode code 492 = .ok (.ireturn, 1) := by decide +kernel
theorem d_L_law_493 : decode code 493 = .ok (.aload_n 1, 1) := by decide +kernel
theorem d_L_law_494 : decode code 494 = .ok (.aload_n 0, 1) := by decide +kernel
theorem d_L_law_495 : decode code 495 = .ok (.iload_n 3, 1) := by decide +kernel
theorem d_L_law_496 : decode code 496 = .ok (.iconst 1, 1) := by decide +kernel
theorem d_L_law_497 : decode code 497 = .ok (.iadd, 1) := by decide +kernel
theorem d_L_law_498 : decode code 498 = .ok (.iaload, 1) := by decide +kernel
theorem d_L_law_499 : decode code 499 = .ok (.aload_n 0, 1) := by decide +kernel
theorem d_L_law_500 : decode code 500 = .ok (.iload_n 3, 1) := by decide +kernel
theorem d_L_law_501 : decode code 501 = .ok (.iconst 2, 1) := by decide +kernel
theorem d_L_law_502 : decode code 502 = .ok (.iadd, 1) := by decide +kernel
theorem d_L_law_503 : decode code 503 = .ok (.iaload, 1) := by decide +kernel
theorem d_L_law_504 : decode code 504 = .ok (.invokevirtual 55, 3) := by decide +kernel
theorem d_L_law_507 : decode code 507 = .ok (.aload_n 2, 1) := by decide +kernel
theorem d_L_law_508 : decode code 508 = .ok (.aload_n 0, 1) := by decide +kernel
theorem d_L_law_509 : decode code 509 = .ok (.iload_n 3, 1) := by decide +kernel
theorem d_L_law_510 : decode code 510 = .ok (.iconst 1, 1) := by decide +kernel
theorem d_L_law_511 : decode code 511 = .ok (.iadd, 1) := by decide +kernel
theorem d_L_law_512 : decode code 512 = .ok (.iaload, 1) := by decide +kernel
theorem d_L_law_513 : decode code 513 = .ok (.aload_n 0, 1) := by decide +kernel
theorem d_L_law_514 : decode code 514 = .ok (.iload_n 3, 1) := by decide +kernel
theorem d_L_law_515 : decode code 515 = .ok (.iconst 2, 1) := by decide +kernel
theorem d_L_law_516 : decode code 516 = .ok (.iadd, 1) := by decide +kernel
theorem d_L_law_517 : decode code 517 = .ok (.iaload, 1) := by decide +kernel
theorem d_L_law_518 : decode code 518 = .ok (.invokevirtual 58, 3) := by decide +kernel
theorem d_L_law_521 : decode code 521 = .ok (.if_icmp .eq 163, 3) := by decide +kernel
theorem d_L_law_524 : decode code 524 = .ok (.iconst 0, 1) := by decide +kernel
theorem d_L_law_525 : decode code 525 = .ok (.ireturn, 1) := by decide +kernel
theorem d_L_law_526 : decode code 526 = .ok (.aload_n 1, 1) := by decide +kernel
theorem d_L_law_527 : decode code 527 = .ok (.aload_n 0, 1) := by decide +kernel
theorem d_L_law_528 : decode code 528 = .ok (.iload_n 3, 1) := by decide +kernel
theorem d_L_law_529 : decode code 529 = .ok (.iconst 1, 1) := by decide +kernel
theorem d_L_law_530 : decode code 530 = .ok (.iadd, 1) := by decide +kernel
theorem d_L_law_531 : decode code 531 = .ok (.iaload, 1) := by decide +kernel
theorem d_L_law_532 : decode code 532 = .ok (.aload_n 0, 1) := by decide +kernel
theorem d_L_law_533 : decode code 533 = .ok (.iload_n 3, 1) := by decide +kernel
theorem d_L_law_534 : decode code 534 = .ok (.iconst 2, 1) := by decide +kernel
theorem d_L_law_535 : decode code 535 = .ok (.iadd, 1) := by decide +kernel
theorem d_L_law_536 : decode code 536 = .ok (.iaload, 1) := by decide +kernel
theorem d_L_law_537 : decode code 537 = .ok (.aload_n 0, 1) := by decide +kernel
theorem d_L_law_538 : decode code 538 = .ok (.iload_n 3, 1) := by decide +kernel
theorem d_L_law_539 : decode code 539 = .ok (.iconst 3, 1) := by decide +kernel
theorem d_L_law_540 : decode code 540 = .ok (.iadd, 1) := by decide +kernel
theorem d_L_law_541 : decode code 541 = .ok (.iaload, 1) := by decide +kernel
theorem d_L_law_542 : decode code 542 = .ok (.aload_n 0, 1) := by decide +kernel
theorem d_L_law_543 : decode code 543 = .ok (.iload_n 3, 1) := by decide +kernel
theorem d_L_law_544 : decode code 544 = .ok (.iconst 4, 1) := by decide +kernel
theorem d_L_law_545 : decode code 545 = .ok (.iadd, 1) := by decide +kernel
theorem d_L_law_546 : decode code 546 = .ok (.iaload, 1) := by decide +kernel
theorem d_L_law_547 : decode code 547 = .ok (.invokevirtual 59, 3) := by decide +kernel
theorem d_L_law_550 : decode code 550 = .ok (.aload_n 2, 1) := by decide +kernel
theorem d_L_law_551 : decode code 551 = .ok (.aload_n 0, 1) := by decide +kernel
theorem d_L_law_552 : decode code 552 = .ok (.iload_n 3, 1) := by decide +kernel
theorem d_L_law_553 : decode code 553 = .ok (.iconst 1, 1) := by decide +kernel
theorem d_L_law_554 : decode code 554 = .ok (.iadd, 1) := by decide +kernel
theorem d_L_law_555 : decode code 555 = .ok (.iaload, 1) := by decide +kernel
theorem d_L_law_556 : decode code 556 = .ok (.aload_n 0, 1) := by decide +kernel
theorem d_L_law_557 : decode code 557 = .ok (.iload_n 3, 1) := by decide +kernel
theorem d_L_law_558 : decode code 558 = .ok (.iconst 2, 1) := by decide +kernel
theorem d_L_law_559 : decode code 559 = .ok (.iadd, 1) := by decide +kernel
theorem d_L_law_560 : decode code 560 = .ok (.iaload, 1) := by decide +kernel
theorem d_L_law_561 : decode code 561 = .ok (.aload_n 0, 1) := by decide +kernel
theorem d_L_law_562 : decode code 562 = .ok (.iload_n 3, 1) := by decide +kernel
theorem d_L_law_563 : decode code 563 = .ok (.iconst 3, 1) := by decide +kernel
theorem d_L_law_564 : decode code 564 = .ok (.iadd, 1) := by decide +kernel
theorem d_L_law_565 : decode code 565 = .ok (.iaload, 1) := by decide +kernel
theorem d_L_law_566 : decode code 566 = .ok (.aload_n 0, 1) := by decide +kernel
theorem d_L_law_567 : decode code 567 = .ok (.iload_n 3, 1) := by decide +kernel
theorem d_L_law_568 : decode code 568 = .ok (.iconst 4, 1) := by decide +kernel
theorem d_L_law_569 : decode code 569 = .ok (.iadd, 1) := by decide +kernel
theorem d_L_law_570 : decode code 570 = .ok (.iaload, 1) := by decide +kernel
theorem d_L_law_571 : decode code 571 = .ok (.invokevirtual 62, 3) := by decide +kernel
theorem d_L_law_574 : decode code 574 = .ok (.if_icmp .eq 110, 3) := by decide +kernel
theorem d_L_law_577 : decode code 577 = .ok (.iconst 0, 1) := by decide +kernel
theorem d_L_law_578 : decode code 578 = .ok (.ireturn, 1) := by decide +kernel
theorem d_L_law_579 : decode code 579 = .ok (.aload_n 1, 1) := by decide +kernel
theorem d_L_law_580 : decode code 580 = .ok (.invokevirtual 63, 3) := by decide +kernel
theorem d_L_law_583 : decode code 583 = .ok (.aload_n 2, 1) := by decide +kernel
theorem d_L_law_584 : decode code 584 = .ok (.invokevirtual 66, 3) := by decide +kernel
theorem d_L_law_587 : decode code 587 = .ok (.if_icmp .eq 97, 3) := by decide +kernel
theorem d_L_law_590 : decode code 590 = .ok (.iconst 0, 1) := by decide +kernel
theorem d_L_law_591 : decode code 591 = .ok (.ireturn, 1) := by decide +kernel
theorem d_L_law_592 : decode code 592 = .ok (.aload_n 1, 1) := by decide +kernel
theorem d_L_law_593 : decode code 593 = .ok (.aload_n 0, 1) := by decide +kernel
theorem d_L_law_594 : decode code 594 = .ok (.iload_n 3, 1) := by decide +kernel
theorem d_L_law_595 : decode code 595 = .ok (.iconst 1, 1) := by decide +kernel
theorem d_L_law_596 : decode code 596 = .ok (.iadd, 1) := by decide +kernel
theorem d_L_law_597 : decode code 597 = .ok (.iaload, 1) := by decide +kernel
theorem d_L_law_598 : decode code 598 = .ok (.aload_n 0, 1) := by decide +kernel
theorem d_L_law_599 : decode code 599 = .ok (.iload_n 3, 1) := by decide +kernel
theorem d_L_law_600 : decode code 600 = .ok (.iconst 2, 1) := by decide +kernel
theorem d_L_law_601 : decode code 601 = .ok (.iadd, 1) := by decide +kernel
theorem d_L_law_602 : decode code 602 = .ok (.iaload, 1) := by decide +kernel
theorem d_L_law_603 : decode code 603 = .ok (.invokevirtual 67, 3) := by decide +kernel
theorem d_L_law_606 : decode code 606 = .ok (.aload_n 2, 1) := by decide +kernel
theorem d_L_law_607 : decode code 607 = .ok (.aload_n 0, 1) := by decide +kernel
theorem d_L_law_608 : decode code 608 = .ok (.iload_n 3, 1) := by decide +kernel
theorem d_L_law_609 : decode code 609 = .ok (.iconst 1, 1) := by decide +kernel
theorem d_L_law_610 : decode code 610 = .ok (.iadd, 1) := by decide +kernel
theorem d_L_law_611 : decode code 611 = .ok (.iaload, 1) := by decide +kernel
theorem d_L_law_612 : decode code 612 = .ok (.aload_n 0, 1) := by decide +kernel
theorem d_L_law_613 : decode code 613 = .ok (.iload_n 3, 1) := by decide +kernel
theorem d_L_law_614 : decode code 614 = .ok (.iconst 2, 1) := by decide +kernel
theorem d_L_law_615 : decode code 615 = .ok (.iadd, 1) := by decide +kernel
theorem d_L_law_616 : decode code 616 = .ok (.iaload, 1) := by decide +kernel
theorem d_L_law_617 : decode code 617 = .ok (.invokevirtual 70, 3) := by decide +kernel
theorem d_L_law_620 : decode code 620 = .ok (.if_icmp .eq 64, 3) := by decide +kernel
theorem d_L_law_623 : decode code 623 = .ok (.iconst 0, 1) := by decide +kernel
theorem d_L_law_624 : decode code 624 = .ok (.ireturn, 1) := by decide +kernel
theorem d_L_law_625 : decode code 625 = .ok (.aload_n 1, 1) := by decide +kernel
theorem d_L_law_626 : decode code 626 = .ok (.invokevirtual 71, 3) := by decide +kernel
theorem d_L_law_629 : decode code 629 = .ok (.aload_n 2, 1) := by decide +kernel
theorem d_L_law_630 : decode code 630 = .ok (.invokevirtual 74, 3) := by decide +kernel
theorem d_L_law_633 : decode code 633 = .ok (.if_icmp .eq 51, 3) := by decide +kernel
theorem d_L_law_636 : decode code 636 = .ok (.iconst 0, 1) := by decide +kernel
theorem d_L_law_637 : decode code 637 = .ok (.ireturn, 1) := by decide +kernel
theorem d_L_law_638 : decode code 638 = .ok (.aload_n 1, 1) := by decide +kernel
theorem d_L_law_639 : decode code 639 = .ok (.aload_n 0, 1) := by decide +kernel
theorem d_L_law_640 : decode code 640 = .ok (.iload_n 3, 1) := by decide +kernel
theorem d_L_law_641 : decode code 641 = .ok (.iconst 1, 1) := by decide +kernel
theorem d_L_law_642 : decode code 642 = .ok (.iadd, 1) := by decide +kernel
theorem d_L_law_643 : decode code 643 = .ok (.iaload, 1) := by decide +kernel
theorem d_L_law_644 : decode code 644 = .ok (.invokevirtual 75, 3) := by decide +kernel
theorem d_L_law_647 : decode code 647 = .ok (.aload_n 2, 1) := by decide +kernel
theorem d_L_law_648 : decode code 648 = .ok (.aload_n 0, 1) := by decide +kernel
theorem d_L_law_649 : decode code 649 = .ok (.iload_n 3, 1) := by decide +kernel
theorem d_L_law_650 : decode code 650 = .ok (.iconst 1, 1) := by decide +kernel
theorem d_L_law_651 : decode code 651 = .ok (.iadd, 1) := by decide +kernel
theorem d_L_law_652 : decode code 652 = .ok (.iaload, 1) := by decide +kernel
theorem d_L_law_653 : decode code 653 = .ok (.invokevirtual 79, 3) := by decide +kernel
theorem d_L_law_656 : decode code 656 = .ok (.if_icmp .eq 28, 3) := by decide +kernel
theorem d_L_law_659 : decode code 659 = .ok (.iconst 0, 1) := by decide +kernel
theorem d_L_law_660 : decode code 660 = .ok (.ireturn, 1) := by decide +kernel
theorem d_L_law_661 : decode code 661 = .ok (.aload_n 1, 1) := by decide +kernel
theorem d_L_law_662 : decode code 662 = .ok (.aload_n 0, 1) := by decide +kernel
theorem d_L_law_663 : decode code 663 = .ok (.iload_n 3, 1) := by decide +kernel
theorem d_L_law_664 : decode code 664 = .ok (.iconst 1, 1) := by decide +kernel
theorem d_L_law_665 : decode code 665 = .ok (.iadd, 1) := by decide +kernel
theorem d_L_law_666 : decode code 666 = .ok (.iaload, 1) := by decide +kernel
theorem d_L_law_667 : decode code 667 = .ok (.invokevirtual 80, 3) := by decide +kernel
theorem d_L_law_670 : decode code 670 = .ok (.aload_n 2, 1) := by decide +kernel
theorem d_L_law_671 : decode code 671 = .ok (.aload_n 0, 1) := by decide +kernel
theorem d_L_law_672 : decode code 672 = .ok (.iload_n 3, 1) := by decide +kernel
theorem d_L_law_673 : decode code 673 = .ok (.iconst 1, 1) := by decide +kernel
theorem d_L_law_674 : decode code 674 = .ok (.iadd, 1) := by decide +kernel
theorem d_L_law_675 : decode code 675 = .ok (.iaload, 1) := by decide +kernel
theorem d_L_law_676 : decode code 676 = .ok (.invokevirtual 83, 3) := by decide +kernel
theorem d_L_law_679 : decode code 679 = .ok (.if_icmp .eq 5, 3) := by decide +kernel
theorem d_L_law_682 : decode code 682 = .ok (.iconst 0, 1) := by decide +kernel
theorem d_L_law_683 : decode code 683 = .ok (.ireturn, 1) := by decide +kernel
theorem d_L_law_684 : decode code 684 = .ok (.iinc 3 6, 3) := by decide +kernel
theorem d_L_law_687 : decode code 687 = .ok (.goto (-669), 3) := by decide +kernel
theorem d_L_law_690 : decode code 690 = .ok (.iconst 1, 1) := by decide +kernel
theorem d_L_law_691 : decode code 691 = .ok (.ireturn, 1) := by decide +kernel
theorem d_I_bitCount_0 : decode b_I_bitCount 0 = .ok (.iload_n 0, 1) := by decide +kernel
theorem d_I_bitCount_1 : decode b_I_bitCount 1 = .ok (.iload_n 0, 1) := by decide +kernel
theorem d_I_bitCount_2 : decode b_I_bitCount 2 = .ok (.iconst 1, 1) := by decide +kernel
theorem d_I_bitCount_3 : decode b_I_bitCount 3 = .ok (.iushr, 1) := by decide +kernel
theorem d_I_bitCount_4 : decode b_I_bitCount 4 = .ok (.ldc_w 265, 3) := by decide +kernel
theorem d_I_bitCount_7 : decode b_I_bitCount 7 = .ok (.iand, 1) := by decide +kernel
theorem d_I_bitCount_8 : decode b_I_bitCount 8 = .ok (.isub, 1) := by decide +kernel
theorem d_I_bitCount_9 : decode b_I_bitCount 9 = .ok (.istore_n 0, 1) := by decide +kernel
theorem d_I_bitCount_10 : decode b_I_bitCount 10 = .ok (.iload_n 0, 1) := by decide +kernel
theorem d_I_bitCount_11 : decode b_I_bitCount 11 = .ok (.ldc_w 266, 3) := by decide +kernel
theorem d_I_bitCount_14 : decode b_I_bitCount 14 = .ok (.iand, 1) := by decide +kernel
theorem d_I_bitCount_15 : decode b_I_bitCount 15 = .ok (.iload_n 0, 1) := by decide +kernel
theorem d_I_bitCount_16 : decode b_I_bitCount 16 = .ok (.iconst 2, 1) := by decide +kernel
theorem d_I_bitCount_17 : decode b_I_bitCount 17 = .ok (.iushr, 1) := by decide +kernel
theorem d_I_bitCount_18 : decode b_I_bitCount 18 = .ok (.ldc_w 266, 3) := by decide +kernel
theorem d_I_bitCount_21 : decode b_I_bitCount 21 = .ok (.iand, 1) := by decide +kernel
theorem d_I_bitCount_22 : decode b_I_bitCount 22 = .ok (.iadd, 1) := by decide +kernel
theorem d_I_bitCount_23 : decode b_I_bitCount 23 = .ok (.istore_n 0, 1) := by decide +kernel
theorem d_I_bitCount_24 : decode b_I_bitCount 24 = .ok (.iload_n 0, 1) := by decide +kernel
theorem d_I_bitCount_25 : decode b_I_bitCount 25 = .ok (.iload_n 0, 1) := by decide +kernel
theorem d_I_bitCount_26 : decode b_I_bitCount 26 = .ok (.iconst 4, 1) := by decide +kernel
theorem d_I_bitCount_27 : decode b_I_bitCount 27 = .ok (.iushr, 1) := by decide +kernel
theorem d_I_bitCount_28 : decode b_I_bitCount 28 = .ok (.iadd, 1) := by decide +kernel
theorem d_I_bitCount_29 : decode b_I_bitCount 29 = .ok (.ldc_w 267, 3) := by decide +kernel
theorem d_I_bitCount_32 : decode b_I_bitCount 32 = .ok (.iand, 1) := by decide +kernel
theorem d_I_bitCount_33 : decode b_I_bitCount 33 = .ok (.istore_n 0, 1) := by decide +kernel
theorem d_I_bitCount_34 : decode b_I_bitCount 34 = .ok (.iload_n 0, 1) := by decide +kernel
theorem d_I_bitCount_35 : decode b_I_bitCount 35 = .ok (.iload_n 0, 1) := by decide +kernel
theorem d_I_bitCount_36 : decode b_I_bitCount 36 = .ok (.bipush 8, 2) := by decide +kernel
theorem d_I_bitCount_38 : decode b_I_bitCount 38 = .ok (.iushr, 1) := by decide +kernel
theorem d_I_bitCount_39 : decode b_I_bitCount 39 = .ok (.iadd, 1) := by decide +kernel
theorem d_I_bitCount_40 : decode b_I_bitCount 40 = .ok (.istore_n 0, 1) := by decide +kernel
theorem d_I_bitCount_41 : decode b_I_bitCount 41 = .ok (.iload_n 0, 1) := by decide +kernel
theorem d_I_bitCount_42 : decode b_I_bitCount 42 = .ok (.iload_n 0, 1) := by decide +kernel
theorem d_I_bitCount_43 : decode b_I_bitCount 43 = .ok (.bipush 16, 2) := by decide +kernel
theorem d_I_bitCount_45 : decode b_I_bitCount 45 = .ok (.iushr, 1) := by decide +kernel
theorem d_I_bitCount_46 : decode b_I_bitCount 46 = .ok (.iadd, 1) := by decide +kernel
theorem d_I_bitCount_47 : decode b_I_bitCount 47 = .ok (.istore_n 0, 1) := by decide +kernel
theorem d_I_bitCount_48 : decode b_I_bitCount 48 = .ok (.iload_n 0, 1) := by decide +kernel
theorem d_I_bitCount_49 : decode b_I_bitCount 49 = .ok (.bipush 63, 2) := by decide +kernel
theorem d_I_bitCount_51 : decode b_I_bitCount 51 = .ok (.iand, 1) := by decide +kernel
theorem d_I_bitCount_52 : decode b_I_bitCount 52 = .ok (.ireturn, 1) := by decide +kernel
end
section
/-! FLAT MEMORY. Every cell that the law's run makes has a NAME, a number: its address is base + name. A memory M gives each name's ints (M.1 name place) and references by name (M.2 name place); zSh says what kind of cell a name is. -/
abbrev fl_M : Type := (Nat → Nat → Int32) × (Nat → Nat → Option Nat)
abbrev fl_H : Type := (Nat × List Bool) ⊕ (Nat × Nat × Bool)
abbrev fl_W : Type := va_G × (Nat → ClassId) × Nat
def fl_v (b : Nat) (i : Int32) (r : Option Nat) (k : Bool) : Value := match k with
  | true => va_rf (r.map (fun n => b + n))
  | false => .int i
def fl_fs (b : Nat) (fi : Nat → Int32) (fr : Nat → Option Nat) : Nat → List Bool → List Value
  | _, [] => []
  | k, x :: xs => fl_v b (fi k) (fr k) x :: fl_fs b fi fr (k + 1) xs
theorem fl_fs_get (b : Nat) (fi : Nat → Int32) (fr : Nat → Option Nat) : ∀ (bs : List Bool) (k j : Nat), (fl_fs b fi fr k bs)[j]? = (bs[j]?).map (fun x => fl_v b (fi (k + j)) (fr (k + j)) x) := by
  intro bs
  induction bs with
  | nil => intro k j; simp [fl_fs]
  | cons x xs ih =>
    intro k j
    cases j with
    | zero => simp [fl_fs]
    | succ j =>
      simp only [fl_fs, List.getElem?_cons_succ]
      rw [ih (k + 1) j, show k + 1 + j = k + (j + 1) by omega]
theorem fl_fs_len (b : Nat) (fi : Nat → Int32) (fr : Nat → Option Nat) : ∀ (bs : List Bool) (k : Nat), (fl_fs b fi fr k bs).length = bs.length := by
  intro bs
  induction bs with
  | nil => intro k; rfl
  | cons x xs ih => intro k; simp [fl_fs, ih]
theorem fl_fs_set {b : Nat} {fi fi' : Nat → Int32} {fr fr' : Nat → Option Nat} {bs : List Bool} {j : Nat} {v : Value} (h : ∀ i, i ≠ j → fi' i = fi i ∧ fr' i = fr i) (hv : ∀ x, bs[j]? = some x → fl_v b (fi' j) (fr' j) x = v) : (fl_fs b fi fr 0 bs).set j v = fl_fs b fi' fr' 0 bs := by
  apply List.ext_getElem?
  intro i
  rw [List.getElem?_set, fl_fs_len, fl_fs_get, fl_fs_get]
  simp only [Nat.zero_add]
  by_cases h1 : j = i
  · subst h1
    rw [if_pos rfl]
    by_cases h2 : j < bs.length
    · rw [if_pos h2, List.getElem?_eq_getElem h2]
      simp only [Option.map_some]
      rw [hv _ (List.getElem?_eq_getElem h2)]
    · rw [if_neg h2, List.getElem?_eq_none (by omega)]
      rfl
  · rw [if_neg h1, (h i (Ne.symm h1)).1, (h i (Ne.symm h1)).2]
def fl_c (w : fl_W) (sh : fl_H) (fi : Nat → Int32) (fr : Nat → Option Nat) : va_E := match sh with
  | .inl (ci, bs) => .inr (ci, fl_fs w.2.2 fi fr 0 bs)
  | .inr (t, n, false) => .inl (w.2.1 t, n, .inl fi)
  | .inr (t, n, true) => .inl (w.2.1 t, n, .inr (.inr (.inr (.inr (fun i => (fr i).map (fun n => w.2.2 + n))))))
def fl_ws (sh : Nat → fl_H) (w : fl_W) (N : Nat) (M : fl_M) : va_W := (List.range N).map (fun n => (w.2.2 + n, fl_c w (sh n) (M.1 n) (M.2 n)))
theorem fl_ws_len {sh : Nat → fl_H} {w : fl_W} {N : Nat} {M : fl_M} : (fl_ws sh w N M).length = N := by simp [fl_ws]
theorem fl_ws_get {sh : Nat → fl_H} {w : fl_W} {N n : Nat} {M : fl_M} (h : n < N) : (fl_ws sh w N M)[n]? = some (w.2.2 + n, fl_c w (sh n) (M.1 n) (M.2 n)) := by
  simp [fl_ws, h]
theorem fl_ws_at {sh : Nat → fl_H} {w : fl_W} {N n : Nat} {M : fl_M} {q : Nat × va_E} (h : (fl_ws sh w N M)[n]? = some q) : n < N ∧ q = (w.2.2 + n, fl_c w (sh n) (M.1 n) (M.2 n)) := by
  have hl := (List.getElem?_eq_some_iff.mp h).1
  rw [fl_ws_len] at hl
  rw [fl_ws_get hl] at h
  exact ⟨hl, (Option.some.inj h).symm⟩
theorem fl_ws_set {sh : Nat → fl_H} {w : fl_W} {N n : Nat} {M M' : fl_M} {e : va_E} (ho : ∀ k, k ≠ n → M'.1 k = M.1 k ∧ M'.2 k = M.2 k) (he : e = fl_c w (sh n) (M'.1 n) (M'.2 n)) : (fl_ws sh w N M).set n (w.2.2 + n, e) = fl_ws sh w N M' := by
  apply List.ext_getElem?
  intro i
  rw [List.getElem?_set, fl_ws_len]
  by_cases h1 : n = i
  · subst h1
    rw [if_pos rfl]
    by_cases h2 : n < N
    · rw [if_pos h2, fl_ws_get h2, he]
    · rw [if_neg h2, List.getElem?_eq_none (by rw [fl_ws_len]; omega)]
  · rw [if_neg h1]
    by_cases h2 : i < N
    · rw [fl_ws_get h2, fl_ws_get h2, (ho i (Ne.symm h1)).1, (ho i (Ne.symm h1)).2]
    · rw [List.getElem?_eq_none (by rw [fl_ws_len]; omega), List.getElem?_eq_none (by rw [fl_ws_len]; omega)]
theorem fl_ws_D {sh : Nat → fl_H} {w : fl_W} {N : Nat} {M : fl_M} : va_D (fun q : Nat => w.2.2 ≤ q) (fl_ws sh w N M) := by
  refine ⟨fun i j p q hp hq hpq => ?_, fun k q hq => ?_⟩
  · rw [(fl_ws_at hp).2, (fl_ws_at hq).2] at hpq
    dsimp only at hpq
    omega
  · rw [(fl_ws_at hq).2]
    show w.2.2 ≤ w.2.2 + k
    omega
/-- stores -/
def fl_u {α : Type} (f : Nat → Nat → α) (n k : Nat) (v : α) : Nat → Nat → α := fun a b => if a = n ∧ b = k then v else f a b
def wI (M : fl_M) (n k : Nat) (v : Int32) : fl_M := (fl_u M.1 n k v, M.2)
def wR (M : fl_M) (n k : Nat) (r : Option Nat) : fl_M := (M.1, fl_u M.2 n k r)
theorem fl_u_self {α : Type} {f : Nat → Nat → α} {n k : Nat} {v : α} : fl_u f n k v n k = v := if_pos ⟨rfl, rfl⟩
theorem fl_u_row {α : Type} {f : Nat → Nat → α} {n k a : Nat} {v : α} (h : a ≠ n) : fl_u f n k v a = f a := by
  funext b
  exact if_neg fun q => h q.1
theorem fl_u_col {α : Type} {f : Nat → Nat → α} {n k a b : Nat} {v : α} (h : b ≠ k) : fl_u f n k v a b = f a b := if_neg fun q => h q.2
end
section
/-! THE STATE'S SHAPE: which name is which cell. Judge 0, its array of baselines 1, baselines 2 and 137 (their array of types +1, type t at +2 + 11 t with interfaces, members' array and 8 members behind it, the field owners +134), comparison 272 .. 276, suppressed 277; the reference 278, its arrays 279 .. 294. -/
abbrev zsJ : fl_H := .inl (0, [true, true, true])
abbrev zsB : fl_H := .inl (1, [true, true])
abbrev zsC : fl_H := .inl (2, [true, true, true, false, false, true])
abbrev zsT : fl_H := .inl (3, [false, false, false, false, true, false, true, false, false, false])
abbrev zsM : fl_H := .inl (4, [false, false, false, false, false])
abbrev zsR : fl_H := .inl (5, [true, true, true, true, true, true, true, true, true, true, true, true, true, true, true, false, false, false, false, false, false, true])
abbrev zaI (n : Nat) : fl_H := .inr (0, n, false)
abbrev zaZ (n : Nat) : fl_H := .inr (1, n, false)
abbrev zaB : fl_H := .inr (2, 2, true)
abbrev zaT : fl_H := .inr (3, 12, true)
abbrev zaM : fl_H := .inr (4, 8, true)
def zlT : List fl_H := [zsT, zaI 3, zaM, zsM, zsM, zsM, zsM, zsM, zsM, zsM, zsM]
def zlB : List fl_H := [zsB, zaT] ++ (zlT ++ zlT ++ zlT ++ zlT ++ zlT ++ zlT ++ zlT ++ zlT ++ zlT ++ zlT ++ zlT ++ zlT) ++ [zaI 12]
def zlR : List fl_H := [zsR, zaZ 24, zaI 24, zaI 24, zaI 24, zaI 24, zaI 72, zaI 24, zaI 192, zaI 192, zaI 192, zaZ 192, zaI 192, zaZ 168, zaZ 12, zaI 48, zaI 14]
def zlA : List fl_H := [zsJ, zaB] ++ zlB ++ zlB ++ [zsC, zaI 636, zaI 636, zaI 636, zaM, zaI 14] ++ zlR
def zSh (n : Nat) : fl_H := zlA.getD n (.inl (9, []))
abbrev zN : Nat := 295
theorem zlA_len : zlA.length = 295 := by decide +kernel
theorem zSh_lt {n : Nat} (h : zSh n ≠ .inl (9, [])) : n < zN := by
  rcases Nat.lt_or_ge n 295 with q | q
  · exact q
  · exact absurd (by unfold zSh; rw [List.getD_eq_getElem?_getD, List.getElem?_eq_none (by rw [zlA_len]; exact q)]; rfl) h
abbrev zTy (w : fl_W) : List (ClassId × FieldType) := [(w.2.1 0, .int), (w.2.1 1, .boolean), (w.2.1 2, .object "CompatibilityJudge$Baseline"), (w.2.1 3, .object "CompatibilityJudge$Type"), (w.2.1 4, .object "CompatibilityJudge$Member")]
/-- the class's two constant arrays -/
def zKL (j : Nat) : Int32 := [64, 512, 8].getD j 0
def zSV (j : Nat) : Int32 := [3, 3, 2, 2, 3, 3, 3, 3, 2, 1, 3, 2, 2, 1].getD j 0
def zS1 (w : fl_W) (U : State) (H : Heap) : Prop := ∃ t1 t2 : Nat, va_Z "CompatibilityJudge" "KEY_LIMITS" "[I" (.ref t1) (fun q : Nat => w.2.2 ≤ q) U H ∧ va_T .int t1 3 (fun j => .int (zKL j)) (fun q : Nat => w.2.2 ≤ q) U H ∧ va_Z "CompatibilityJudge" "SEVERITIES" "[I" (.ref t2) (fun q : Nat => w.2.2 ≤ q) U H ∧ va_T .int t2 14 (fun j => .int (zSV j)) (fun q : Nat => w.2.2 ≤ q) U H
/-- the words that the tables keep in another way: calls of nest mates, arrays of objects -/
def zS2 (U : State) : Prop := (va_Nw (.methodLinkNest "CompatibilityJudge$Type" 21 y_M_init "CompatibilityJudge") U ∧ va_Nw (.methodLinkNest "CompatibilityJudge$Baseline" 60 y_J_isWithin "CompatibilityJudge") U ∧ va_Nw (.methodLinkNest "CompatibilityJudge$Baseline" 78 y_J_contains "CompatibilityJudge") U ∧ va_Nw (.methodLinkNest "CompatibilityJudge$Comparison" 79 y_J_contains "CompatibilityJudge") U) ∧ va_AO "CompatibilityJudge$Baseline" U ∧ va_AO "CompatibilityJudge$Type" U ∧ va_AO "CompatibilityJudge$Member" U
def zS (w : fl_W) (U : State) (H : Heap) : Prop := zS1 w U H ∧ zS2 U
theorem zS.warm {w : fl_W} {u U : State} {H : Heap} (hW : u.WarmedH U.vm) (h : zS w u H) : zS w U H := by
  obtain ⟨⟨t1, t2, a, b, c, d⟩, ⟨n1, n2, n3, n4⟩, a1, a2, a3⟩ := h
  exact ⟨⟨t1, t2, a.moved hW.alike, b.moved hW.alike, c.moved hW.alike, d.moved hW.alike⟩, ⟨n1.warmM hW, n2.warmM hW, n3.warmM hW, n4.warmM hW⟩, a1.moved hW.alike, a2.moved hW.alike, a3.moved hW.alike⟩
theorem zS.same {w : fl_W} {u U : State} {H : Heap} (hv : u.vm = U.vm) (h : zS w u H) : zS w U H := by
  obtain ⟨⟨t1, t2, a, b, c, d⟩, ⟨n1, n2, n3, n4⟩, a1, a2, a3⟩ := h
  have hA : u.vm.Alike U.vm := by rw [hv]; exact Vm.Alike.refl _
  exact ⟨⟨t1, t2, a.moved hA, b.moved hA, c.moved hA, d.moved hA⟩, ⟨va_tabs rfl hv n1, va_tabs rfl hv n2, va_tabs rfl hv n3, va_tabs rfl hv n4⟩, a1.moved hA, a2.moved hA, a3.moved hA⟩
theorem zS.kept {w : fl_W} {U : State} {H H1 : Heap} (h : zS w U H) (hq : ∀ a : Nat, a < H.size → ¬ w.2.2 ≤ a → H1[a]? = H[a]?) : zS w U H1 := by
  obtain ⟨⟨t1, t2, a, b, c, d⟩, h2⟩ := h
  exact ⟨⟨t1, t2, a.kept hq, b.kept hq, c.kept hq, d.kept hq⟩, h2⟩
/-- truth as an int -/
def bI (P : Prop) [Decidable P] : Int32 := if P then 1 else 0
theorem bI_t {P : Prop} [Decidable P] (h : P) : bI P = 1 := if_pos h
theorem bI_f {P : Prop} [Decidable P] (h : ¬ P) : bI P = 0 := if_neg h
theorem bI_e {P : Prop} [Decidable P] : bI P = 0 ↔ ¬ P := by
  unfold bI
  by_cases h : P
  · simp [h]
  · simp [h]
theorem bI_n {P : Prop} [Decidable P] : narrow .boolean (.int (bI P)) = .int (bI P) := by
  unfold bI
  by_cases h : P
  · rw [if_pos h]; rfl
  · rw [if_neg h]; rfl
theorem bI_ft {P : Prop} [Decidable P] : fits .boolean (.int (bI P)) = true := by
  unfold bI
  by_cases h : P
  · rw [if_pos h]; rfl
  · rw [if_neg h]; rfl
theorem bI_c {P Q : Prop} [Decidable P] [Decidable Q] (h : P ↔ Q) : bI P = bI Q := by
  unfold bI
  by_cases p : P
  · rw [if_pos p, if_pos (h.mp p)]
  · rw [if_neg p, if_neg (fun q => p (h.mpr q))]
/-- a truth that is kept -/
def isZ (x : Int32) : Prop := x = 0 ∨ x = 1
theorem isZ_n {x : Int32} (h : isZ x) : narrow .boolean (.int x) = .int x := by rcases h with rfl | rfl <;> rfl
theorem isZ_ft {x : Int32} (h : isZ x) : fits .boolean (.int x) = true := by rcases h with rfl | rfl <;> rfl
theorem isZ_v {x : Int32} (h : isZ x) : vp_nar .boolean x = x := by rcases h with rfl | rfl <;> rfl
theorem isZ_b {P : Prop} [Decidable P] : isZ (bI P) := by
  unfold bI
  by_cases h : P
  · rw [if_pos h]; exact Or.inr rfl
  · rw [if_neg h]; exact Or.inl rfl
end
section
/-! THE ROWS OVER THE FLAT MEMORY. XC: what holds all through a method; XW: the kit's W for every heap that holds the memory M, every array of locals that has lv. -/
def XC (p : Program) (s : State) (m : MethodId) (args : Array Value) (meth : Method) (c : Code) (cc : ByteArray) (nL : Nat) (ret : Option FieldType) (Ts : List Cond) (own : String) (w : fl_W) : Prop :=
  p.tables.exec = Jvm.exec ∧ c.code = cc ∧ c.maxLocals = nL ∧ s.vm.findClass own = some m.cls ∧ (∀ t ∈ Ts, t.before args s = true) ∧ va_K w.1 zCl (zTy w) s ∧ meth.locks = false ∧ meth.sig.returnType = ret ∧ zS w s s.heap
def XW (p : Program) (l : Launch) (e : Env) (R : Room) (s : State) (m : MethodId) (args : Array Value) (below : List Frame) (meth : Method) (c : Code) (nL cells slots : Nat) (Q : State → Prop) (w : fl_W) (N : Nat) (M : fl_M) (pc : Nat) (lv : List (Nat × Value)) (st : List Value) : Prop :=
  ∀ (H : Heap) (locs : List Loc) (ls : Array Slot), va_P w.1 zCl (fl_ws zSh w N M) H → va_S (fun q : Nat => w.2.2 ≤ q) s.heap H locs → lv_has ls nL lv → W p l e R s m args below meth c H locs cells slots Q (F0 m pc ls st)
section XR
variable {p : Program} {l : Launch} {e : Env} {R : Room} {s : State} {m : MethodId} {args : Array Value} {below : List Frame} {meth : Method} {c : Code} {nL cells slots : Nat} {Q : State → Prop} {cc : ByteArray} {ret : Option FieldType} {Ts : List Cond} {own : String} {w : fl_W} {N : Nat} {M M' : fl_M} {pc : Nat} {lv lv' : List (Nat × Value)} {st : List Value}
theorem XC.x (K : XC p s m args meth c cc nL ret Ts own w) : p.tables.exec = Jvm.exec := K.1
theorem XC.b (K : XC p s m args meth c cc nL ret Ts own w) : c.code = cc := K.2.1
theorem XC.ml (K : XC p s m args meth c cc nL ret Ts own w) : c.maxLocals = nL := K.2.2.1
theorem XC.o (K : XC p s m args meth c cc nL ret Ts own w) : s.vm.findClass own = some m.cls := K.2.2.2.1
theorem XC.ts (K : XC p s m args meth c cc nL ret Ts own w) : ∀ t ∈ Ts, t.before args s = true := K.2.2.2.2.1
theorem XC.K (K : XC p s m args meth c cc nL ret Ts own w) : va_K w.1 zCl (zTy w) s := K.2.2.2.2.2.1
theorem XC.lk (K : XC p s m args meth c cc nL ret Ts own w) : meth.locks = false := K.2.2.2.2.2.2.1
theorem XC.rt (K : XC p s m args meth c cc nL ret Ts own w) : meth.sig.returnType = ret := K.2.2.2.2.2.2.2.1
theorem XC.S (K : XC p s m args meth c cc nL ret Ts own w) : zS w s s.heap := K.2.2.2.2.2.2.2.2
theorem x_iconst (K : XC p s m args meth c cc nL ret Ts own w) {n : Int} {v : Int32} (hd : decode cc pc = .ok (.iconst n, 1)) (hv : Int32.ofInt n = v) (kk : XW p l e R s m args below meth c nL cells slots Q w N M (pc + 1) lv (.int v :: st)) : XW p l e R s m args below meth c nL cells slots Q w N M (pc) lv (st) := fun H locs ls hP hS hl => lv_iconst K.x K.b hd hv (kk H locs ls hP hS hl)
theorem x_bipush (K : XC p s m args meth c cc nL ret Ts own w) {n : Int} {v : Int32} (hd : decode cc pc = .ok (.bipush n, 2)) (hv : (Int8.ofInt n).toInt32 = v) (kk : XW p l e R s m args below meth c nL cells slots Q w N M (pc + 2) lv (.int v :: st)) : XW p l e R s m args below meth c nL cells slots Q w N M (pc) lv (st) := fun H locs ls hP hS hl => lv_bipush K.x K.b hd hv (kk H locs ls hP hS hl)
theorem x_sipush (K : XC p s m args meth c cc nL ret Ts own w) {n : Int} {v : Int32} (hd : decode cc pc = .ok (.sipush n, 3)) (hv : (Int16.ofInt n).toInt32 = v) (kk : XW p l e R s m args below meth c nL cells slots Q w N M (pc + 3) lv (.int v :: st)) : XW p l e R s m args below meth c nL cells slots Q w N M (pc) lv (st) := fun H locs ls hP hS hl => lv_sipush K.x K.b hd hv (kk H locs ls hP hS hl)
theorem x_null (K : XC p s m args meth c cc nL ret Ts own w)  (hd : decode cc pc = .ok (.aconst_null, 1)) (kk : XW p l e R s m args below meth c nL cells slots Q w N M (pc + 1) lv (.null :: st)) : XW p l e R s m args below meth c nL cells slots Q w N M (pc) lv (st) := fun H locs ls hP hS hl => lv_null K.x K.b hd (kk H locs ls hP hS hl)
theorem x_iload_n (K : XC p s m args meth c cc nL ret Ts own w) {k : Fin 4} {x : Int32} (j : Nat) (hd : decode cc pc = .ok (.iload_n k, 1)) (hj : lv[j]? = some ((k : Nat), .int x)) (kk : XW p l e R s m args below meth c nL cells slots Q w N M (pc + 1) lv (.int x :: st)) : XW p l e R s m args below meth c nL cells slots Q w N M (pc) lv (st) := fun H locs ls hP hS hl => lv_iload_n K.x K.b hd rfl (lv_at hl j hj) (kk H locs ls hP hS hl)
theorem x_iload (K : XC p s m args meth c cc nL ret Ts own w) {k : Nat} {x : Int32} (j : Nat) (hd : decode cc pc = .ok (.iload k, 2)) (hj : lv[j]? = some (k, .int x)) (kk : XW p l e R s m args below meth c nL cells slots Q w N M (pc + 2) lv (.int x :: st)) : XW p l e R s m args below meth c nL cells slots Q w N M (pc) lv (st) := fun H locs ls hP hS hl => lv_iload K.x K.b hd (lv_at hl j hj) (kk H locs ls hP hS hl)
theorem x_aload_n (K : XC p s m args meth c cc nL ret Ts own w) {k : Fin 4} {x : Nat} (j : Nat) (hd : decode cc pc = .ok (.aload_n k, 1)) (hj : lv[j]? = some ((k : Nat), .ref x)) (kk : XW p l e R s m args below meth c nL cells slots Q w N M (pc + 1) lv (.ref x :: st)) : XW p l e R s m args below meth c nL cells slots Q w N M (pc) lv (st) := fun H locs ls hP hS hl => lv_aload_n K.x K.b hd rfl (lv_at hl j hj) (kk H locs ls hP hS hl)
theorem x_aload (K : XC p s m args meth c cc nL ret Ts own w) {k : Nat} {x : Nat} (j : Nat) (hd : decode cc pc = .ok (.aload k, 2)) (hj : lv[j]? = some (k, .ref x)) (kk : XW p l e R s m args below meth c nL cells slots Q w N M (pc + 2) lv (.ref x :: st)) : XW p l e R s m args below meth c nL cells slots Q w N M (pc) lv (st) := fun H locs ls hP hS hl => lv_aload K.x K.b hd (lv_at hl j hj) (kk H locs ls hP hS hl)
theorem x_aload_nN (K : XC p s m args meth c cc nL ret Ts own w) {k : Fin 4} (j : Nat) (hd : decode cc pc = .ok (.aload_n k, 1)) (hj : lv[j]? = some ((k : Nat), .null)) (kk : XW p l e R s m args below meth c nL cells slots Q w N M (pc + 1) lv (.null :: st)) : XW p l e R s m args below meth c nL cells slots Q w N M (pc) lv (st) := fun H locs ls hP hS hl => lv_aload_nN K.x K.b hd rfl (lv_at hl j hj) (kk H locs ls hP hS hl)
theorem x_aloadN (K : XC p s m args meth c cc nL ret Ts own w) {k : Nat} (j : Nat) (hd : decode cc pc = .ok (.aload k, 2)) (hj : lv[j]? = some (k, .null)) (kk : XW p l e R s m args below meth c nL cells slots Q w N M (pc + 2) lv (.null :: st)) : XW p l e R s m args below meth c nL cells slots Q w N M (pc) lv (st) := fun H locs ls hP hS hl => lv_aloadN K.x K.b hd (lv_at hl j hj) (kk H locs ls hP hS hl)
theorem x_istore_n (K : XC p s m args meth c cc nL ret Ts own w) {k : Fin 4} {x : Int32} (hd : decode cc pc = .ok (.istore_n k, 1)) (hn : (k : Nat) < nL) (hl9 : ((k : Nat), Value.int x) :: lv.filter (fun q => !(q.1 == (k : Nat)) && !(q.1 + 1 == (k : Nat) && q.2.category == 2)) = lv') (kk : XW p l e R s m args below meth c nL cells slots Q w N M (pc + 1) lv' (st)) : XW p l e R s m args below meth c nL cells slots Q w N M (pc) lv (Value.int x :: st) := fun H locs ls hP hS hl => lv_istore_n K.x K.b hd rfl hl hn hl9 (fun ls9 h9 => kk H locs ls9 hP hS h9)
theorem x_istore (K : XC p s m args meth c cc nL ret Ts own w) {k : Nat} {x : Int32} (hd : decode cc pc = .ok (.istore k, 2)) (hn : k < nL) (hl9 : (k, Value.int x) :: lv.filter (fun q => !(q.1 == k) && !(q.1 + 1 == k && q.2.category == 2)) = lv') (kk : XW p l e R s m args below meth c nL cells slots Q w N M (pc + 2) lv' (st)) : XW p l e R s m args below meth c nL cells slots Q w N M (pc) lv (Value.int x :: st) := fun H locs ls hP hS hl => lv_istore K.x K.b hd hl hn hl9 (fun ls9 h9 => kk H locs ls9 hP hS h9)
theorem x_astore_n (K : XC p s m args meth c cc nL ret Ts own w) {k : Fin 4} {x : Nat} (hd : decode cc pc = .ok (.astore_n k, 1)) (hn : (k : Nat) < nL) (hl9 : ((k : Nat), Value.ref x) :: lv.filter (fun q => !(q.1 == (k : Nat)) && !(q.1 + 1 == (k : Nat) && q.2.category == 2)) = lv') (kk : XW p l e R s m args below meth c nL cells slots Q w N M (pc + 1) lv' (st)) : XW p l e R s m args below meth c nL cells slots Q w N M (pc) lv (Value.ref x :: st) := fun H locs ls hP hS hl => lv_astore_n K.x K.b hd rfl hl hn hl9 (fun ls9 h9 => kk H locs ls9 hP hS h9)
theorem x_astore (K : XC p s m args meth c cc nL ret Ts own w) {k : Nat} {x : Nat} (hd : decode cc pc = .ok (.astore k, 2)) (hn : k < nL) (hl9 : (k, Value.ref x) :: lv.filter (fun q => !(q.1 == k) && !(q.1 + 1 == k && q.2.category == 2)) = lv') (kk : XW p l e R s m args below meth c nL cells slots Q w N M (pc + 2) lv' (st)) : XW p l e R s m args below meth c nL cells slots Q w N M (pc) lv (Value.ref x :: st) := fun H locs ls hP hS hl => lv_astore K.x K.b hd hl hn hl9 (fun ls9 h9 => kk H locs ls9 hP hS h9)
theorem x_astore_nN (K : XC p s m args meth c cc nL ret Ts own w) {k : Fin 4} (hd : decode cc pc = .ok (.astore_n k, 1)) (hn : (k : Nat) < nL) (hl9 : ((k : Nat), Value.null) :: lv.filter (fun q => !(q.1 == (k : Nat)) && !(q.1 + 1 == (k : Nat) && q.2.category == 2)) = lv') (kk : XW p l e R s m args below meth c nL cells slots Q w N M (pc + 1) lv' (st)) : XW p l e R s m args below meth c nL cells slots Q w N M (pc) lv (Value.null :: st) := fun H locs ls hP hS hl => lv_astore_nN K.x K.b hd rfl hl hn hl9 (fun ls9 h9 => kk H locs ls9 hP hS h9)
theorem x_astoreN (K : XC p s m args meth c cc nL ret Ts own w) {k : Nat} (hd : decode cc pc = .ok (.astore k, 2)) (hn : k < nL) (hl9 : (k, Value.null) :: lv.filter (fun q => !(q.1 == k) && !(q.1 + 1 == k && q.2.category == 2)) = lv') (kk : XW p l e R s m args below meth c nL cells slots Q w N M (pc + 2) lv' (st)) : XW p l e R s m args below meth c nL cells slots Q w N M (pc) lv (Value.null :: st) := fun H locs ls hP hS hl => lv_astoreN K.x K.b hd hl hn hl9 (fun ls9 h9 => kk H locs ls9 hP hS h9)
theorem x_iinc (K : XC p s m args meth c cc nL ret Ts own w) {i : Nat} {n : Int} {x v : Int32} (j : Nat) (hd : decode cc pc = .ok (.iinc i n, 3)) (hj : lv[j]? = some (i, .int x)) (hv : x + Int32.ofInt n = v) (hn : i < nL) (hl9 : (i, Value.int v) :: lv.filter (fun q => !(q.1 == i) && !(q.1 + 1 == i && q.2.category == 2)) = lv') (kk : XW p l e R s m args below meth c nL cells slots Q w N M (pc + 3) lv' (st)) : XW p l e R s m args below meth c nL cells slots Q w N M (pc) lv (st) := fun H locs ls hP hS hl => lv_iinc K.x K.b hd hl hj hv hn hl9 (fun ls9 h9 => kk H locs ls9 hP hS h9)
theorem x_iadd (K : XC p s m args meth c cc nL ret Ts own w) {x y : Int32} (hd : decode cc pc = .ok (.iadd, 1)) (kk : XW p l e R s m args below meth c nL cells slots Q w N M (pc + 1) lv (.int (x + y) :: st)) : XW p l e R s m args below meth c nL cells slots Q w N M (pc) lv (.int y :: .int x :: st) := fun H locs ls hP hS hl => lv_iadd K.x K.b hd (kk H locs ls hP hS hl)
theorem x_isub (K : XC p s m args meth c cc nL ret Ts own w) {x y : Int32} (hd : decode cc pc = .ok (.isub, 1)) (kk : XW p l e R s m args below meth c nL cells slots Q w N M (pc + 1) lv (.int (x - y) :: st)) : XW p l e R s m args below meth c nL cells slots Q w N M (pc) lv (.int y :: .int x :: st) := fun H locs ls hP hS hl => lv_isub K.x K.b hd (kk H locs ls hP hS hl)
theorem x_imul (K : XC p s m args meth c cc nL ret Ts own w) {x y : Int32} (hd : decode cc pc = .ok (.imul, 1)) (kk : XW p l e R s m args below meth c nL cells slots Q w N M (pc + 1) lv (.int (x * y) :: st)) : XW p l e R s m args below meth c nL cells slots Q w N M (pc) lv (.int y :: .int x :: st) := fun H locs ls hP hS hl => lv_imul K.x K.b hd (kk H locs ls hP hS hl)
theorem x_iand (K : XC p s m args meth c cc nL ret Ts own w) {x y : Int32} (hd : decode cc pc = .ok (.iand, 1)) (kk : XW p l e R s m args below meth c nL cells slots Q w N M (pc + 1) lv (.int (x &&& y) :: st)) : XW p l e R s m args below meth c nL cells slots Q w N M (pc) lv (.int y :: .int x :: st) := fun H locs ls hP hS hl => lv_iand K.x K.b hd (kk H locs ls hP hS hl)
theorem x_ior (K : XC p s m args meth c cc nL ret Ts own w) {x y : Int32} (hd : decode cc pc = .ok (.ior, 1)) (kk : XW p l e R s m args below meth c nL cells slots Q w N M (pc + 1) lv (.int (x ||| y) :: st)) : XW p l e R s m args below meth c nL cells slots Q w N M (pc) lv (.int y :: .int x :: st) := fun H locs ls hP hS hl => lv_ior K.x K.b hd (kk H locs ls hP hS hl)
theorem x_ixor (K : XC p s m args meth c cc nL ret Ts own w) {x y : Int32} (hd : decode cc pc = .ok (.ixor, 1)) (kk : XW p l e R s m args below meth c nL cells slots Q w N M (pc + 1) lv (.int (x ^^^ y) :: st)) : XW p l e R s m args below meth c nL cells slots Q w N M (pc) lv (.int y :: .int x :: st) := fun H locs ls hP hS hl => lv_ixor K.x K.b hd (kk H locs ls hP hS hl)
theorem x_ishl (K : XC p s m args meth c cc nL ret Ts own w) {x y : Int32} (hd : decode cc pc = .ok (.ishl, 1)) (kk : XW p l e R s m args below meth c nL cells slots Q w N M (pc + 1) lv (.int (x <<< (y &&& 31)) :: st)) : XW p l e R s m args below meth c nL cells slots Q w N M (pc) lv (.int y :: .int x :: st) := fun H locs ls hP hS hl => lv_ishl K.x K.b hd (kk H locs ls hP hS hl)
theorem x_ishr (K : XC p s m args meth c cc nL ret Ts own w) {x y : Int32} (hd : decode cc pc = .ok (.ishr, 1)) (kk : XW p l e R s m args below meth c nL cells slots Q w N M (pc + 1) lv (.int (x >>> (y &&& 31)) :: st)) : XW p l e R s m args below meth c nL cells slots Q w N M (pc) lv (.int y :: .int x :: st) := fun H locs ls hP hS hl => lv_ishr K.x K.b hd (kk H locs ls hP hS hl)
theorem x_dup (K : XC p s m args meth c cc nL ret Ts own w) {v : Value} (hd : decode cc pc = .ok (.dup, 1)) (hv : v.category = 1) (kk : XW p l e R s m args below meth c nL cells slots Q w N M (pc + 1) lv (v :: v :: st)) : XW p l e R s m args below meth c nL cells slots Q w N M (pc) lv (v :: st) := fun H locs ls hP hS hl => lv_dup K.x K.b hd hv (kk H locs ls hP hS hl)
theorem x_dup_x1 (K : XC p s m args meth c cc nL ret Ts own w) {v u : Value} (hd : decode cc pc = .ok (.dup_x1, 1)) (hv : v.category = 1) (hu : u.category = 1) (kk : XW p l e R s m args below meth c nL cells slots Q w N M (pc + 1) lv (v :: u :: v :: st)) : XW p l e R s m args below meth c nL cells slots Q w N M (pc) lv (v :: u :: st) := fun H locs ls hP hS hl => lv_dup_x1 K.x K.b hd hv hu (kk H locs ls hP hS hl)
theorem x_dup2 (K : XC p s m args meth c cc nL ret Ts own w) {v u : Value} (hd : decode cc pc = .ok (.dup2, 1)) (hv : v.category = 1) (hu : u.category = 1) (kk : XW p l e R s m args below meth c nL cells slots Q w N M (pc + 1) lv (v :: u :: v :: u :: st)) : XW p l e R s m args below meth c nL cells slots Q w N M (pc) lv (v :: u :: st) := fun H locs ls hP hS hl => lv_dup2_11 K.x K.b hd hv hu (kk H locs ls hP hS hl)
theorem x_pop (K : XC p s m args meth c cc nL ret Ts own w) {v : Value} (hd : decode cc pc = .ok (.pop, 1)) (hv : v.category = 1) (kk : XW p l e R s m args below meth c nL cells slots Q w N M (pc + 1) lv (st)) : XW p l e R s m args below meth c nL cells slots Q w N M (pc) lv (v :: st) := fun H locs ls hP hS hl => lv_pop K.x K.b hd hv (kk H locs ls hP hS hl)
theorem x_goto (K : XC p s m args meth c cc nL ret Ts own w) {off : Int} {tgt : Nat} (hd : decode cc pc = .ok (.goto off, 3)) (ht : (pc : Int) + off = (tgt : Int)) (kk : XW p l e R s m args below meth c nL cells slots Q w N M (tgt) lv (st)) : XW p l e R s m args below meth c nL cells slots Q w N M (pc) lv (st) := fun H locs ls hP hS hl => lv_goto K.x K.b hd ht (kk H locs ls hP hS hl)
theorem x_if_eq (K : XC p s m args meth c cc nL ret Ts own w) {x : Int32} {off : Int} {tgt : Nat} (hd : decode cc pc = .ok (.ifCond .eq off, 3)) (ht : (pc : Int) + off = (tgt : Int)) (kt : x = 0 → XW p l e R s m args below meth c nL cells slots Q w N M (tgt) lv (st)) (kf : ¬ x = 0 → XW p l e R s m args below meth c nL cells slots Q w N M (pc + 3) lv (st)) : XW p l e R s m args below meth c nL cells slots Q w N M (pc) lv (.int x :: st) := fun H locs ls hP hS hl => lv_if_eq K.x K.b hd ht (fun h9 => kt h9 H locs ls hP hS hl) (fun h9 => kf h9 H locs ls hP hS hl)
theorem x_icmp_eq (K : XC p s m args meth c cc nL ret Ts own w) {x y : Int32} {off : Int} {tgt : Nat} (hd : decode cc pc = .ok (.if_icmp .eq off, 3)) (ht : (pc : Int) + off = (tgt : Int)) (kt : x = y → XW p l e R s m args below meth c nL cells slots Q w N M (tgt) lv (st)) (kf : ¬ x = y → XW p l e R s m args below meth c nL cells slots Q w N M (pc + 3) lv (st)) : XW p l e R s m args below meth c nL cells slots Q w N M (pc) lv (.int y :: .int x :: st) := fun H locs ls hP hS hl => lv_icmp_eq K.x K.b hd ht (fun h9 => kt h9 H locs ls hP hS hl) (fun h9 => kf h9 H locs ls hP hS hl)
theorem x_if_ne (K : XC p s m args meth c cc nL ret Ts own w) {x : Int32} {off : Int} {tgt : Nat} (hd : decode cc pc = .ok (.ifCond .ne off, 3)) (ht : (pc : Int) + off = (tgt : Int)) (kt : ¬ x = 0 → XW p l e R s m args below meth c nL cells slots Q w N M (tgt) lv (st)) (kf : x = 0 → XW p l e R s m args below meth c nL cells slots Q w N M (pc + 3) lv (st)) : XW p l e R s m args below meth c nL cells slots Q w N M (pc) lv (.int x :: st) := fun H locs ls hP hS hl => lv_if_ne K.x K.b hd ht (fun h9 => kt h9 H locs ls hP hS hl) (fun h9 => kf h9 H locs ls hP hS hl)
theorem x_icmp_ne (K : XC p s m args meth c cc nL ret Ts own w) {x y : Int32} {off : Int} {tgt : Nat} (hd : decode cc pc = .ok (.if_icmp .ne off, 3)) (ht : (pc : Int) + off = (tgt : Int)) (kt : ¬ x = y → XW p l e R s m args below meth c nL cells slots Q w N M (tgt) lv (st)) (kf : x = y → XW p l e R s m args below meth c nL cells slots Q w N M (pc + 3) lv (st)) : XW p l e R s m args below meth c nL cells slots Q w N M (pc) lv (.int y :: .int x :: st) := fun H locs ls hP hS hl => lv_icmp_ne K.x K.b hd ht (fun h9 => kt h9 H locs ls hP hS hl) (fun h9 => kf h9 H locs ls hP hS hl)
theorem x_if_lt (K : XC p s m args meth c cc nL ret Ts own w) {x : Int32} {off : Int} {tgt : Nat} (hd : decode cc pc = .ok (.ifCond .lt off, 3)) (ht : (pc : Int) + off = (tgt : Int)) (kt : x < 0 → XW p l e R s m args below meth c nL cells slots Q w N M (tgt) lv (st)) (kf : ¬ x < 0 → XW p l e R s m args below meth c nL cells slots Q w N M (pc + 3) lv (st)) : XW p l e R s m args below meth c nL cells slots Q w N M (pc) lv (.int x :: st) := fun H locs ls hP hS hl => lv_if_lt K.x K.b hd ht (fun h9 => kt h9 H locs ls hP hS hl) (fun h9 => kf h9 H locs ls hP hS hl)
theorem x_icmp_lt (K : XC p s m args meth c cc nL ret Ts own w) {x y : Int32} {off : Int} {tgt : Nat} (hd : decode cc pc = .ok (.if_icmp .lt off, 3)) (ht : (pc : Int) + off = (tgt : Int)) (kt : x < y → XW p l e R s m args below meth c nL cells slots Q w N M (tgt) lv (st)) (kf : ¬ x < y → XW p l e R s m args below meth c nL cells slots Q w N M (pc + 3) lv (st)) : XW p l e R s m args below meth c nL cells slots Q w N M (pc) lv (.int y :: .int x :: st) := fun H locs ls hP hS hl => lv_icmp_lt K.x K.b hd ht (fun h9 => kt h9 H locs ls hP hS hl) (fun h9 => kf h9 H locs ls hP hS hl)
theorem x_if_ge (K : XC p s m args meth c cc nL ret Ts own w) {x : Int32} {off : Int} {tgt : Nat} (hd : decode cc pc = .ok (.ifCond .ge off, 3)) (ht : (pc : Int) + off = (tgt : Int)) (kt : 0 ≤ x → XW p l e R s m args below meth c nL cells slots Q w N M (tgt) lv (st)) (kf : ¬ 0 ≤ x → XW p l e R s m args below meth c nL cells slots Q w N M (pc + 3) lv (st)) : XW p l e R s m args below meth c nL cells slots Q w N M (pc) lv (.int x :: st) := fun H locs ls hP hS hl => lv_if_ge K.x K.b hd ht (fun h9 => kt h9 H locs ls hP hS hl) (fun h9 => kf h9 H locs ls hP hS hl)
theorem x_icmp_ge (K : XC p s m args meth c cc nL ret Ts own w) {x y : Int32} {off : Int} {tgt : Nat} (hd : decode cc pc = .ok (.if_icmp .ge off, 3)) (ht : (pc : Int) + off = (tgt : Int)) (kt : y ≤ x → XW p l e R s m args below meth c nL cells slots Q w N M (tgt) lv (st)) (kf : ¬ y ≤ x → XW p l e R s m args below meth c nL cells slots Q w N M (pc + 3) lv (st)) : XW p l e R s m args below meth c nL cells slots Q w N M (pc) lv (.int y :: .int x :: st) := fun H locs ls hP hS hl => lv_icmp_ge K.x K.b hd ht (fun h9 => kt h9 H locs ls hP hS hl) (fun h9 => kf h9 H locs ls hP hS hl)
theorem x_if_gt (K : XC p s m args meth c cc nL ret Ts own w) {x : Int32} {off : Int} {tgt : Nat} (hd : decode cc pc = .ok (.ifCond .gt off, 3)) (ht : (pc : Int) + off = (tgt : Int)) (kt : 0 < x → XW p l e R s m args below meth c nL cells slots Q w N M (tgt) lv (st)) (kf : ¬ 0 < x → XW p l e R s m args below meth c nL cells slots Q w N M (pc + 3) lv (st)) : XW p l e R s m args below meth c nL cells slots Q w N M (pc) lv (.int x :: st) := fun H locs ls hP hS hl => lv_if_gt K.x K.b hd ht (fun h9 => kt h9 H locs ls hP hS hl) (fun h9 => kf h9 H locs ls hP hS hl)
theorem x_icmp_gt (K : XC p s m args meth c cc nL ret Ts own w) {x y : Int32} {off : Int} {tgt : Nat} (hd : decode cc pc = .ok (.if_icmp .gt off, 3)) (ht : (pc : Int) + off = (tgt : Int)) (kt : y < x → XW p l e R s m args below meth c nL cells slots Q w N M (tgt) lv (st)) (kf : ¬ y < x → XW p l e R s m args below meth c nL cells slots Q w N M (pc + 3) lv (st)) : XW p l e R s m args below meth c nL cells slots Q w N M (pc) lv (.int y :: .int x :: st) := fun H locs ls hP hS hl => lv_icmp_gt K.x K.b hd ht (fun h9 => kt h9 H locs ls hP hS hl) (fun h9 => kf h9 H locs ls hP hS hl)
theorem x_if_le (K : XC p s m args meth c cc nL ret Ts own w) {x : Int32} {off : Int} {tgt : Nat} (hd : decode cc pc = .ok (.ifCond .le off, 3)) (ht : (pc : Int) + off = (tgt : Int)) (kt : x ≤ 0 → XW p l e R s m args below meth c nL cells slots Q w N M (tgt) lv (st)) (kf : ¬ x ≤ 0 → XW p l e R s m args below meth c nL cells slots Q w N M (pc + 3) lv (st)) : XW p l e R s m args below meth c nL cells slots Q w N M (pc) lv (.int x :: st) := fun H locs ls hP hS hl => lv_if_le K.x K.b hd ht (fun h9 => kt h9 H locs ls hP hS hl) (fun h9 => kf h9 H locs ls hP hS hl)
theorem x_icmp_le (K : XC p s m args meth c cc nL ret Ts own w) {x y : Int32} {off : Int} {tgt : Nat} (hd : decode cc pc = .ok (.if_icmp .le off, 3)) (ht : (pc : Int) + off = (tgt : Int)) (kt : x ≤ y → XW p l e R s m args below meth c nL cells slots Q w N M (tgt) lv (st)) (kf : ¬ x ≤ y → XW p l e R s m args below meth c nL cells slots Q w N M (pc + 3) lv (st)) : XW p l e R s m args below meth c nL cells slots Q w N M (pc) lv (.int y :: .int x :: st) := fun H locs ls hP hS hl => lv_icmp_le K.x K.b hd ht (fun h9 => kt h9 H locs ls hP hS hl) (fun h9 => kf h9 H locs ls hP hS hl)
theorem x_ifnull (K : XC p s m args meth c cc nL ret Ts own w) {x : Nat} {off : Int} (hd : decode cc pc = .ok (.ifnull off, 3)) (kk : XW p l e R s m args below meth c nL cells slots Q w N M (pc + 3) lv (st)) : XW p l e R s m args below meth c nL cells slots Q w N M (pc) lv (.ref x :: st) := fun H locs ls hP hS hl => lv_ifnull K.x K.b hd (kk H locs ls hP hS hl)
theorem x_ifnonnull (K : XC p s m args meth c cc nL ret Ts own w) {x : Nat} {off : Int} {tgt : Nat} (hd : decode cc pc = .ok (.ifnonnull off, 3)) (ht : (pc : Int) + off = (tgt : Int)) (kk : XW p l e R s m args below meth c nL cells slots Q w N M (tgt) lv (st)) : XW p l e R s m args below meth c nL cells slots Q w N M (pc) lv (.ref x :: st) := fun H locs ls hP hS hl => lv_ifnonnull K.x K.b hd ht (kk H locs ls hP hS hl)
theorem x_ifnullN (K : XC p s m args meth c cc nL ret Ts own w) {off : Int} {tgt : Nat} (hd : decode cc pc = .ok (.ifnull off, 3)) (ht : (pc : Int) + off = (tgt : Int)) (kk : XW p l e R s m args below meth c nL cells slots Q w N M (tgt) lv (st)) : XW p l e R s m args below meth c nL cells slots Q w N M (pc) lv (.null :: st) := fun H locs ls hP hS hl => lv_ifnullN K.x K.b hd ht (kk H locs ls hP hS hl)
theorem x_ifnonnullN (K : XC p s m args meth c cc nL ret Ts own w) {off : Int} (hd : decode cc pc = .ok (.ifnonnull off, 3)) (kk : XW p l e R s m args below meth c nL cells slots Q w N M (pc + 3) lv (st)) : XW p l e R s m args below meth c nL cells slots Q w N M (pc) lv (.null :: st) := fun H locs ls hP hS hl => lv_ifnonnullN K.x K.b hd (kk H locs ls hP hS hl)
theorem x_tableIn (K : XC p s m args meth c cc nL ret Ts own w) {dflt lo hi : Int} {offs : Array Int} {len : Nat} {x : Int32} {off : Int} {tgt : Nat} (hd : decode cc pc = .ok (.tableswitch dflt lo hi offs, len)) (h1 : ¬ x.toInt < lo) (h2 : ¬ hi < x.toInt) (ho : offs[(x.toInt - lo).toNat]? = some off) (ht : (pc : Int) + off = (tgt : Int)) (kk : XW p l e R s m args below meth c nL cells slots Q w N M (tgt) lv (st)) : XW p l e R s m args below meth c nL cells slots Q w N M (pc) lv (.int x :: st) := fun H locs ls hP hS hl => lv_tableIn K.x K.b hd h1 h2 ho ht (kk H locs ls hP hS hl)
theorem x_tableOut (K : XC p s m args meth c cc nL ret Ts own w) {dflt lo hi : Int} {offs : Array Int} {len : Nat} {x : Int32} {tgt : Nat} (hd : decode cc pc = .ok (.tableswitch dflt lo hi offs, len)) (h1 : x.toInt < lo ∨ hi < x.toInt) (ht : (pc : Int) + dflt = (tgt : Int)) (kk : XW p l e R s m args below meth c nL cells slots Q w N M (tgt) lv (st)) : XW p l e R s m args below meth c nL cells slots Q w N M (pc) lv (.int x :: st) := fun H locs ls hP hS hl => lv_tableOut K.x K.b hd h1 ht (kk H locs ls hP hS hl)
theorem x_topi {x : Int32} (k : ∀ y : Int32, y = x → XW p l e R s m args below meth c nL cells slots Q w N M (pc) lv (.int y :: st)) : XW p l e R s m args below meth c nL cells slots Q w N M (pc) lv (.int x :: st) := k x rfl
theorem x_eqi {x y : Int32} (h : x = y) (k : XW p l e R s m args below meth c nL cells slots Q w N M (pc) lv (.int y :: st)) : XW p l e R s m args below meth c nL cells slots Q w N M (pc) lv (.int x :: st) := h ▸ k
theorem x_lv (ks : List Nat) (h : lv_pick lv ks = lv') (k : XW p l e R s m args below meth c nL cells slots Q w N M (pc) lv' (st)) : XW p l e R s m args below meth c nL cells slots Q w N M (pc) lv (st) := fun H locs ls hP hS hl => k H locs ls hP hS (lv_sub hl ks h)
theorem x_geti (K : XC p s m args meth c cc nL ret Ts own w) {n ci k index Nf : Nat} {bs : List Bool} {C : String} {T : u_T} (hn : n < N) (hsh : zSh n = .inl (ci, bs)) (hk : bs[k]? = some false) (hc : zCl[ci]? = some (C, T, Nf)) (hkN : k < Nf) (hin : ∀ t ∈ u_ws C T Nf, t ∈ Ts) (hlk : Cond.fieldLink own index (T k).1 (T k).2.1 (T k).2.2.1 ∈ Ts) (hd : decode cc pc = .ok (.getfield index, 3)) (kk : XW p l e R s m args below meth c nL cells slots Q w N M (pc + 3) lv (.int (M.1 n k) :: st)) : XW p l e R s m args below meth c nL cells slots Q w N M (pc) lv (.ref (w.2.2 + n) :: st) := by
  intro H locs ls hP hS hl
  have he := fl_ws_get (sh := zSh) (w := w) (M := M) hn
  rw [hsh] at he
  exact va_get (v := .int (M.1 n k)) K.x K.b K.ts hin K.o K.K hP n he hc k hkN (K.ts _ hlk) (fun _ h9 => h9) (by rw [fl_fs_get, hk]; simp [fl_v]) hd (kk H locs ls hP hS hl)
theorem x_getr (K : XC p s m args meth c cc nL ret Ts own w) {n n' ci k index Nf : Nat} {bs : List Bool} {C : String} {T : u_T} (hn : n < N) (hsh : zSh n = .inl (ci, bs)) (hk : bs[k]? = some true) (hr : M.2 n k = some n') (hc : zCl[ci]? = some (C, T, Nf)) (hkN : k < Nf) (hin : ∀ t ∈ u_ws C T Nf, t ∈ Ts) (hlk : Cond.fieldLink own index (T k).1 (T k).2.1 (T k).2.2.1 ∈ Ts) (hd : decode cc pc = .ok (.getfield index, 3)) (kk : XW p l e R s m args below meth c nL cells slots Q w N M (pc + 3) lv (.ref (w.2.2 + n') :: st)) : XW p l e R s m args below meth c nL cells slots Q w N M (pc) lv (.ref (w.2.2 + n) :: st) := by
  intro H locs ls hP hS hl
  have he := fl_ws_get (sh := zSh) (w := w) (M := M) hn
  rw [hsh] at he
  exact va_get (v := .ref (w.2.2 + n')) K.x K.b K.ts hin K.o K.K hP n he hc k hkN (K.ts _ hlk) (fun _ h9 => h9) (by rw [fl_fs_get, hk]; simp [fl_v, hr, va_rf]) hd (kk H locs ls hP hS hl)
theorem x_puti (K : XC p s m args meth c cc nL ret Ts own w) {n ci k index Nf : Nat} {x : Int32} {bs : List Bool} {C : String} {T : u_T} (ty0 : Nat → FieldType) (hty : ∀ k, k < Nf → parseFieldDescriptor (T k).2.2.1 = some (ty0 k)) (hnm : ∀ a, a < Nf → ∀ b, b < Nf → a ≠ b → (T a).2.1 ≠ (T b).2.1) (hn : n < N) (hsh : zSh n = .inl (ci, bs)) (hk : bs[k]? = some false) (hc : zCl[ci]? = some (C, T, Nf)) (hkN : k < Nf) (hin : ∀ t ∈ u_ws C T Nf, t ∈ Ts) (hlk : Cond.fieldLink own index (T k).1 (T k).2.1 (T k).2.2.1 ∈ Ts) (hfin : (T k).2.2.2 = false) (hnr : narrow (ty0 k) (.int x) = .int x) (hft : fits (ty0 k) (.int x) = true) (hd : decode cc pc = .ok (.putfield index, 3)) (kk : XW p l e R s m args below meth c nL cells slots Q w N (wI M n k x) (pc + 3) lv (st)) : XW p l e R s m args below meth c nL cells slots Q w N M (pc) lv (.int x :: .ref (w.2.2 + n) :: st) := by
  intro H locs ls hP hS hl
  have he := fl_ws_get (sh := zSh) (w := w) (M := M) hn
  have hE : fl_c w (zSh n) (M.1 n) (M.2 n) = .inr (ci, fl_fs w.2.2 (M.1 n) (M.2 n) 0 bs) := by rw [hsh]; rfl
  rw [hE] at he
  have hset : (fl_ws zSh w N M).set n (w.2.2 + n, .inr (ci, (fl_fs w.2.2 (M.1 n) (M.2 n) 0 bs).set k (.int x))) = fl_ws zSh w N (wI M n k x) := by
    refine fl_ws_set (fun a ha => ⟨fl_u_row ha, rfl⟩) ?_
    rw [hsh]
    show Sum.inr (ci, _) = Sum.inr (ci, _)
    rw [fl_fs_set (fi := M.1 n) (fr := M.2 n) (fi' := (wI M n k x).1 n) (fr' := (wI M n k x).2 n) (fun i hi => ⟨fl_u_col hi, rfl⟩) (fun x9 h9 => by rw [hk] at h9; cases h9; show Value.int ((wI M n k x).1 n k) = _; rw [show (wI M n k x).1 n k = x from fl_u_self])]
  refine va_put (v := .int x) (ty := ty0 k) K.x K.b K.ts hin ty0 hty hnm K.o K.K hP fl_ws_D hS n he hc k hkN (K.ts _ hlk) (fun _ h9 => h9) hfin (hty k hkN) hnr hft (by rw [fl_fs_len]; exact (List.getElem?_eq_some_iff.mp hk).1) hd (fun H1 locs1 hP1 _ hS1 => ?_)
  rw [hset] at hP1
  exact kk H1 locs1 ls hP1 hS1 hl
theorem x_iald (K : XC p s m args meth c cc nL ret Ts own w) {n t len j : Nat} {i : Int32} (hi : i = nI j) (hj : j < len) (hn : n < N) (hsh : zSh n = .inr (t, len, false)) (ht : (zTy w)[t]? = some (w.2.1 t, .int)) (hlen : len < 2 ^ 31) (hd : decode cc pc = .ok (.iaload, 1)) (kk : XW p l e R s m args below meth c nL cells slots Q w N M (pc + 1) lv (.int (M.1 n j) :: st)) : XW p l e R s m args below meth c nL cells slots Q w N M (pc) lv (.int i :: .ref (w.2.2 + n) :: st) := by
  intro H locs ls hP hS hl
  subst hi
  have he := fl_ws_get (sh := zSh) (w := w) (M := M) hn
  rw [hsh] at he
  refine va_iald K.x K.b K.K hP n t he ht (vp_in_nI hj hlen) hd ?_
  rw [nI_clamp (Nat.lt_trans hj hlen)]
  exact kk H locs ls hP hS hl
theorem fl_iset {n j len t : Nat} {x : Int32} (hsh : zSh n = .inr (t, len, false)) : (fl_ws zSh w N M).set n (w.2.2 + n, .inl (w.2.1 t, len, .inl (upd (M.1 n) j x))) = fl_ws zSh w N (wI M n j x) := by
  refine fl_ws_set (fun a ha => ⟨fl_u_row ha, rfl⟩) ?_
  rw [hsh]
  show Sum.inl (_, _, Sum.inl _) = Sum.inl (_, _, Sum.inl _)
  have e9 : upd (M.1 n) j x = (wI M n j x).1 n := by
    funext q
    by_cases hq : q = j
    · subst hq; rw [pk_us]; exact fl_u_self.symm
    · rw [pk_un hq]; exact (fl_u_col hq).symm
  rw [e9]
theorem x_iast (K : XC p s m args meth c cc nL ret Ts own w) {n t len j : Nat} {i x : Int32} (hi : i = nI j) (hj : j < len) (hn : n < N) (hsh : zSh n = .inr (t, len, false)) (ht : (zTy w)[t]? = some (w.2.1 t, .int)) (hlen : len < 2 ^ 31) (hd : decode cc pc = .ok (.iastore, 1)) (kk : XW p l e R s m args below meth c nL cells slots Q w N (wI M n j x) (pc + 1) lv (st)) : XW p l e R s m args below meth c nL cells slots Q w N M (pc) lv (.int x :: .int i :: .ref (w.2.2 + n) :: st) := by
  intro H locs ls hP hS hl
  subst hi
  have he := fl_ws_get (sh := zSh) (w := w) (M := M) hn
  have hE : fl_c w (zSh n) (M.1 n) (M.2 n) = .inl (w.2.1 t, len, .inl (M.1 n)) := by rw [hsh]; rfl
  rw [hE] at he
  refine va_iast K.x K.b K.K hP fl_ws_D hS n t he ht (vp_in_nI hj hlen) hd (fun H1 locs1 hP1 _ hS1 => ?_)
  rw [nI_clamp (Nat.lt_trans hj hlen), fl_iset hsh] at hP1
  exact kk H1 locs1 ls hP1 hS1 hl
theorem x_aald (K : XC p s m args meth c cc nL ret Ts own w) {n n' t len j : Nat} {C : String} {i : Int32} (hi : i = nI j) (hj : j < len) (hr : M.2 n j = some n') (hn : n < N) (hsh : zSh n = .inr (t, len, true)) (ht : (zTy w)[t]? = some (w.2.1 t, .object C)) (hlen : len < 2 ^ 31) (hd : decode cc pc = .ok (.aaload, 1)) (kk : XW p l e R s m args below meth c nL cells slots Q w N M (pc + 1) lv (.ref (w.2.2 + n') :: st)) : XW p l e R s m args below meth c nL cells slots Q w N M (pc) lv (.int i :: .ref (w.2.2 + n) :: st) := by
  intro H locs ls hP hS hl
  subst hi
  have he := fl_ws_get (sh := zSh) (w := w) (M := M) hn
  rw [hsh] at he
  refine va_aldq K.x K.b K.K hP n t he ht (vp_in_nI hj hlen) hd ?_
  rw [nI_clamp (Nat.lt_trans hj hlen), hr]
  exact kk H locs ls hP hS hl
theorem x_aaldN (K : XC p s m args meth c cc nL ret Ts own w) {n t len j : Nat} {C : String} {i : Int32} (hi : i = nI j) (hj : j < len) (hr : M.2 n j = none) (hn : n < N) (hsh : zSh n = .inr (t, len, true)) (ht : (zTy w)[t]? = some (w.2.1 t, .object C)) (hlen : len < 2 ^ 31) (hd : decode cc pc = .ok (.aaload, 1)) (kk : XW p l e R s m args below meth c nL cells slots Q w N M (pc + 1) lv (.null :: st)) : XW p l e R s m args below meth c nL cells slots Q w N M (pc) lv (.int i :: .ref (w.2.2 + n) :: st) := by
  intro H locs ls hP hS hl
  subst hi
  have he := fl_ws_get (sh := zSh) (w := w) (M := M) hn
  rw [hsh] at he
  refine va_aldq K.x K.b K.K hP n t he ht (vp_in_nI hj hlen) hd ?_
  rw [nI_clamp (Nat.lt_trans hj hlen), hr]
  exact kk H locs ls hP hS hl
theorem fl_qset {n j len t : Nat} {r : Option Nat} (hsh : zSh n = .inr (t, len, true)) : (fl_ws zSh w N M).set n (w.2.2 + n, .inl (w.2.1 t, len, .inr (.inr (.inr (.inr (va_up (fun i => (M.2 n i).map (fun n => w.2.2 + n)) j (r.map (fun n => w.2.2 + n)))))))) = fl_ws zSh w N (wR M n j r) := by
  refine fl_ws_set (fun a ha => ⟨rfl, fl_u_row ha⟩) ?_
  rw [hsh]
  show Sum.inl (_, _, Sum.inr (Sum.inr (Sum.inr (Sum.inr _)))) = Sum.inl (_, _, Sum.inr (Sum.inr (Sum.inr (Sum.inr _))))
  have e9 : va_up (fun i => (M.2 n i).map (fun n => w.2.2 + n)) j (r.map (fun n => w.2.2 + n)) = fun i => ((wR M n j r).2 n i).map (fun n => w.2.2 + n) := by
    funext q
    by_cases hq : q = j
    · subst hq
      rw [va_up_self, show (wR M n q r).2 n q = r from fl_u_self]
    · rw [va_up_ne _ _ hq, show (wR M n j r).2 n q = M.2 n q from fl_u_col hq]
  rw [e9]
theorem x_aast (K : XC p s m args meth c cc nL ret Ts own w) {n n' t len j ci : Nat} {bs : List Bool} {r : vw_C} {i : Int32} (hi : i = nI j) (hj : j < len) (hn : n < N) (hsh : zSh n = .inr (t, len, true)) (ht : (zTy w)[t]? = some (w.2.1 t, .object r.1)) (hn' : n' < N) (hsh' : zSh n' = .inl (ci, bs)) (hc : zCl[ci]? = some r) (hlen : len < 2 ^ 31) (hd : decode cc pc = .ok (.aastore, 1)) (kk : XW p l e R s m args below meth c nL cells slots Q w N (wR M n j (some n')) (pc + 1) lv (st)) : XW p l e R s m args below meth c nL cells slots Q w N M (pc) lv (.ref (w.2.2 + n') :: .int i :: .ref (w.2.2 + n) :: st) := by
  intro H locs ls hP hS hl
  subst hi
  have he := fl_ws_get (sh := zSh) (w := w) (M := M) hn
  have hE : fl_c w (zSh n) (M.1 n) (M.2 n) = .inl (w.2.1 t, len, .inr (.inr (.inr (.inr (fun i => (M.2 n i).map (fun n => w.2.2 + n)))))) := by rw [hsh]; rfl
  rw [hE] at he
  have he' := fl_ws_get (sh := zSh) (w := w) (M := M) hn'
  rw [hsh'] at he'
  refine va_astq K.x K.b K.K hP fl_ws_D hS n t n' ci he ht he' hc (vp_in_nI hj hlen) hd (fun H1 locs1 hP1 _ hS1 => ?_)
  rw [nI_clamp (Nat.lt_trans hj hlen)] at hP1
  rw [show some (w.2.2 + n') = (some n').map (fun n => w.2.2 + n) from rfl, fl_qset hsh] at hP1
  exact kk H1 locs1 ls hP1 hS1 hl
theorem x_aastN (K : XC p s m args meth c cc nL ret Ts own w) {n t len j : Nat} {C : String} {i : Int32} (hi : i = nI j) (hj : j < len) (hn : n < N) (hsh : zSh n = .inr (t, len, true)) (ht : (zTy w)[t]? = some (w.2.1 t, .object C)) (hlen : len < 2 ^ 31) (hd : decode cc pc = .ok (.aastore, 1)) (kk : XW p l e R s m args below meth c nL cells slots Q w N (wR M n j none) (pc + 1) lv (st)) : XW p l e R s m args below meth c nL cells slots Q w N M (pc) lv (.null :: .int i :: .ref (w.2.2 + n) :: st) := by
  intro H locs ls hP hS hl
  subst hi
  have he := fl_ws_get (sh := zSh) (w := w) (M := M) hn
  have hE : fl_c w (zSh n) (M.1 n) (M.2 n) = .inl (w.2.1 t, len, .inr (.inr (.inr (.inr (fun i => (M.2 n i).map (fun n => w.2.2 + n)))))) := by rw [hsh]; rfl
  rw [hE] at he
  refine va_astqN K.x K.b K.K hP fl_ws_D hS n t he ht (vp_in_nI hj hlen) hd (fun H1 locs1 hP1 _ hS1 => ?_)
  rw [nI_clamp (Nat.lt_trans hj hlen)] at hP1
  rw [show (none : Option Nat) = (none : Option Nat).map (fun n => w.2.2 + n) from rfl, fl_qset hsh] at hP1
  exact kk H1 locs1 ls hP1 hS1 hl
theorem x_idiv (K : XC p s m args meth c cc nL ret Ts own w) {x y : Int32} (hd : decode cc pc = .ok (.idiv, 1)) (hne : ¬ y = 0) (kk : XW p l e R s m args below meth c nL cells slots Q w N M (pc + 1) lv (.int (x / y) :: st)) : XW p l e R s m args below meth c nL cells slots Q w N M (pc) lv (.int y :: .int x :: st) := fun H locs ls hP hS hl => lv_idiv K.x K.b hd hne (kk H locs ls hP hS hl)
theorem x_irem (K : XC p s m args meth c cc nL ret Ts own w) {x y : Int32} (hd : decode cc pc = .ok (.irem, 1)) (hne : ¬ y = 0) (kk : XW p l e R s m args below meth c nL cells slots Q w N M (pc + 1) lv (.int (x - x / y * y) :: st)) : XW p l e R s m args below meth c nL cells slots Q w N M (pc) lv (.int y :: .int x :: st) := fun H locs ls hP hS hl => lv_irem K.x K.b hd hne (kk H locs ls hP hS hl)
theorem x_iushr (K : XC p s m args meth c cc nL ret Ts own w) {x y v : Int32} (hd : decode cc pc = .ok (.iushr, 1)) (hv : (x.toUInt32 >>> (y.toUInt32 &&& Int32.toUInt32 31)).toInt32 = v) (kk : XW p l e R s m args below meth c nL cells slots Q w N M (pc + 1) lv (.int v :: st)) : XW p l e R s m args below meth c nL cells slots Q w N M (pc) lv (.int y :: .int x :: st) := fun H locs ls hP hS hl => lv_iushr K.x K.b hd hv (kk H locs ls hP hS hl)
theorem x_ldcw (K : XC p s m args meth c cc nL ret Ts own w) {v : Int32} {index : Nat} (hd : decode cc pc = .ok (.ldc_w index, 3)) (hc : Cond.constant own index v ∈ Ts) (kk : XW p l e R s m args below meth c nL cells slots Q w N M (pc + 3) lv (.int v :: st)) : XW p l e R s m args below meth c nL cells slots Q w N M (pc) lv (st) := fun H locs ls hP hS hl => lv_ldcw K.x K.b K.o (K.ts _ hc) hd (kk H locs ls hP hS hl)
theorem x_ifeqB (K : XC p s m args meth c cc nL ret Ts own w) {P : Prop} [Decidable P] {off : Int} {tgt : Nat} (hd : decode cc pc = .ok (.ifCond .eq off, 3)) (ht : (pc : Int) + off = (tgt : Int)) (kt : ¬ P → XW p l e R s m args below meth c nL cells slots Q w N M (tgt) lv (st)) (kf : P → XW p l e R s m args below meth c nL cells slots Q w N M (pc + 3) lv (st)) : XW p l e R s m args below meth c nL cells slots Q w N M (pc) lv (.int (bI P) :: st) := fun H locs ls hP hS hl => lv_if_eq K.x K.b hd ht (fun h9 => kt (bI_e.mp h9) H locs ls hP hS hl) (fun h9 => kf (Decidable.not_not.mp (fun q => h9 (bI_e.mpr q))) H locs ls hP hS hl)
theorem x_ifneB (K : XC p s m args meth c cc nL ret Ts own w) {P : Prop} [Decidable P] {off : Int} {tgt : Nat} (hd : decode cc pc = .ok (.ifCond .ne off, 3)) (ht : (pc : Int) + off = (tgt : Int)) (kt : P → XW p l e R s m args below meth c nL cells slots Q w N M (tgt) lv (st)) (kf : ¬ P → XW p l e R s m args below meth c nL cells slots Q w N M (pc + 3) lv (st)) : XW p l e R s m args below meth c nL cells slots Q w N M (pc) lv (.int (bI P) :: st) := fun H locs ls hP hS hl => lv_if_ne K.x K.b hd ht (fun h9 => kt (Decidable.not_not.mp (fun q => h9 (bI_e.mpr q))) H locs ls hP hS hl) (fun h9 => kf (bI_e.mp h9) H locs ls hP hS hl)
theorem x_zald (K : XC p s m args meth c cc nL ret Ts own w) {n t len j : Nat} {i : Int32} (hi : i = nI j) (hj : j < len) (hn : n < N) (hsh : zSh n = .inr (t, len, false)) (ht : (zTy w)[t]? = some (w.2.1 t, .boolean)) (hlen : len < 2 ^ 31) (hd : decode cc pc = .ok (.baload, 1)) (kk : XW p l e R s m args below meth c nL cells slots Q w N M (pc + 1) lv (.int (M.1 n j) :: st)) : XW p l e R s m args below meth c nL cells slots Q w N M (pc) lv (.int i :: .ref (w.2.2 + n) :: st) := by
  intro H locs ls hP hS hl
  subst hi
  have he := fl_ws_get (sh := zSh) (w := w) (M := M) hn
  rw [hsh] at he
  refine va_zald K.x K.b K.K hP n t he ht (vp_in_nI hj hlen) hd ?_
  rw [nI_clamp (Nat.lt_trans hj hlen)]
  exact kk H locs ls hP hS hl
theorem x_zast (K : XC p s m args meth c cc nL ret Ts own w) {n t len j : Nat} {i x : Int32} (hz : isZ x) (hi : i = nI j) (hj : j < len) (hn : n < N) (hsh : zSh n = .inr (t, len, false)) (ht : (zTy w)[t]? = some (w.2.1 t, .boolean)) (hlen : len < 2 ^ 31) (hd : decode cc pc = .ok (.bastore, 1)) (kk : XW p l e R s m args below meth c nL cells slots Q w N (wI M n j x) (pc + 1) lv (st)) : XW p l e R s m args below meth c nL cells slots Q w N M (pc) lv (.int x :: .int i :: .ref (w.2.2 + n) :: st) := by
  intro H locs ls hP hS hl
  subst hi
  have he := fl_ws_get (sh := zSh) (w := w) (M := M) hn
  have hE : fl_c w (zSh n) (M.1 n) (M.2 n) = .inl (w.2.1 t, len, .inl (M.1 n)) := by rw [hsh]; rfl
  rw [hE] at he
  refine va_zast K.x K.b K.K hP fl_ws_D hS n t he ht (vp_in_nI hj hlen) hd (fun H1 locs1 hP1 _ hS1 => ?_)
  rw [nI_clamp (Nat.lt_trans hj hlen), isZ_v hz, fl_iset hsh] at hP1
  exact kk H1 locs1 ls hP1 hS1 hl
/-- the class's constant arrays: read through the static field -/
theorem x_KL (K : XC p s m args meth c cc nL ret Ts own w) {index : Nat} (ho : own = "CompatibilityJudge") (hlk : Cond.fieldLink own index "CompatibilityJudge" "KEY_LIMITS" "[I" ∈ Ts) (hd : decode cc pc = .ok (.getstatic index, 3)) (kk : ∀ t1 : Nat, va_T .int t1 3 (fun j => .int (zKL j)) (fun q : Nat => w.2.2 ≤ q) s s.heap → XW p l e R s m args below meth c nL cells slots Q w N M (pc + 3) lv (.ref t1 :: st)) : XW p l e R s m args below meth c nL cells slots Q w N M (pc) lv (st) := by
  intro H locs ls hP hS hl
  obtain ⟨⟨t1, t2, a, b, -, -⟩, -⟩ := K.S
  exact va_gets K.x K.b a hS K.o (K.ts _ hlk) (fun _ h9 => h9) hd (kk t1 b H locs ls hP hS hl)
theorem x_SV (K : XC p s m args meth c cc nL ret Ts own w) {index : Nat} (ho : own = "CompatibilityJudge") (hlk : Cond.fieldLink own index "CompatibilityJudge" "SEVERITIES" "[I" ∈ Ts) (hd : decode cc pc = .ok (.getstatic index, 3)) (kk : ∀ t1 : Nat, va_T .int t1 14 (fun j => .int (zSV j)) (fun q : Nat => w.2.2 ≤ q) s s.heap → XW p l e R s m args below meth c nL cells slots Q w N M (pc + 3) lv (.ref t1 :: st)) : XW p l e R s m args below meth c nL cells slots Q w N M (pc) lv (st) := by
  intro H locs ls hP hS hl
  obtain ⟨⟨t1, t2, -, -, a, b⟩, -⟩ := K.S
  exact va_gets K.x K.b a hS K.o (K.ts _ hlk) (fun _ h9 => h9) hd (kk t2 b H locs ls hP hS hl)
theorem x_tald (K : XC p s m args meth c cc nL ret Ts own w) {t1 L j : Nat} {f : Nat → Int32} {i : Int32} (hT : va_T .int t1 L (fun j => .int (f j)) (fun q : Nat => w.2.2 ≤ q) s s.heap) (hi : i = nI j) (hj : j < L) (hL : L < 2 ^ 31) (hd : decode cc pc = .ok (.iaload, 1)) (kk : XW p l e R s m args below meth c nL cells slots Q w N M (pc + 1) lv (.int (f j) :: st)) : XW p l e R s m args below meth c nL cells slots Q w N M (pc) lv (.int i :: .ref t1 :: st) := by
  intro H locs ls hP hS hl
  subst hi
  refine va_ti K.x K.b hT hS (vp_in_nI hj hL) rfl hd ?_
  rw [nI_clamp (Nat.lt_trans hj hL)]
  exact kk H locs ls hP hS hl
/-- where a method ends in the flat world: answer r, memory M' of N names -/
def CQ (w : fl_W) (N : Nat) (r : Option Value) (M' : fl_M) : Array Value → State → Outcome → State → Prop := fun _ st oc t => oc = .returned r ∧ va_P w.1 zCl (fl_ws zSh w N M') t.heap ∧ va_F (fun q : Nat => w.2.2 ≤ q) st t
/-- where it begins -/
def CB (w : fl_W) (N : Nat) (M : fl_M) (U : State) : Prop := va_P w.1 zCl (fl_ws zSh w N M) U.heap ∧ va_K w.1 zCl (zTy w) U ∧ zS w U U.heap
/-- A CONTRACT: with the arguments av and the memory M the method answers r and leaves M' -/
def CT (l : Launch) (y : MethodName) (ws : List Cond) (rm : Room) (w : fl_W) (N : Nat) (av : List Value) (M : fl_M) (r : Option Value) (M' : fl_M) : Prop :=
  Met l y ws rm (va_Pc av (CB w N M)) (CQ w N r M') 0 0 (fun q : Nat => w.2.2 ≤ q)
theorem CT.of {y : MethodName} {ws ws' : List Cond} {rm : Room} {av : List Value} {r : Option Value} {maxL : Nat} (hy : plainName y.cls = true) (hw : ws = Cond.code y cc maxL ret :: ws') (hown : y.cls = own) (hav : (lg_sl av).length ≤ maxL)
    (body : ∀ (p : Program) (e : Env) (s : State) (m : MethodId) (args : Array Value) (below : List Frame) (meth : Method) (c : Code), XC p s m args meth c cc maxL ret ws own w → XW p l e rm s m args below meth c maxL 0 0 (MQ below (CQ w N r M') args s 0 0 (fun q : Nat => w.2.2 ≤ q)) w N M 0 (lv_args 0 av) []) : CT l y ws rm w N av M r M' := by
  refine Met.ofW (cc := cc) (maxL := maxL) (ret := ret) hy hw ?_
  intro p e s m args below meth c s₁ B hml hv
  obtain ⟨rfl, hP, hK, hZ⟩ := hv
  have hl := lv_entry av (n := maxL) hav
  rw [lg_entry_eq]
  exact body p e s m _ below meth c ⟨B.exec, B.bytes, hml, by rw [← hown]; exact findClass_of_methodNamed B.named, atoms_spec (ws := ws) B.pre, hK, B.notSynchronized, B.returns, hZ⟩ s.heap [] _ hP va_S.rf hl
theorem x_iret {v : Int32} (K : XC p s m args meth c cc nL (some .int) Ts own w) {r : Option Value} (hr : some (.int v) = r) (hM : M = M') (hd : decode cc pc = .ok (.ireturn, 1)) : XW p l e R s m args below meth c nL cells slots (MQ below (CQ w N r M') args s cells slots (fun q : Nat => w.2.2 ≤ q)) w N M pc lv [.int v] := by
  intro H locs ls hP hS hl
  subst hr; subst hM
  exact W.iret K.x K.b K.rt (fun t ht _ => ⟨rfl, by rw [ht]; exact hP, hS.F ht⟩) hS.2.2 hd K.lk
theorem x_zret {v : Int32} (K : XC p s m args meth c cc nL (some .boolean) Ts own w) {r : Option Value} (hr : some (.int v) = r) (hM : M = M') (hn : narrow .boolean (.int v) = .int v) (hd : decode cc pc = .ok (.ireturn, 1)) : XW p l e R s m args below meth c nL cells slots (MQ below (CQ w N r M') args s cells slots (fun q : Nat => w.2.2 ≤ q)) w N M pc lv [.int v] := by
  intro H locs ls hP hS hl
  subst hr; subst hM
  exact W.zret K.x K.b K.rt hn (fun t ht _ => ⟨rfl, by rw [ht]; exact hP, hS.F ht⟩) hS.2.2 hd K.lk
theorem x_vret  (K : XC p s m args meth c cc nL none Ts own w) {r : Option Value} (hr : none = r) (hM : M = M') (hd : decode cc pc = .ok (.return_, 1)) : XW p l e R s m args below meth c nL cells slots (MQ below (CQ w N r M') args s cells slots (fun q : Nat => w.2.2 ≤ q)) w N M pc lv [] := by
  intro H locs ls hP hS hl
  subst hr; subst hM
  exact W.vret K.x K.b K.rt (fun t ht _ => ⟨rfl, by rw [ht]; exact hP, hS.F ht⟩) hS.2.2 hd K.lk
theorem x_aret {C : String} {v : Nat} (K : XC p s m args meth c cc nL (some (.object C)) Ts own w) {r : Option Value} (hr : some (.ref v) = r) (hM : M = M') (hd : decode cc pc = .ok (.areturn, 1)) : XW p l e R s m args below meth c nL cells slots (MQ below (CQ w N r M') args s cells slots (fun q : Nat => w.2.2 ≤ q)) w N M pc lv [.ref v] := by
  intro H locs ls hP hS hl
  subst hr; subst hM
  exact W.aret K.x K.b K.rt (Or.inl ⟨_, rfl⟩) (Or.inr ⟨_, rfl⟩) (fun t ht _ => ⟨rfl, by rw [ht]; exact hP, hS.F ht⟩) hS.2.2 hd K.lk
theorem x_aretN {C : String} (K : XC p s m args meth c cc nL (some (.object C)) Ts own w) {r : Option Value} (hr : some .null = r) (hM : M = M') (hd : decode cc pc = .ok (.areturn, 1)) : XW p l e R s m args below meth c nL cells slots (MQ below (CQ w N r M') args s cells slots (fun q : Nat => w.2.2 ≤ q)) w N M pc lv [.null] := by
  intro H locs ls hP hS hl
  subst hr; subst hM
  exact W.aret K.x K.b K.rt (Or.inl ⟨_, rfl⟩) (Or.inl rfl) (fun t ht _ => ⟨rfl, by rw [ht]; exact hP, hS.F ht⟩) hS.2.2 hd K.lk
theorem cq_blind {av : List Value} : FrameBlind (va_Pc av (CB w N M)) := fun a U g mk q => by
  obtain ⟨q0, qP, qK, qZ⟩ := q
  exact ⟨q0, qP, va_K.moved (u := U) (U := U.calling g mk a) (Vm.Alike.refl U.vm) qK, zS.same (u := U) (U := U.calling g mk a) rfl qZ⟩
theorem cq_pre {H : Heap} {locs : List Loc} {av : List Value} (K : XC p s m args meth c cc nL ret Ts own w) (hP : va_P w.1 zCl (fl_ws zSh w N M) H) (hS : va_S (fun q : Nat => w.2.2 ≤ q) s.heap H locs) : ∀ U : State, U.heap = H → s.WarmedH U.vm → va_Pc av (CB w N M) av.toArray U := fun U hU hW => ⟨rfl, by rw [hU]; exact hP, va_K.moved hW.alike K.K, by rw [hU]; exact (zS.warm hW K.S).kept (fun a h1 h2 => hS.2.1 a h1 h2)⟩
theorem x_goes {H : Heap} {locs : List Loc} {ls : Array Slot} {rest st0 : List Value} {r : Option Value} {a : Array Value} (hr : va_Run p l e R s m args below meth c H locs cells slots 0 0 (F0 m pc ls st0) rest (CQ w N r M' a) (fun q : Nat => w.2.2 ≤ q)) (hS : va_S (fun q : Nat => w.2.2 ≤ q) s.heap H locs) (hl : lv_has ls nL lv) (kk : XW p l e R s m args below meth c nL cells slots Q w N M' (pc + 3) lv (r.toList ++ rest)) : W p l e R s m args below meth c H locs cells slots Q (F0 m pc ls st0) := by
  intro T hT X
  obtain ⟨v, st₀, t, T', L, h0, X', hL, e1, e2, ⟨hv, hP1, hz, hk⟩, st⟩ := hr T hT X
  cases hv
  have hS1 : va_S (fun q : Nat => w.2.2 ≤ q) s.heap t.heap (locs ++ L) := ⟨Nat.le_trans hS.1 (by rw [← h0]; exact hz), fun q h1 h2 => (hk q (by rw [h0]; exact Nat.lt_of_lt_of_le h1 hS.1) h2).trans (by rw [h0]; exact hS.2.1 q h1 h2), t_lL hS.2.2 hL⟩
  obtain ⟨t2, a1, b1⟩ := kk t.heap (locs ++ L) ls hP1 hS1 hl T' e1 X'
  exact ⟨t2, st t2 a1, b1⟩
theorem x_recv {H : Heap} (K : XC p s m args meth c cc nL ret Ts own w) {n0 ci Nf : Nat} {bs : List Bool} {C : String} {T : u_T} (hP : va_P w.1 zCl (fl_ws zSh w N M) H) (hn0 : n0 < N) (hsh : zSh n0 = .inl (ci, bs)) (hc : zCl[ci]? = some (C, T, Nf)) : ∃ cell : Cell, H[w.2.2 + n0]? = some cell ∧ cell.vm.isStatics = false ∧ s.vm.findClass C = some cell.cls := by
  have he := fl_ws_get (sh := zSh) (w := w) (M := M) hn0
  rw [hsh] at he
  exact va_recv K.K hP hc he
theorem x_callV (K : XC p s m args meth c cc nL ret Ts own w) {C : String} {v : Value} {y : MethodName} {bytes : ByteArray} {maxL n index : Nat} {ret9 : Option FieldType} {ws : List Cond} {rm : Room} {As rest : List Value} {n0 ci Nf : Nat} {bs : List Bool} {T : u_T} (hM : CT l y ws rm w N (.ref (w.2.2 + n0) :: As) M (some v) M') (cw : CallW R s args own C index y bytes maxL ret9 ws rm 0 0 n) (hn0 : n0 < N) (hsh : zSh n0 = .inl (ci, bs)) (hc : zCl[ci]? = some (C, T, Nf)) (hn : As.length = n) (hst : st = As.reverse ++ .ref (w.2.2 + n0) :: rest) (hW : (rest.map fun v => v.category).sum ≤ 8) (hcs : cells ≤ R.cells ∧ slots ≤ R.slots) (hd : decode cc pc = .ok (.invokevirtual index, 3)) (kk : XW p l e R s m args below meth c nL cells slots Q w N M' (pc + 3) lv (v :: rest)) : XW p l e R s m args below meth c nL cells slots Q w N M (pc) lv (st) := fun H locs ls hP hS hl =>
  x_goes (va_runV ⟨K.x, K.b, K.ml, K.o, K.ts⟩ hM cw ⟨cq_blind, x_recv K hP hn0 hsh hc, cq_pre K hP hS⟩ rfl hn hl.1 hst (lv_room hW) hd hcs) hS hl kk
theorem x_callVN (K : XC p s m args meth c cc nL ret Ts own w) {C host : String} {v : Value} {y : MethodName} {bytes : ByteArray} {maxL n index : Nat} {ret9 : Option FieldType} {ws : List Cond} {rm : Room} {As rest : List Value} {n0 ci Nf : Nat} {bs : List Bool} {T : u_T} (hM : CT l y ws rm w N (.ref (w.2.2 + n0) :: As) M (some v) M') (cw : va_CN R s args own index y host bytes maxL ret9 ws rm 0 0 n ∧ (Cond.instanceMethod y).before args s = true ∧ (Cond.selects C y y).before args s = true) (hn0 : n0 < N) (hsh : zSh n0 = .inl (ci, bs)) (hc : zCl[ci]? = some (C, T, Nf)) (hn : As.length = n) (hst : st = As.reverse ++ .ref (w.2.2 + n0) :: rest) (hW : (rest.map fun v => v.category).sum ≤ 8) (hcs : cells ≤ R.cells ∧ slots ≤ R.slots) (hd : decode cc pc = .ok (.invokevirtual index, 3)) (kk : XW p l e R s m args below meth c nL cells slots Q w N M' (pc + 3) lv (v :: rest)) : XW p l e R s m args below meth c nL cells slots Q w N M (pc) lv (st) := fun H locs ls hP hS hl =>
  x_goes (va_runVN ⟨K.x, K.b, K.ml, K.o, K.ts⟩ hM cw ⟨cq_blind, x_recv K hP hn0 hsh hc, cq_pre K hP hS⟩ rfl hn hl.1 hst (lv_room hW) hd hcs) hS hl kk
theorem x_callS (K : XC p s m args meth c cc nL ret Ts own w) {v : Value} {y : MethodName} {bytes : ByteArray} {maxL n index : Nat} {ret9 : Option FieldType} {ws : List Cond} {rm : Room} {As rest : List Value} (hM : CT l y ws rm w N (As) M (some v) M') (cw : CallB R s args own index y bytes maxL ret9 ws rm 0 0 n ∧ (Cond.static y).before args s = true) (hn : As.length = n) (hst : st = As.reverse ++ rest) (hW : (rest.map fun v => v.category).sum ≤ 8) (hcs : cells ≤ R.cells ∧ slots ≤ R.slots) (hd : decode cc pc = .ok (.invokestatic index, 3)) (kk : XW p l e R s m args below meth c nL cells slots Q w N M' (pc + 3) lv (v :: rest)) : XW p l e R s m args below meth c nL cells slots Q w N M (pc) lv (st) := fun H locs ls hP hS hl =>
  x_goes (va_runS ⟨K.x, K.b, K.ml, K.o, K.ts⟩ hM cw ⟨cq_blind, cq_pre K hP hS⟩ rfl hn hl.1 hst (lv_room hW) hd hcs) hS hl kk
theorem x_callSN (K : XC p s m args meth c cc nL ret Ts own w) {host : String} {v : Value} {y : MethodName} {bytes : ByteArray} {maxL n index : Nat} {ret9 : Option FieldType} {ws : List Cond} {rm : Room} {As rest : List Value} (hM : CT l y ws rm w N (As) M (some v) M') (cw : va_CN R s args own index y host bytes maxL ret9 ws rm 0 0 n ∧ (Cond.static y).before args s = true ∧ True) (hn : As.length = n) (hst : st = As.reverse ++ rest) (hW : (rest.map fun v => v.category).sum ≤ 8) (hcs : cells ≤ R.cells ∧ slots ≤ R.slots) (hd : decode cc pc = .ok (.invokestatic index, 3)) (kk : XW p l e R s m args below meth c nL cells slots Q w N M' (pc + 3) lv (v :: rest)) : XW p l e R s m args below meth c nL cells slots Q w N M (pc) lv (st) := fun H locs ls hP hS hl =>
  x_goes (va_runSN ⟨K.x, K.b, K.ml, K.o, K.ts⟩ hM cw ⟨cq_blind, cq_pre K hP hS⟩ rfl hn hl.1 hst (lv_room hW) hd hcs) hS hl kk
theorem x_callVv (K : XC p s m args meth c cc nL ret Ts own w) {C : String} {y : MethodName} {bytes : ByteArray} {maxL n index : Nat} {ret9 : Option FieldType} {ws : List Cond} {rm : Room} {As rest : List Value} {n0 ci Nf : Nat} {bs : List Bool} {T : u_T} (hM : CT l y ws rm w N (.ref (w.2.2 + n0) :: As) M none M') (cw : CallW R s args own C index y bytes maxL ret9 ws rm 0 0 n) (hn0 : n0 < N) (hsh : zSh n0 = .inl (ci, bs)) (hc : zCl[ci]? = some (C, T, Nf)) (hn : As.length = n) (hst : st = As.reverse ++ .ref (w.2.2 + n0) :: rest) (hW : (rest.map fun v => v.category).sum ≤ 8) (hcs : cells ≤ R.cells ∧ slots ≤ R.slots) (hd : decode cc pc = .ok (.invokevirtual index, 3)) (kk : XW p l e R s m args below meth c nL cells slots Q w N M' (pc + 3) lv (rest)) : XW p l e R s m args below meth c nL cells slots Q w N M (pc) lv (st) := fun H locs ls hP hS hl =>
  x_goes (va_runV ⟨K.x, K.b, K.ml, K.o, K.ts⟩ hM cw ⟨cq_blind, x_recv K hP hn0 hsh hc, cq_pre K hP hS⟩ rfl hn hl.1 hst (lv_room hW) hd hcs) hS hl kk
theorem x_callVNv (K : XC p s m args meth c cc nL ret Ts own w) {C host : String} {y : MethodName} {bytes : ByteArray} {maxL n index : Nat} {ret9 : Option FieldType} {ws : List Cond} {rm : Room} {As rest : List Value} {n0 ci Nf : Nat} {bs : List Bool} {T : u_T} (hM : CT l y ws rm w N (.ref (w.2.2 + n0) :: As) M none M') (cw : va_CN R s args own index y host bytes maxL ret9 ws rm 0 0 n ∧ (Cond.instanceMethod y).before args s = true ∧ (Cond.selects C y y).before args s = true) (hn0 : n0 < N) (hsh : zSh n0 = .inl (ci, bs)) (hc : zCl[ci]? = some (C, T, Nf)) (hn : As.length = n) (hst : st = As.reverse ++ .ref (w.2.2 + n0) :: rest) (hW : (rest.map fun v => v.category).sum ≤ 8) (hcs : cells ≤ R.cells ∧ slots ≤ R.slots) (hd : decode cc pc = .ok (.invokevirtual index, 3)) (kk : XW p l e R s m args below meth c nL cells slots Q w N M' (pc + 3) lv (rest)) : XW p l e R s m args below meth c nL cells slots Q w N M (pc) lv (st) := fun H locs ls hP hS hl =>
  x_goes (va_runVN ⟨K.x, K.b, K.ml, K.o, K.ts⟩ hM cw ⟨cq_blind, x_recv K hP hn0 hsh hc, cq_pre K hP hS⟩ rfl hn hl.1 hst (lv_room hW) hd hcs) hS hl kk
theorem x_callSv (K : XC p s m args meth c cc nL ret Ts own w) {y : MethodName} {bytes : ByteArray} {maxL n index : Nat} {ret9 : Option FieldType} {ws : List Cond} {rm : Room} {As rest : List Value} (hM : CT l y ws rm w N (As) M none M') (cw : CallB R s args own index y bytes maxL ret9 ws rm 0 0 n ∧ (Cond.static y).before args s = true) (hn : As.length = n) (hst : st = As.reverse ++ rest) (hW : (rest.map fun v => v.category).sum ≤ 8) (hcs : cells ≤ R.cells ∧ slots ≤ R.slots) (hd : decode cc pc = .ok (.invokestatic index, 3)) (kk : XW p l e R s m args below meth c nL cells slots Q w N M' (pc + 3) lv (rest)) : XW p l e R s m args below meth c nL cells slots Q w N M (pc) lv (st) := fun H locs ls hP hS hl =>
  x_goes (va_runS ⟨K.x, K.b, K.ml, K.o, K.ts⟩ hM cw ⟨cq_blind, cq_pre K hP hS⟩ rfl hn hl.1 hst (lv_room hW) hd hcs) hS hl kk
theorem x_callSNv (K : XC p s m args meth c cc nL ret Ts own w) {host : String} {y : MethodName} {bytes : ByteArray} {maxL n index : Nat} {ret9 : Option FieldType} {ws : List Cond} {rm : Room} {As rest : List Value} (hM : CT l y ws rm w N (As) M none M') (cw : va_CN R s args own index y host bytes maxL ret9 ws rm 0 0 n ∧ (Cond.static y).before args s = true ∧ True) (hn : As.length = n) (hst : st = As.reverse ++ rest) (hW : (rest.map fun v => v.category).sum ≤ 8) (hcs : cells ≤ R.cells ∧ slots ≤ R.slots) (hd : decode cc pc = .ok (.invokestatic index, 3)) (kk : XW p l e R s m args below meth c nL cells slots Q w N M' (pc + 3) lv (rest)) : XW p l e R s m args below meth c nL cells slots Q w N M (pc) lv (st) := fun H locs ls hP hS hl =>
  x_goes (va_runSN ⟨K.x, K.b, K.ml, K.o, K.ts⟩ hM cw ⟨cq_blind, cq_pre K hP hS⟩ rfl hn hl.1 hst (lv_room hW) hd hcs) hS hl kk
theorem zgood_in {a : Cond} {ws : List Cond} (h : ∀ w ∈ ws, w ∈ zG) : GoodIn (a :: zG) ws := fun w hw => ⟨List.mem_cons_of_mem _ (h w hw), zgood (h w hw)⟩
theorem zcwV {a : Cond} {C : String} {y : MethodName} {bytes : ByteArray} {maxL index n : Nat} {ret9 : Option FieldType} {rm : Room} (hts : ∀ t ∈ a :: zG, t.before args s = true) (hl : Cond.methodLink own index y ∈ zG) (hi : Cond.instanceMethod y ∈ zG) (hs : Cond.selects C y y ∈ zG) (hin : Cond.initialized C ∈ zG) (hco : Cond.code y bytes maxL ret9 ∈ zG) (hd : y.cls = C ∧ y.cls ≠ "java/lang/invoke/MethodHandle" ∧ y.cls ≠ "java/lang/invoke/VarHandle" ∧ (parseMethodDescriptor y.desc).map (fun d => d.parameters.length) = some n) (hrc : rm.cells = 0 ∧ rm.slots = 0) (hR : rm.frames + 1 ≤ R.frames ∧ 8 + (maxL + 11) + rm.locals ≤ R.locals) : CallW R s args own C index y bytes maxL ret9 (.code y bytes maxL ret9 :: zG) rm 0 0 n := by
  refine cwV n hts (zgood_in ?_) rfl hrc.1 hrc.2 hd hR
  intro q hq
  simp only [wsV, List.cons_append, List.nil_append, List.mem_cons] at hq
  rcases hq with rfl | rfl | rfl | rfl | rfl | hq
  · exact hl
  · exact hi
  · exact hs
  · exact hin
  · exact hco
  · exact hq
theorem zcwS {a : Cond} {y : MethodName} {bytes : ByteArray} {maxL index n : Nat} {C : String} {ret9 : Option FieldType} {rm : Room} (hts : ∀ t ∈ a :: zG, t.before args s = true) (hl : Cond.methodLink own index y ∈ zG) (hi : Cond.static y ∈ zG) (hin : Cond.initialized C ∈ zG) (hco : Cond.code y bytes maxL ret9 ∈ zG) (hd : y.cls = C ∧ y.cls ≠ "java/lang/invoke/MethodHandle" ∧ y.cls ≠ "java/lang/invoke/VarHandle" ∧ (parseMethodDescriptor y.desc).map (fun d => d.parameters.length) = some n) (hrc : rm.cells = 0 ∧ rm.slots = 0) (hR : rm.frames + 1 ≤ R.frames ∧ 8 + (maxL + 11) + rm.locals ≤ R.locals) : CallB R s args own index y bytes maxL ret9 (.code y bytes maxL ret9 :: zG) rm 0 0 n ∧ (Cond.static y).before args s = true := by
  refine va_cwS n hts (zgood_in ?_) rfl hrc.1 hrc.2 hd.2 hR
  intro q hq
  simp only [va_wsS, List.cons_append, List.nil_append, List.mem_cons] at hq
  rcases hq with rfl | rfl | rfl | rfl | hq
  · exact hl
  · exact hi
  · rw [hd.1]; exact hin
  · exact hco
  · exact hq
theorem zcwSN {a : Cond} {y : MethodName} {bytes : ByteArray} {maxL index n : Nat} {C host : String} {ret9 : Option FieldType} {rm : Room} (hts : ∀ t ∈ a :: zG, t.before args s = true) (hl : va_Nw (.methodLinkNest own index y host) s) (hi : Cond.static y ∈ zG) (hin : Cond.initialized C ∈ zG) (hco : Cond.code y bytes maxL ret9 ∈ zG) (hd : y.cls = C ∧ y.cls ≠ "java/lang/invoke/MethodHandle" ∧ y.cls ≠ "java/lang/invoke/VarHandle" ∧ (parseMethodDescriptor y.desc).map (fun d => d.parameters.length) = some n) (hrc : rm.cells = 0 ∧ rm.slots = 0) (hR : rm.frames + 1 ≤ R.frames ∧ 8 + (maxL + 11) + rm.locals ≤ R.locals) : va_CN R s args own index y host bytes maxL ret9 (.code y bytes maxL ret9 :: zG) rm 0 0 n ∧ (Cond.static y).before args s = true ∧ True :=
  ⟨va_cnB n hts (zsub hco) rfl hrc.1 hrc.2 hl (hts _ (by rw [hd.1]; exact zmem hin)) hd.2 hR, hts _ (zmem hi), trivial⟩
theorem zlt {n : Nat} {a : fl_H} (h : zSh n = a) (ha : a ≠ .inl (9, []) := by decide) : n < zN := zSh_lt (by rw [h]; exact ha)
theorem rT {P : Prop} [Decidable P] (h : P) : some (Value.int 1) = some (.int (bI P)) := by rw [bI_t h]
theorem rF {P : Prop} [Decidable P] (h : ¬ P) : some (Value.int 0) = some (.int (bI P)) := by rw [bI_f h]
end XR
end
section
/-! WHERE THE REFERENCES LEAD: zRf o r, o the name of OLD's baseline; and the shapes there -/
def shE (a b : fl_H) : Bool := decide (a = b)
theorem shE_t {a b : fl_H} (h : a = b) : shE a b = true := decide_eq_true h
theorem shE_o {a b : fl_H} (h : shE a b = true) : a = b := of_decide_eq_true h
theorem shT_a : ∀ n, n < 295 → shE (zSh n) zsT = true → shE (zSh (n + 1)) (zaI 3) = true ∧ shE (zSh (n + 2)) zaM = true := by decide +kernel
theorem shT_m : ∀ n, n < 295 → ∀ i, i < 8 → shE (zSh n) zsT = true → shE (zSh (n + 3 + i)) zsM = true := by decide +kernel
theorem shB_a : ∀ n, n < 295 → shE (zSh n) zsB = true → shE (zSh (n + 1)) zaT = true ∧ shE (zSh (n + 134)) (zaI 12) = true := by decide +kernel
theorem shB_t : ∀ n, n < 295 → ∀ t, t < 12 → shE (zSh n) zsB = true → shE (zSh (n + 2 + 11 * t)) zsT = true := by decide +kernel
theorem shB_2 : ∀ n, n < 295 → zSh n = zsB → n = 2 ∨ n = 137 := by decide +kernel
theorem shTi {n : Nat} (h : zSh n = zsT) : zSh (n + 1) = zaI 3 := shE_o (shT_a n (zlt h) (shE_t h)).1
theorem shTa {n : Nat} (h : zSh n = zsT) : zSh (n + 2) = zaM := shE_o (shT_a n (zlt h) (shE_t h)).2
theorem shTm {n i : Nat} (h : zSh n = zsT) (hi : i < 8) : zSh (n + 3 + i) = zsM := shE_o (shT_m n (zlt h) i hi (shE_t h))
theorem shBa {n : Nat} (h : zSh n = zsB) : zSh (n + 1) = zaT := shE_o (shB_a n (zlt h) (shE_t h)).1
theorem shBf {n : Nat} (h : zSh n = zsB) : zSh (n + 134) = zaI 12 := shE_o (shB_a n (zlt h) (shE_t h)).2
theorem shBt {n t : Nat} (h : zSh n = zsB) (ht : t < 12) : zSh (n + 2 + 11 * t) = zsT := shE_o (shB_t n (zlt h) t ht (shE_t h))
theorem shB2 {n : Nat} (h : zSh n = zsB) : n = 2 ∨ n = 137 := shB_2 n (zlt h) h
theorem shJ : zSh 0 = zsJ := by decide +kernel
theorem shA : zSh 1 = zaB := by decide +kernel
theorem shC : zSh 272 = zsC := by decide +kernel
theorem shS : zSh 277 = zaI 14 := by decide +kernel
theorem sh273 : zSh 273 = zaI 636 := by decide +kernel
theorem sh274 : zSh 274 = zaI 636 := by decide +kernel
theorem sh275 : zSh 275 = zaI 636 := by decide +kernel
theorem sh276 : zSh 276 = zaM := by decide +kernel
theorem shR : zSh 278 = zsR := by decide +kernel
theorem sh279 : zSh 279 = zaZ 24 := by decide +kernel
theorem sh280 : zSh 280 = zaI 24 := by decide +kernel
theorem sh281 : zSh 281 = zaI 24 := by decide +kernel
theorem sh282 : zSh 282 = zaI 24 := by decide +kernel
theorem sh283 : zSh 283 = zaI 24 := by decide +kernel
theorem sh284 : zSh 284 = zaI 72 := by decide +kernel
theorem sh285 : zSh 285 = zaI 24 := by decide +kernel
theorem sh286 : zSh 286 = zaI 192 := by decide +kernel
theorem sh287 : zSh 287 = zaI 192 := by decide +kernel
theorem sh288 : zSh 288 = zaI 192 := by decide +kernel
theorem sh289 : zSh 289 = zaZ 192 := by decide +kernel
theorem sh290 : zSh 290 = zaI 192 := by decide +kernel
theorem sh291 : zSh 291 = zaZ 168 := by decide +kernel
theorem sh292 : zSh 292 = zaZ 12 := by decide +kernel
theorem sh293 : zSh 293 = zaI 48 := by decide +kernel
theorem sh294 : zSh 294 = zaI 14 := by decide +kernel
/-- the name of baseline x: 0 OLD, 1 NEW -/
def zb (o x : Nat) : Nat := if x = 0 then o else 139 - o
def zRf (o : Nat) (r : Nat → Nat → Option Nat) : Prop :=
  (o = 2 ∨ o = 137) ∧ (r 0 0 = some 1 ∧ r 0 1 = some 272 ∧ r 0 2 = some 277 ∧ r 1 0 = some o ∧ r 1 1 = some (139 - o)) ∧
  (∀ b, zSh b = zsB → r b 0 = some (b + 1) ∧ r b 1 = some (b + 134) ∧ ∀ t, t < 12 → r (b + 1) t = some (b + 2 + 11 * t)) ∧
  (∀ n, zSh n = zsT → r n 4 = some (n + 1) ∧ r n 6 = some (n + 2) ∧ ∀ i, i < 8 → r (n + 2) i = some (n + 3 + i)) ∧
  (r 272 0 = some 273 ∧ r 272 1 = some 274 ∧ r 272 2 = some 275 ∧ r 272 5 = some 276) ∧
  ((∀ k, k < 15 → r 278 k = some (279 + k)) ∧ r 278 21 = some 294)
section ZR
variable {o : Nat} {r : Nat → Nat → Option Nat}
theorem zRf.oo (h : zRf o r) : o = 2 ∨ o = 137 := h.1
theorem zRf.Ja (h : zRf o r) : r 0 0 = some 1 := h.2.1.1
theorem zRf.Jc (h : zRf o r) : r 0 1 = some 272 := h.2.1.2.1
theorem zRf.Js (h : zRf o r) : r 0 2 = some 277 := h.2.1.2.2.1
theorem zRf.Jb (h : zRf o r) {x : Nat} (hx : x < 2) : r 1 x = some (zb o x) := by
  rcases (show x = 0 ∨ x = 1 by omega) with rfl | rfl
  · exact h.2.1.2.2.2.1
  · exact h.2.1.2.2.2.2
theorem zRf.shb (h : zRf o r) {x : Nat} (hx : x < 2) : zSh (zb o x) = zsB := by
  rcases (show x = 0 ∨ x = 1 by omega) with rfl | rfl <;> rcases h.1 with rfl | rfl <;> decide +kernel
theorem zRf.Ba (h : zRf o r) {b : Nat} (hb : zSh b = zsB) : r b 0 = some (b + 1) := (h.2.2.1 b hb).1
theorem zRf.Bf (h : zRf o r) {b : Nat} (hb : zSh b = zsB) : r b 1 = some (b + 134) := (h.2.2.1 b hb).2.1
theorem zRf.Bt (h : zRf o r) {b t : Nat} (hb : zSh b = zsB) (ht : t < 12) : r (b + 1) t = some (b + 2 + 11 * t) := (h.2.2.1 b hb).2.2 t ht
theorem zRf.Ti (h : zRf o r) {n : Nat} (hn : zSh n = zsT) : r n 4 = some (n + 1) := (h.2.2.2.1 n hn).1
theorem zRf.Ta (h : zRf o r) {n : Nat} (hn : zSh n = zsT) : r n 6 = some (n + 2) := (h.2.2.2.1 n hn).2.1
theorem zRf.Tm (h : zRf o r) {n i : Nat} (hn : zSh n = zsT) (hi : i < 8) : r (n + 2) i = some (n + 3 + i) := (h.2.2.2.1 n hn).2.2 i hi
theorem zRf.c273 (h : zRf o r) : r 272 0 = some 273 := h.2.2.2.2.1.1
theorem zRf.c274 (h : zRf o r) : r 272 1 = some 274 := h.2.2.2.2.1.2.1
theorem zRf.c275 (h : zRf o r) : r 272 2 = some 275 := h.2.2.2.2.1.2.2.1
theorem zRf.c276 (h : zRf o r) : r 272 5 = some 276 := h.2.2.2.2.1.2.2.2
theorem zRf.r279 (h : zRf o r) : r 278 0 = some 279 := h.2.2.2.2.2.1 0 (by decide)
theorem zRf.r280 (h : zRf o r) : r 278 1 = some 280 := h.2.2.2.2.2.1 1 (by decide)
theorem zRf.r281 (h : zRf o r) : r 278 2 = some 281 := h.2.2.2.2.2.1 2 (by decide)
theorem zRf.r282 (h : zRf o r) : r 278 3 = some 282 := h.2.2.2.2.2.1 3 (by decide)
theorem zRf.r283 (h : zRf o r) : r 278 4 = some 283 := h.2.2.2.2.2.1 4 (by decide)
theorem zRf.r284 (h : zRf o r) : r 278 5 = some 284 := h.2.2.2.2.2.1 5 (by decide)
theorem zRf.r285 (h : zRf o r) : r 278 6 = some 285 := h.2.2.2.2.2.1 6 (by decide)
theorem zRf.r286 (h : zRf o r) : r 278 7 = some 286 := h.2.2.2.2.2.1 7 (by decide)
theorem zRf.r287 (h : zRf o r) : r 278 8 = some 287 := h.2.2.2.2.2.1 8 (by decide)
theorem zRf.r288 (h : zRf o r) : r 278 9 = some 288 := h.2.2.2.2.2.1 9 (by decide)
theorem zRf.r289 (h : zRf o r) : r 278 10 = some 289 := h.2.2.2.2.2.1 10 (by decide)
theorem zRf.r290 (h : zRf o r) : r 278 11 = some 290 := h.2.2.2.2.2.1 11 (by decide)
theorem zRf.r291 (h : zRf o r) : r 278 12 = some 291 := h.2.2.2.2.2.1 12 (by decide)
theorem zRf.r292 (h : zRf o r) : r 278 13 = some 292 := h.2.2.2.2.2.1 13 (by decide)
theorem zRf.r293 (h : zRf o r) : r 278 14 = some 293 := h.2.2.2.2.2.1 14 (by decide)
theorem zRf.r294 (h : zRf o r) : r 278 21 = some 294 := h.2.2.2.2.2.2
end ZR
abbrev rm_J_type : Room := { frames := 3, cells := 0, slots := 0, locals := 66 }
abbrev rm_J_isTypeOf : Room := { frames := 1, cells := 0, slots := 0, locals := 21 }
abbrev rm_J_isWithin : Room := { frames := 0, cells := 0, slots := 0, locals := 0 }
abbrev rm_J_isTypeAllowed : Room := { frames := 0, cells := 0, slots := 0, locals := 0 }
abbrev rm_T_define : Room := { frames := 0, cells := 0, slots := 0, locals := 0 }
abbrev rm_B_settle : Room := { frames := 2, cells := 0, slots := 0, locals := 45 }
abbrev rm_B_isClass : Room := { frames := 1, cells := 0, slots := 0, locals := 21 }
abbrev rm_B_gatherSupertypes : Room := { frames := 1, cells := 0, slots := 0, locals := 21 }
abbrev rm_B_isInterface : Room := { frames := 0, cells := 0, slots := 0, locals := 0 }
abbrev rm_J_implement : Room := { frames := 3, cells := 0, slots := 0, locals := 66 }
abbrev rm_T_names : Room := { frames := 0, cells := 0, slots := 0, locals := 0 }
abbrev rm_T_addInterface : Room := { frames := 0, cells := 0, slots := 0, locals := 0 }
abbrev rm_J_member : Room := { frames := 2, cells := 0, slots := 0, locals := 46 }
abbrev rm_J_isKey : Room := { frames := 1, cells := 0, slots := 0, locals := 21 }
abbrev rm_T_own : Room := { frames := 0, cells := 0, slots := 0, locals := 0 }
abbrev rm_J_isMemberAllowed : Room := { frames := 0, cells := 0, slots := 0, locals := 0 }
abbrev rm_J_isAllowedInInterface : Room := { frames := 0, cells := 0, slots := 0, locals := 0 }
abbrev rm_T_addMember : Room := { frames := 1, cells := 0, slots := 0, locals := 23 }
abbrev rm_M_define : Room := { frames := 0, cells := 0, slots := 0, locals := 0 }
abbrev rm_J_constant : Room := { frames := 3, cells := 0, slots := 0, locals := 65 }
abbrev rm_J_isMemberOf : Room := { frames := 2, cells := 0, slots := 0, locals := 42 }
abbrev rm_J_remove : Room := { frames := 3, cells := 0, slots := 0, locals := 66 }
abbrev rm_T_clear : Room := { frames := 0, cells := 0, slots := 0, locals := 0 }
abbrev rm_J_drop : Room := { frames := 3, cells := 0, slots := 0, locals := 65 }
abbrev rm_T_takeOut : Room := { frames := 1, cells := 0, slots := 0, locals := 21 }
abbrev rm_M_become : Room := { frames := 0, cells := 0, slots := 0, locals := 0 }
abbrev rm_J_copy : Room := { frames := 3, cells := 0, slots := 0, locals := 84 }
abbrev rm_B_become : Room := { frames := 2, cells := 0, slots := 0, locals := 62 }
abbrev rm_T_become : Room := { frames := 1, cells := 0, slots := 0, locals := 40 }
abbrev rm_B_typeCount : Room := { frames := 0, cells := 0, slots := 0, locals := 0 }
abbrev rm_J_swap : Room := { frames := 0, cells := 0, slots := 0, locals := 0 }
abbrev rm_J_suppress : Room := { frames := 2, cells := 0, slots := 0, locals := 43 }
abbrev rm_J_isSuppressed : Room := { frames := 1, cells := 0, slots := 0, locals := 21 }
abbrev rm_J_contains : Room := { frames := 0, cells := 0, slots := 0, locals := 0 }
abbrev rm_J_supertypes : Room := { frames := 2, cells := 0, slots := 0, locals := 42 }
abbrev rm_J_look : Room := { frames := 4, cells := 0, slots := 0, locals := 95 }
abbrev rm_B_whereIs : Room := { frames := 3, cells := 0, slots := 0, locals := 72 }
abbrev rm_B_whereIsField : Room := { frames := 2, cells := 0, slots := 0, locals := 48 }
abbrev rm_B_fieldOwnerFor : Room := { frames := 1, cells := 0, slots := 0, locals := 23 }
abbrev rm_B_whereIsMethod : Room := { frames := 2, cells := 0, slots := 0, locals := 48 }
abbrev rm_B_whereIsInterfaceMethod : Room := { frames := 1, cells := 0, slots := 0, locals := 23 }
abbrev rm_M_hasAny : Room := { frames := 0, cells := 0, slots := 0, locals := 0 }
abbrev rm_M_access : Room := { frames := 0, cells := 0, slots := 0, locals := 0 }
abbrev rm_J_findings : Room := { frames := 7, cells := 0, slots := 0, locals := 169 }
abbrev rm_C_bringUpToDate : Room := { frames := 6, cells := 0, slots := 0, locals := 146 }
abbrev rm_T_isPublic : Room := { frames := 1, cells := 0, slots := 0, locals := 21 }
abbrev rm_T_hasAny : Room := { frames := 0, cells := 0, slots := 0, locals := 0 }
abbrev rm_C_judgeType : Room := { frames := 5, cells := 0, slots := 0, locals := 121 }
abbrev rm_C_add : Room := { frames := 0, cells := 0, slots := 0, locals := 0 }
abbrev rm_C_judgeHeader : Room := { frames := 1, cells := 0, slots := 0, locals := 23 }
abbrev rm_C_findPartners : Room := { frames := 4, cells := 0, slots := 0, locals := 95 }
abbrev rm_C_judgeOldMembers : Room := { frames := 2, cells := 0, slots := 0, locals := 44 }
abbrev rm_M_isOpen : Room := { frames := 1, cells := 0, slots := 0, locals := 20 }
abbrev rm_C_breaksAsOld : Room := { frames := 1, cells := 0, slots := 0, locals := 21 }
abbrev rm_M_hasConstantOf : Room := { frames := 0, cells := 0, slots := 0, locals := 0 }
abbrev rm_C_judgeNewMembers : Room := { frames := 3, cells := 0, slots := 0, locals := 62 }
abbrev rm_C_breaksAsNew : Room := { frames := 2, cells := 0, slots := 0, locals := 40 }
abbrev rm_J_finding : Room := { frames := 7, cells := 0, slots := 0, locals := 169 }
abbrev rm_J_verdict : Room := { frames := 7, cells := 0, slots := 0, locals := 169 }
abbrev rm_J_byRule : Room := { frames := 7, cells := 0, slots := 0, locals := 169 }
abbrev rm_J_count : Room := { frames := 2, cells := 0, slots := 0, locals := 42 }
abbrev rm_B_memberCount : Room := { frames := 0, cells := 0, slots := 0, locals := 0 }
abbrev rm_J_suppressionCount : Room := { frames := 1, cells := 0, slots := 0, locals := 20 }
abbrev rm_I_bitCount : Room := { frames := 0, cells := 0, slots := 0, locals := 0 }
abbrev rm_R_type : Room := { frames := 2, cells := 0, slots := 0, locals := 42 }
abbrev rm_R_bad : Room := { frames := 1, cells := 0, slots := 0, locals := 21 }
abbrev rm_R_out : Room := { frames := 0, cells := 0, slots := 0, locals := 0 }
abbrev rm_R_implement : Room := { frames := 2, cells := 0, slots := 0, locals := 42 }
abbrev rm_R_member : Room := { frames := 2, cells := 0, slots := 0, locals := 44 }
abbrev rm_R_badKey : Room := { frames := 1, cells := 0, slots := 0, locals := 21 }
abbrev rm_R_own : Room := { frames := 0, cells := 0, slots := 0, locals := 0 }
abbrev rm_R_badFlags : Room := { frames := 1, cells := 0, slots := 0, locals := 21 }
abbrev rm_R_has : Room := { frames := 0, cells := 0, slots := 0, locals := 0 }
abbrev rm_R_constant : Room := { frames := 3, cells := 0, slots := 0, locals := 66 }
abbrev rm_R_cell : Room := { frames := 2, cells := 0, slots := 0, locals := 42 }
abbrev rm_R_remove : Room := { frames := 2, cells := 0, slots := 0, locals := 42 }
abbrev rm_R_drop : Room := { frames := 3, cells := 0, slots := 0, locals := 66 }
abbrev rm_R_copyCell : Room := { frames := 0, cells := 0, slots := 0, locals := 0 }
abbrev rm_R_copy : Room := { frames := 2, cells := 0, slots := 0, locals := 45 }
abbrev rm_R_copyRow : Room := { frames := 1, cells := 0, slots := 0, locals := 22 }
abbrev rm_R_count : Room := { frames := 1, cells := 0, slots := 0, locals := 21 }
abbrev rm_R_swap : Room := { frames := 2, cells := 0, slots := 0, locals := 49 }
abbrev rm_R_copyHead : Room := { frames := 0, cells := 0, slots := 0, locals := 0 }
abbrev rm_R_swapCell : Room := { frames := 1, cells := 0, slots := 0, locals := 22 }
abbrev rm_R_suppress : Room := { frames := 1, cells := 0, slots := 0, locals := 21 }
abbrev rm_R_supertypes : Room := { frames := 2, cells := 0, slots := 0, locals := 51 }
abbrev rm_R_set : Room := { frames := 1, cells := 0, slots := 0, locals := 25 }
abbrev rm_R_direct : Room := { frames := 0, cells := 0, slots := 0, locals := 0 }
abbrev rm_R_look : Room := { frames := 5, cells := 0, slots := 0, locals := 125 }
abbrev rm_R_find : Room := { frames := 4, cells := 0, slots := 0, locals := 101 }
abbrev rm_R_field : Room := { frames := 1, cells := 0, slots := 0, locals := 24 }
abbrev rm_R_is : Room := { frames := 0, cells := 0, slots := 0, locals := 0 }
abbrev rm_R_method : Room := { frames := 3, cells := 0, slots := 0, locals := 74 }
abbrev rm_R_above : Room := { frames := 2, cells := 0, slots := 0, locals := 51 }
abbrev rm_R_findings : Room := { frames := 8, cells := 0, slots := 0, locals := 196 }
abbrev rm_R_all : Room := { frames := 7, cells := 0, slots := 0, locals := 174 }
abbrev rm_R_judge : Room := { frames := 6, cells := 0, slots := 0, locals := 151 }
abbrev rm_R_tell : Room := { frames := 1, cells := 0, slots := 0, locals := 20 }
abbrev rm_R_severity : Room := { frames := 0, cells := 0, slots := 0, locals := 0 }
abbrev rm_R_members : Room := { frames := 5, cells := 0, slots := 0, locals := 125 }
abbrev rm_R_breaks : Room := { frames := 1, cells := 0, slots := 0, locals := 21 }
abbrev rm_R_added : Room := { frames := 5, cells := 0, slots := 0, locals := 125 }
abbrev rm_R_finding : Room := { frames := 8, cells := 0, slots := 0, locals := 196 }
abbrev rm_R_verdict : Room := { frames := 8, cells := 0, slots := 0, locals := 196 }
abbrev rm_R_byRule : Room := { frames := 8, cells := 0, slots := 0, locals := 196 }
end
section
section XR2
variable {p : Program} {l : Launch} {e : Env} {R : Room} {s : State} {m : MethodId} {args : Array Value} {below : List Frame} {meth : Method} {c : Code} {nL cells slots : Nat} {Q : State → Prop} {cc : ByteArray} {ret : Option FieldType} {Ts : List Cond} {own : String} {w : fl_W} {N : Nat} {M M' : fl_M} {pc : Nat} {lv lv' : List (Nat × Value)} {st : List Value}
theorem rdI_ne {M : fl_M} {n k a b : Nat} {v : Int32} (h : a ≠ n ∨ b ≠ k) : (wI M n k v).1 a b = M.1 a b := if_neg (fun q => h.elim (fun z => z q.1) (fun z => z q.2))
theorem rdI_eq {M : fl_M} {n k : Nat} {v : Int32} : (wI M n k v).1 n k = v := fl_u_self
/-- a whole row of ints anew -/
def wA (M : fl_M) (n : Nat) (f : Nat → Int32) : fl_M := (fun a b => if a = n then f b else M.1 a b, M.2)
theorem rdA_ne {M : fl_M} {n a b : Nat} {f : Nat → Int32} (h : a ≠ n) : (wA M n f).1 a b = M.1 a b := if_neg h
theorem rdA_eq {M : fl_M} {n b : Nat} {f : Nat → Int32} : (wA M n f).1 n b = f b := if_pos rfl
theorem x_copyi (K : XC p s m args meth c cc nL ret Ts own w) {n0 n1 t len index : Nat} {q0 q1 q2 : Int32} (e0 : q0 = 0) (e1 : q1 = 0) (e2 : q2 = nI len) (hlk : Cond.methodLink own index arraycopyName ∈ Ts) (hnat : Cond.native arraycopyName ∈ Ts) (hst : Cond.static arraycopyName ∈ Ts) (hini : Cond.initialized "java/lang/System" ∈ Ts) (hn0 : n0 < N) (hsh0 : zSh n0 = .inr (t, len, false)) (hn1 : n1 < N) (hsh1 : zSh n1 = .inr (t, len, false)) (ht : (zTy w)[t]? = some (w.2.1 t, .int)) (hlen : len < 2 ^ 31) (hfr : 1 ≤ R.frames) (hlo : (st.map fun v => v.category).sum + (nativeFrameWords "java/lang/System" "arraycopy" 5 + 11) ≤ R.locals) (hd : decode cc pc = .ok (.invokestatic index, 3)) (kk : XW p l e R s m args below meth c nL cells slots Q w N (wA M n1 (va_cpy (M.1 n0) (M.1 n1) 0 0 len)) (pc + 3) lv (st)) : XW p l e R s m args below meth c nL cells slots Q w N M (pc) lv (.int q2 :: .int q1 :: .ref (w.2.2 + n1) :: .int q0 :: .ref (w.2.2 + n0) :: st) := by
  intro H locs ls hP hS hl
  subst e0; subst e1; subst e2
  have he0 := fl_ws_get (sh := zSh) (w := w) (M := M) hn0
  have hE0 : fl_c w (zSh n0) (M.1 n0) (M.2 n0) = .inl (w.2.1 t, len, .inl (M.1 n0)) := by rw [hsh0]; rfl
  rw [hE0] at he0
  have he1 := fl_ws_get (sh := zSh) (w := w) (M := M) hn1
  have hE1 : fl_c w (zSh n1) (M.1 n1) (M.2 n1) = .inl (w.2.1 t, len, .inl (M.1 n1)) := by rw [hsh1]; rfl
  rw [hE1] at he1
  have z0 : (0 : Int32).toNatClampNeg = 0 := by decide
  have zl : (nI len).toNatClampNeg = len := nI_clamp hlen
  have hset : (fl_ws zSh w N M).set n1 (w.2.2 + n1, .inl (w.2.1 t, len, .inl (va_cpy (M.1 n0) (M.1 n1) 0 0 len))) = fl_ws zSh w N (wA M n1 (va_cpy (M.1 n0) (M.1 n1) 0 0 len)) := by
    refine fl_ws_set (fun a ha => ⟨by funext b; exact rdA_ne ha, rfl⟩) ?_
    rw [hsh1]
    show Sum.inl (_, _, Sum.inl _) = Sum.inl (_, _, Sum.inl _)
    have e9 : va_cpy (M.1 n0) (M.1 n1) 0 0 len = (wA M n1 (va_cpy (M.1 n0) (M.1 n1) 0 0 len)).1 n1 := by funext b; exact rdA_eq.symm
    rw [← e9]
  refine va_copyi (ty := .int) K.x K.b (by rw [K.ml]; exact hl.1.symm) K.o (K.ts _ hlk) (K.ts _ hnat) (K.ts _ hst) (K.ts _ hini) K.K hP fl_ws_D hS n0 n1 t t he0 he1 ht ht rfl (by decide) (by decide) (nI_pos hlen) (by rw [z0, zl]; omega) (by rw [z0, zl]; omega) (fun i _ => rfl) hfr hlo hd (fun H1 locs1 hP1 _ hS1 => ?_)
  rw [z0, zl, hset] at hP1
  exact kk H1 locs1 ls hP1 hS1 hl
/-- Math.max -/
theorem x_max (K : XC p s m args meth c cc nL ret Ts own w) {x y : Int32} {index : Nat} (hlk : Cond.methodLink own index Lib.Math.max.name ∈ Ts) (hst : Cond.static Lib.Math.max.name ∈ Ts) (hini : Cond.initialized "java/lang/Math" ∈ Ts) (hco : Cond.code Lib.Math.max.name Lib.Math.max.code 2 (some .int) ∈ Ts) (hfr : 1 ≤ R.frames) (hlo : (st.map fun v => v.category).sum + 13 ≤ R.locals) (hcs : cells ≤ R.cells ∧ slots ≤ R.slots) (hd : decode cc pc = .ok (.invokestatic index, 3)) (kk : XW p l e R s m args below meth c nL cells slots Q w N M (pc + 3) lv (.int (if x < y then y else x) :: st)) : XW p l e R s m args below meth c nL cells slots Q w N M (pc) lv (.int y :: .int x :: st) := fun H locs ls hP hS hl =>
  va_mmax K.x K.b (by rw [K.ml]; exact hl.1.symm) K.o (K.ts _ hlk) (K.ts _ hst) (K.ts _ hini) (K.ts _ hco) hfr hlo hcs.1 hcs.2 hd (kk H locs ls hP hS hl)
end XR2
end
section
/-- an index out of an int -/
abbrev ix (x : Int32) : Nat := x.toNatClampNeg
theorem ix_nI {n : Nat} (h : n < 2 ^ 31) : ix (nI n) = n := nI_clamp h
/-- not below 0, below L: the int is an index -/
theorem ix_of {x : Int32} (L : Nat) (hL : L < 2 ^ 31) (h0 : ¬ x < 0) (h1 : ¬ nI L ≤ x) : x = nI (ix x) ∧ ix x < L := by
  rcases pk_ix x hL with h | h | ⟨j, hj, rfl⟩
  · exact absurd h h0
  · exact absurd h h1
  · rw [ix_nI (by omega)]; exact ⟨rfl, hj⟩
/-- an index stands in an int -/
def inL (L : Nat) (x : Int32) : Prop := x = nI (ix x) ∧ ix x < L
theorem inL_nI {L n : Nat} (hL : L < 2 ^ 31) (h : n < L) : inL L (nI n) := by
  unfold inL
  rw [ix_nI (by omega)]
  exact ⟨rfl, h⟩
set_option maxHeartbeats 4000000 in
set_option maxRecDepth 100000 in
theorem c_J_isWithin (l : Launch) (w : fl_W) (M : fl_M) (x lim : Int32) : CT l y_J_isWithin w_J_isWithin rm_J_isWithin w zN [.int x, .int lim] M (some (.int (bI (¬ x < 0 ∧ ¬ lim ≤ x)))) M := by
  refine CT.of (cc := b_J_isWithin) (own := "CompatibilityJudge") (by decide) rfl rfl (Nat.le_of_ble_eq_true rfl) ?_
  intro p9 e9 s9 m9 ag9 bl9 mt9 c9 K
  show XW p9 l e9 (rm_J_isWithin) s9 m9 ag9 bl9 mt9 c9 2 0 0 (MQ bl9 (CQ w zN (some (.int (bI (¬ x < 0 ∧ ¬ lim ≤ x)))) M) ag9 s9 0 0 (fun q : Nat => w.2.2 ≤ q)) w zN M 0 [(0, .int x), (1, .int lim)] []
  refine x_iload_n (pc := 0) K 0 d_J_isWithin_0 rfl ?_
  refine x_if_lt (pc := 1) K (tgt := 13) d_J_isWithin_1 (by decide) (fun c1 => ?_) (fun c1 => ?_)
  · skip
    refine x_iconst (pc := 13) K (v := 0) d_J_isWithin_13 (by decide) ?_
    exact x_zret (pc := 14) K (rF (by first | (simp_all; done) | grind)) rfl rfl d_J_isWithin_14
  · skip
    refine x_iload_n (pc := 4) K 0 d_J_isWithin_4 rfl ?_
    refine x_iload_n (pc := 5) K 1 d_J_isWithin_5 rfl ?_
    refine x_icmp_ge (pc := 6) K (tgt := 13) d_J_isWithin_6 (by decide) (fun c6 => ?_) (fun c6 => ?_)
    · skip
      refine x_iconst (pc := 13) K (v := 0) d_J_isWithin_13 (by decide) ?_
      exact x_zret (pc := 14) K (rF (by first | (simp_all; done) | grind)) rfl rfl d_J_isWithin_14
    · skip
      refine x_iconst (pc := 9) K (v := 1) d_J_isWithin_9 (by decide) ?_
      refine x_goto (pc := 10) K (tgt := 14) d_J_isWithin_10 (by decide) ?_
      exact x_zret (pc := 14) K (rT (by first | (simp_all; done) | grind)) rfl rfl d_J_isWithin_14
abbrev okT (b t : Int32) : Prop := (¬ b < 0 ∧ ¬ (2 : Int32) ≤ b) ∧ (¬ t < 0 ∧ ¬ (12 : Int32) ≤ t)
set_option maxHeartbeats 4000000 in
set_option maxRecDepth 100000 in
theorem c_J_isTypeOf (l : Launch) (w : fl_W) (M : fl_M) (b t : Int32) : CT l y_J_isTypeOf w_J_isTypeOf rm_J_isTypeOf w zN [.int b, .int t] M (some (.int (bI (okT b t)))) M := by
  refine CT.of (cc := b_J_isTypeOf) (own := "CompatibilityJudge") (by decide) rfl rfl (Nat.le_of_ble_eq_true rfl) ?_
  intro p9 e9 s9 m9 ag9 bl9 mt9 c9 K
  show XW p9 l e9 (rm_J_isTypeOf) s9 m9 ag9 bl9 mt9 c9 2 0 0 (MQ bl9 (CQ w zN (some (.int (bI (okT b t)))) M) ag9 s9 0 0 (fun q : Nat => w.2.2 ≤ q)) w zN M 0 [(0, .int b), (1, .int t)] []
  refine x_iload_n (pc := 0) K 0 d_J_isTypeOf_0 rfl ?_
  refine x_iconst (pc := 1) K (v := 2) d_J_isTypeOf_1 (by decide) ?_
  refine x_callS (pc := 2) K (As := [.int b, .int 2]) (rest := []) (c_J_isWithin l w M b 2) (zcwS K.ts lk_J_31 sm_J_isWithin ii_J co_J_isWithin pd_J_isWithin ⟨rfl, rfl⟩ ⟨by decide, by decide⟩) rfl rfl (Nat.le_of_ble_eq_true rfl) ⟨Nat.zero_le _, Nat.zero_le _⟩ d_J_isTypeOf_2 ?_
  refine x_ifeqB (pc := 5) K (tgt := 21) d_J_isTypeOf_5 (by decide) (fun c5 => ?_) (fun c5 => ?_)
  · skip
    refine x_iconst (pc := 21) K (v := 0) d_J_isTypeOf_21 (by decide) ?_
    exact x_zret (pc := 22) K (rF (by unfold okT; grind)) rfl rfl d_J_isTypeOf_22
  · skip
    refine x_iload_n (pc := 8) K 1 d_J_isTypeOf_8 rfl ?_
    refine x_bipush (pc := 9) K (v := 12) d_J_isTypeOf_9 (by decide) ?_
    refine x_callS (pc := 11) K (As := [.int t, .int 12]) (rest := []) (c_J_isWithin l w M t 12) (zcwS K.ts lk_J_31 sm_J_isWithin ii_J co_J_isWithin pd_J_isWithin ⟨rfl, rfl⟩ ⟨by decide, by decide⟩) rfl rfl (Nat.le_of_ble_eq_true rfl) ⟨Nat.zero_le _, Nat.zero_le _⟩ d_J_isTypeOf_11 ?_
    refine x_ifeqB (pc := 14) K (tgt := 21) d_J_isTypeOf_14 (by decide) (fun c14 => ?_) (fun c14 => ?_)
    · skip
      refine x_iconst (pc := 21) K (v := 0) d_J_isTypeOf_21 (by decide) ?_
      exact x_zret (pc := 22) K (rF (by unfold okT; grind)) rfl rfl d_J_isTypeOf_22
    · skip
      refine x_iconst (pc := 17) K (v := 1) d_J_isTypeOf_17 (by decide) ?_
      refine x_goto (pc := 18) K (tgt := 22) d_J_isTypeOf_18 (by decide) ?_
      exact x_zret (pc := 22) K (rT (by unfold okT; grind)) rfl rfl d_J_isTypeOf_22
set_option maxHeartbeats 4000000 in
set_option maxRecDepth 100000 in
theorem c_J_contains (l : Launch) (w : fl_W) (M : fl_M) (x t : Int32) : CT l y_J_contains w_J_contains rm_J_contains w zN [.int x, .int t] M (some (.int (bI (¬ (x >>> (t &&& 31)) &&& 1 = 0)))) M := by
  refine CT.of (cc := b_J_contains) (own := "CompatibilityJudge") (by decide) rfl rfl (Nat.le_of_ble_eq_true rfl) ?_
  intro p9 e9 s9 m9 ag9 bl9 mt9 c9 K
  show XW p9 l e9 (rm_J_contains) s9 m9 ag9 bl9 mt9 c9 2 0 0 (MQ bl9 (CQ w zN (some (.int (bI (¬ (x >>> (t &&& 31)) &&& 1 = 0)))) M) ag9 s9 0 0 (fun q : Nat => w.2.2 ≤ q)) w zN M 0 [(0, .int x), (1, .int t)] []
  refine x_iload_n (pc := 0) K 0 d_J_contains_0 rfl ?_
  refine x_iload_n (pc := 1) K 1 d_J_contains_1 rfl ?_
  refine x_ishr (pc := 2) K d_J_contains_2 ?_
  refine x_iconst (pc := 3) K (v := 1) d_J_contains_3 (by decide) ?_
  refine x_iand (pc := 4) K d_J_contains_4 ?_
  refine x_if_eq (pc := 5) K (tgt := 12) d_J_contains_5 (by decide) (fun c5 => ?_) (fun c5 => ?_)
  · skip
    refine x_iconst (pc := 12) K (v := 0) d_J_contains_12 (by decide) ?_
    exact x_zret (pc := 13) K (rF (by first | (simp_all; done) | grind)) rfl rfl d_J_contains_13
  · skip
    refine x_iconst (pc := 8) K (v := 1) d_J_contains_8 (by decide) ?_
    refine x_goto (pc := 9) K (tgt := 13) d_J_contains_9 (by decide) ?_
    exact x_zret (pc := 13) K (rT (by first | (simp_all; done) | grind)) rfl rfl d_J_contains_13
abbrev okTy (k f p : Int32) : Prop := if k = 1 then f &&& 2 = 0 ∧ f &&& 4 = 0 ∧ p = -1 else ¬ (¬ f &&& 2 = 0 ∧ ¬ f &&& 4 = 0)
set_option maxHeartbeats 4000000 in
set_option maxRecDepth 100000 in
theorem c_J_isTypeAllowed (l : Launch) (w : fl_W) (M : fl_M) (k f p : Int32) : CT l y_J_isTypeAllowed w_J_isTypeAllowed rm_J_isTypeAllowed w zN [.int k, .int f, .int p] M (some (.int (bI (okTy k f p)))) M := by
  refine CT.of (cc := b_J_isTypeAllowed) (own := "CompatibilityJudge") (by decide) rfl rfl (Nat.le_of_ble_eq_true rfl) ?_
  intro p9 e9 s9 m9 ag9 bl9 mt9 c9 K
  show XW p9 l e9 (rm_J_isTypeAllowed) s9 m9 ag9 bl9 mt9 c9 5 0 0 (MQ bl9 (CQ w zN (some (.int (bI (okTy k f p)))) M) ag9 s9 0 0 (fun q : Nat => w.2.2 ≤ q)) w zN M 0 [(0, .int k), (1, .int f), (2, .int p)] []
  refine x_iload_n (pc := 0) K 1 d_J_isTypeAllowed_0 rfl ?_
  refine x_iconst (pc := 1) K (v := 2) d_J_isTypeAllowed_1 (by decide) ?_
  refine x_iand (pc := 2) K d_J_isTypeAllowed_2 ?_
  refine x_if_eq (pc := 3) K (tgt := 10) d_J_isTypeAllowed_3 (by decide) (fun c3 => ?_) (fun c3 => ?_)
  · skip
    refine x_iconst (pc := 10) K (v := 0) d_J_isTypeAllowed_10 (by decide) ?_
    refine x_istore_n (pc := 11) K (lv' := [(3, .int 0), (0, .int k), (1, .int f), (2, .int p)]) d_J_isTypeAllowed_11 (by decide) rfl ?_
    refine x_iload_n (pc := 12) K 2 d_J_isTypeAllowed_12 rfl ?_
    refine x_iconst (pc := 13) K (v := 4) d_J_isTypeAllowed_13 (by decide) ?_
    refine x_iand (pc := 14) K d_J_isTypeAllowed_14 ?_
    refine x_if_eq (pc := 15) K (tgt := 22) d_J_isTypeAllowed_15 (by decide) (fun c15 => ?_) (fun c15 => ?_)
    · skip
      refine x_iconst (pc := 22) K (v := 0) d_J_isTypeAllowed_22 (by decide) ?_
      refine x_istore (pc := 23) K (lv' := [(4, .int 0), (3, .int 0), (0, .int k), (1, .int f), (2, .int p)]) d_J_isTypeAllowed_23 (by decide) rfl ?_
      refine x_iload_n (pc := 25) K 2 d_J_isTypeAllowed_25 rfl ?_
      refine x_iconst (pc := 26) K (v := 1) d_J_isTypeAllowed_26 (by decide) ?_
      refine x_icmp_ne (pc := 27) K (tgt := 50) d_J_isTypeAllowed_27 (by decide) (fun c27 => ?_) (fun c27 => ?_)
      · skip
        refine x_iload_n (pc := 50) K 1 d_J_isTypeAllowed_50 rfl ?_
        refine x_if_eq (pc := 51) K (tgt := 59) d_J_isTypeAllowed_51 (by decide) (fun _ => ?_) (fun q => absurd q (by decide))
        refine x_iconst (pc := 59) K (v := 1) d_J_isTypeAllowed_59 (by decide) ?_
        refine x_goto (pc := 60) K (tgt := 64) d_J_isTypeAllowed_60 (by decide) ?_
        exact x_zret (pc := 64) K (rT (by first | (simp_all [okTy]; done) | grind)) rfl rfl d_J_isTypeAllowed_64
      · skip
        refine x_iload_n (pc := 30) K 1 d_J_isTypeAllowed_30 rfl ?_
        refine x_if_ne (pc := 31) K (tgt := 48) d_J_isTypeAllowed_31 (by decide) (fun q => absurd q (by decide)) (fun _ => ?_)
        refine x_iload (pc := 34) K 0 d_J_isTypeAllowed_34 rfl ?_
        refine x_if_ne (pc := 36) K (tgt := 48) d_J_isTypeAllowed_36 (by decide) (fun q => absurd q (by decide)) (fun _ => ?_)
        refine x_iload_n (pc := 39) K 4 d_J_isTypeAllowed_39 rfl ?_
        refine x_iconst (pc := 40) K (v := (-1)) d_J_isTypeAllowed_40 (by decide) ?_
        refine x_icmp_ne (pc := 41) K (tgt := 48) d_J_isTypeAllowed_41 (by decide) (fun c41 => ?_) (fun c41 => ?_)
        · skip
          refine x_iconst (pc := 48) K (v := 0) d_J_isTypeAllowed_48 (by decide) ?_
          exact x_zret (pc := 49) K (rF (by first | (simp_all [okTy]; done) | grind)) rfl rfl d_J_isTypeAllowed_49
        · skip
          refine x_iconst (pc := 44) K (v := 1) d_J_isTypeAllowed_44 (by decide) ?_
          refine x_goto (pc := 45) K (tgt := 49) d_J_isTypeAllowed_45 (by decide) ?_
          exact x_zret (pc := 49) K (rT (by first | (simp_all [okTy]; done) | grind)) rfl rfl d_J_isTypeAllowed_49
    · skip
      refine x_iconst (pc := 18) K (v := 1) d_J_isTypeAllowed_18 (by decide) ?_
      refine x_goto (pc := 19) K (tgt := 23) d_J_isTypeAllowed_19 (by decide) ?_
      refine x_istore (pc := 23) K (lv' := [(4, .int 1), (3, .int 0), (0, .int k), (1, .int f), (2, .int p)]) d_J_isTypeAllowed_23 (by decide) rfl ?_
      refine x_iload_n (pc := 25) K 2 d_J_isTypeAllowed_25 rfl ?_
      refine x_iconst (pc := 26) K (v := 1) d_J_isTypeAllowed_26 (by decide) ?_
      refine x_icmp_ne (pc := 27) K (tgt := 50) d_J_isTypeAllowed_27 (by decide) (fun c27 => ?_) (fun c27 => ?_)
      · skip
        refine x_iload_n (pc := 50) K 1 d_J_isTypeAllowed_50 rfl ?_
        refine x_if_eq (pc := 51) K (tgt := 59) d_J_isTypeAllowed_51 (by decide) (fun _ => ?_) (fun q => absurd q (by decide))
        refine x_iconst (pc := 59) K (v := 1) d_J_isTypeAllowed_59 (by decide) ?_
        refine x_goto (pc := 60) K (tgt := 64) d_J_isTypeAllowed_60 (by decide) ?_
        exact x_zret (pc := 64) K (rT (by first | (simp_all [okTy]; done) | grind)) rfl rfl d_J_isTypeAllowed_64
      · skip
        refine x_iload_n (pc := 30) K 1 d_J_isTypeAllowed_30 rfl ?_
        refine x_if_ne (pc := 31) K (tgt := 48) d_J_isTypeAllowed_31 (by decide) (fun q => absurd q (by decide)) (fun _ => ?_)
        refine x_iload (pc := 34) K 0 d_J_isTypeAllowed_34 rfl ?_
        refine x_if_ne (pc := 36) K (tgt := 48) d_J_isTypeAllowed_36 (by decide) (fun _ => ?_) (fun q => absurd q (by decide))
        refine x_iconst (pc := 48) K (v := 0) d_J_isTypeAllowed_48 (by decide) ?_
        exact x_zret (pc := 49) K (rF (by first | (simp_all [okTy]; done) | grind)) rfl rfl d_J_isTypeAllowed_49
  · skip
    refine x_iconst (pc := 6) K (v := 1) d_J_isTypeAllowed_6 (by decide) ?_
    refine x_goto (pc := 7) K (tgt := 11) d_J_isTypeAllowed_7 (by decide) ?_
    refine x_istore_n (pc := 11) K (lv' := [(3, .int 1), (0, .int k), (1, .int f), (2, .int p)]) d_J_isTypeAllowed_11 (by decide) rfl ?_
    refine x_iload_n (pc := 12) K 2 d_J_isTypeAllowed_12 rfl ?_
    refine x_iconst (pc := 13) K (v := 4) d_J_isTypeAllowed_13 (by decide) ?_
    refine x_iand (pc := 14) K d_J_isTypeAllowed_14 ?_
    refine x_if_eq (pc := 15) K (tgt := 22) d_J_isTypeAllowed_15 (by decide) (fun c15 => ?_) (fun c15 => ?_)
    · skip
      refine x_iconst (pc := 22) K (v := 0) d_J_isTypeAllowed_22 (by decide) ?_
      refine x_istore (pc := 23) K (lv' := [(4, .int 0), (3, .int 1), (0, .int k), (1, .int f), (2, .int p)]) d_J_isTypeAllowed_23 (by decide) rfl ?_
      refine x_iload_n (pc := 25) K 2 d_J_isTypeAllowed_25 rfl ?_
      refine x_iconst (pc := 26) K (v := 1) d_J_isTypeAllowed_26 (by decide) ?_
      refine x_icmp_ne (pc := 27) K (tgt := 50) d_J_isTypeAllowed_27 (by decide) (fun c27 => ?_) (fun c27 => ?_)
      · skip
        refine x_iload_n (pc := 50) K 1 d_J_isTypeAllowed_50 rfl ?_
        refine x_if_eq (pc := 51) K (tgt := 59) d_J_isTypeAllowed_51 (by decide) (fun q => absurd q (by decide)) (fun _ => ?_)
        refine x_iload (pc := 54) K 0 d_J_isTypeAllowed_54 rfl ?_
        refine x_if_ne (pc := 56) K (tgt := 63) d_J_isTypeAllowed_56 (by decide) (fun q => absurd q (by decide)) (fun _ => ?_)
        refine x_iconst (pc := 59) K (v := 1) d_J_isTypeAllowed_59 (by decide) ?_
        refine x_goto (pc := 60) K (tgt := 64) d_J_isTypeAllowed_60 (by decide) ?_
        exact x_zret (pc := 64) K (rT (by first | (simp_all [okTy]; done) | grind)) rfl rfl d_J_isTypeAllowed_64
      · skip
        refine x_iload_n (pc := 30) K 1 d_J_isTypeAllowed_30 rfl ?_
        refine x_if_ne (pc := 31) K (tgt := 48) d_J_isTypeAllowed_31 (by decide) (fun _ => ?_) (fun q => absurd q (by decide))
        refine x_iconst (pc := 48) K (v := 0) d_J_isTypeAllowed_48 (by decide) ?_
        exact x_zret (pc := 49) K (rF (by first | (simp_all [okTy]; done) | grind)) rfl rfl d_J_isTypeAllowed_49
    · skip
      refine x_iconst (pc := 18) K (v := 1) d_J_isTypeAllowed_18 (by decide) ?_
      refine x_goto (pc := 19) K (tgt := 23) d_J_isTypeAllowed_19 (by decide) ?_
      refine x_istore (pc := 23) K (lv' := [(4, .int 1), (3, .int 1), (0, .int k), (1, .int f), (2, .int p)]) d_J_isTypeAllowed_23 (by decide) rfl ?_
      refine x_iload_n (pc := 25) K 2 d_J_isTypeAllowed_25 rfl ?_
      refine x_iconst (pc := 26) K (v := 1) d_J_isTypeAllowed_26 (by decide) ?_
      refine x_icmp_ne (pc := 27) K (tgt := 50) d_J_isTypeAllowed_27 (by decide) (fun c27 => ?_) (fun c27 => ?_)
      · skip
        refine x_iload_n (pc := 50) K 1 d_J_isTypeAllowed_50 rfl ?_
        refine x_if_eq (pc := 51) K (tgt := 59) d_J_isTypeAllowed_51 (by decide) (fun q => absurd q (by decide)) (fun _ => ?_)
        refine x_iload (pc := 54) K 0 d_J_isTypeAllowed_54 rfl ?_
        refine x_if_ne (pc := 56) K (tgt := 63) d_J_isTypeAllowed_56 (by decide) (fun _ => ?_) (fun q => absurd q (by decide))
        refine x_iconst (pc := 63) K (v := 0) d_J_isTypeAllowed_63 (by decide) ?_
        exact x_zret (pc := 64) K (rF (by first | (simp_all [okTy]; done) | grind)) rfl rfl d_J_isTypeAllowed_64
      · skip
        refine x_iload_n (pc := 30) K 1 d_J_isTypeAllowed_30 rfl ?_
        refine x_if_ne (pc := 31) K (tgt := 48) d_J_isTypeAllowed_31 (by decide) (fun _ => ?_) (fun q => absurd q (by decide))
        refine x_iconst (pc := 48) K (v := 0) d_J_isTypeAllowed_48 (by decide) ?_
        exact x_zret (pc := 49) K (rF (by first | (simp_all [okTy]; done) | grind)) rfl rfl d_J_isTypeAllowed_49
abbrev okMb (k f : Int32) : Prop := (¬ f &&& 16 = 0 → k = 1 ∧ f &&& 12 = 0 ∧ ¬ f &&& 3 = 0) ∧ (k = 2 → f &&& 12 = 0)
set_option maxHeartbeats 4000000 in
set_option maxRecDepth 100000 in
theorem c_J_isMemberAllowed (l : Launch) (w : fl_W) (M : fl_M) (k f : Int32) : CT l y_J_isMemberAllowed w_J_isMemberAllowed rm_J_isMemberAllowed w zN [.int k, .int f] M (some (.int (bI (okMb k f)))) M := by
  refine CT.of (cc := b_J_isMemberAllowed) (own := "CompatibilityJudge") (by decide) rfl rfl (Nat.le_of_ble_eq_true rfl) ?_
  intro p9 e9 s9 m9 ag9 bl9 mt9 c9 K
  show XW p9 l e9 (rm_J_isMemberAllowed) s9 m9 ag9 bl9 mt9 c9 3 0 0 (MQ bl9 (CQ w zN (some (.int (bI (okMb k f)))) M) ag9 s9 0 0 (fun q : Nat => w.2.2 ≤ q)) w zN M 0 [(0, .int k), (1, .int f)] []
  refine x_iload_n (pc := 0) K 1 d_J_isMemberAllowed_0 rfl ?_
  refine x_bipush (pc := 1) K (v := 16) d_J_isMemberAllowed_1 (by decide) ?_
  refine x_iand (pc := 3) K d_J_isMemberAllowed_3 ?_
  refine x_if_eq (pc := 4) K (tgt := 11) d_J_isMemberAllowed_4 (by decide) (fun c4 => ?_) (fun c4 => ?_)
  · skip
    refine x_iconst (pc := 11) K (v := 0) d_J_isMemberAllowed_11 (by decide) ?_
    refine x_istore_n (pc := 12) K (lv' := [(2, .int 0), (0, .int k), (1, .int f)]) d_J_isMemberAllowed_12 (by decide) rfl ?_
    refine x_iload_n (pc := 13) K 0 d_J_isMemberAllowed_13 rfl ?_
    refine x_if_eq (pc := 14) K (tgt := 37) d_J_isMemberAllowed_14 (by decide) (fun _ => ?_) (fun q => absurd q (by decide))
    refine x_iload_n (pc := 37) K 1 d_J_isMemberAllowed_37 rfl ?_
    refine x_iconst (pc := 38) K (v := 2) d_J_isMemberAllowed_38 (by decide) ?_
    refine x_icmp_ne (pc := 39) K (tgt := 49) d_J_isMemberAllowed_39 (by decide) (fun c39 => ?_) (fun c39 => ?_)
    · skip
      refine x_iconst (pc := 49) K (v := 1) d_J_isMemberAllowed_49 (by decide) ?_
      refine x_goto (pc := 50) K (tgt := 54) d_J_isMemberAllowed_50 (by decide) ?_
      exact x_zret (pc := 54) K (rT (by first | (simp_all [okMb]; done) | grind)) rfl rfl d_J_isMemberAllowed_54
    · skip
      refine x_iload_n (pc := 42) K 2 d_J_isMemberAllowed_42 rfl ?_
      refine x_bipush (pc := 43) K (v := 12) d_J_isMemberAllowed_43 (by decide) ?_
      refine x_iand (pc := 45) K d_J_isMemberAllowed_45 ?_
      refine x_if_ne (pc := 46) K (tgt := 53) d_J_isMemberAllowed_46 (by decide) (fun c46 => ?_) (fun c46 => ?_)
      · skip
        refine x_iconst (pc := 53) K (v := 0) d_J_isMemberAllowed_53 (by decide) ?_
        exact x_zret (pc := 54) K (rF (by first | (simp_all [okMb]; done) | grind)) rfl rfl d_J_isMemberAllowed_54
      · skip
        refine x_iconst (pc := 49) K (v := 1) d_J_isMemberAllowed_49 (by decide) ?_
        refine x_goto (pc := 50) K (tgt := 54) d_J_isMemberAllowed_50 (by decide) ?_
        exact x_zret (pc := 54) K (rT (by first | (simp_all [okMb]; done) | grind)) rfl rfl d_J_isMemberAllowed_54
  · skip
    refine x_iconst (pc := 7) K (v := 1) d_J_isMemberAllowed_7 (by decide) ?_
    refine x_goto (pc := 8) K (tgt := 12) d_J_isMemberAllowed_8 (by decide) ?_
    refine x_istore_n (pc := 12) K (lv' := [(2, .int 1), (0, .int k), (1, .int f)]) d_J_isMemberAllowed_12 (by decide) rfl ?_
    refine x_iload_n (pc := 13) K 0 d_J_isMemberAllowed_13 rfl ?_
    refine x_if_eq (pc := 14) K (tgt := 37) d_J_isMemberAllowed_14 (by decide) (fun q => absurd q (by decide)) (fun _ => ?_)
    refine x_iload_n (pc := 17) K 1 d_J_isMemberAllowed_17 rfl ?_
    refine x_iconst (pc := 18) K (v := 1) d_J_isMemberAllowed_18 (by decide) ?_
    refine x_icmp_ne (pc := 19) K (tgt := 35) d_J_isMemberAllowed_19 (by decide) (fun c19 => ?_) (fun c19 => ?_)
    · skip
      refine x_iconst (pc := 35) K (v := 0) d_J_isMemberAllowed_35 (by decide) ?_
      exact x_zret (pc := 36) K (rF (by first | (simp_all [okMb]; done) | grind)) rfl rfl d_J_isMemberAllowed_36
    · skip
      refine x_iload_n (pc := 22) K 2 d_J_isMemberAllowed_22 rfl ?_
      refine x_bipush (pc := 23) K (v := 12) d_J_isMemberAllowed_23 (by decide) ?_
      refine x_iand (pc := 25) K d_J_isMemberAllowed_25 ?_
      refine x_if_ne (pc := 26) K (tgt := 35) d_J_isMemberAllowed_26 (by decide) (fun c26 => ?_) (fun c26 => ?_)
      · skip
        refine x_iconst (pc := 35) K (v := 0) d_J_isMemberAllowed_35 (by decide) ?_
        exact x_zret (pc := 36) K (rF (by first | (simp_all [okMb]; done) | grind)) rfl rfl d_J_isMemberAllowed_36
      · skip
        refine x_iload_n (pc := 29) K 2 d_J_isMemberAllowed_29 rfl ?_
        refine x_iconst (pc := 30) K (v := 3) d_J_isMemberAllowed_30 (by decide) ?_
        refine x_iand (pc := 31) K d_J_isMemberAllowed_31 ?_
        refine x_if_ne (pc := 32) K (tgt := 37) d_J_isMemberAllowed_32 (by decide) (fun c32 => ?_) (fun c32 => ?_)
        · skip
          refine x_iload_n (pc := 37) K 1 d_J_isMemberAllowed_37 rfl ?_
          refine x_iconst (pc := 38) K (v := 2) d_J_isMemberAllowed_38 (by decide) ?_
          refine x_icmp_ne (pc := 39) K (tgt := 49) d_J_isMemberAllowed_39 (by decide) (fun c39 => ?_) (fun c39 => ?_)
          · skip
            refine x_iconst (pc := 49) K (v := 1) d_J_isMemberAllowed_49 (by decide) ?_
            refine x_goto (pc := 50) K (tgt := 54) d_J_isMemberAllowed_50 (by decide) ?_
            exact x_zret (pc := 54) K (rT (by first | (simp_all [okMb]; done) | grind)) rfl rfl d_J_isMemberAllowed_54
          · skip
            refine x_iload_n (pc := 42) K 2 d_J_isMemberAllowed_42 rfl ?_
            refine x_bipush (pc := 43) K (v := 12) d_J_isMemberAllowed_43 (by decide) ?_
            refine x_iand (pc := 45) K d_J_isMemberAllowed_45 ?_
            refine x_if_ne (pc := 46) K (tgt := 53) d_J_isMemberAllowed_46 (by decide) (fun c46 => ?_) (fun c46 => ?_)
            · skip
              refine x_iconst (pc := 53) K (v := 0) d_J_isMemberAllowed_53 (by decide) ?_
              exact x_zret (pc := 54) K (rF (by first | (simp_all [okMb]; done) | grind)) rfl rfl d_J_isMemberAllowed_54
            · skip
              refine x_iconst (pc := 49) K (v := 1) d_J_isMemberAllowed_49 (by decide) ?_
              refine x_goto (pc := 50) K (tgt := 54) d_J_isMemberAllowed_50 (by decide) ?_
              exact x_zret (pc := 54) K (rT (by first | (simp_all [okMb]; done) | grind)) rfl rfl d_J_isMemberAllowed_54
        · skip
          refine x_iconst (pc := 35) K (v := 0) d_J_isMemberAllowed_35 (by decide) ?_
          exact x_zret (pc := 36) K (rF (by first | (simp_all [okMb]; done) | grind)) rfl rfl d_J_isMemberAllowed_36
abbrev okIf (k f : Int32) : Prop := if k = 0 then f &&& 3 = 3 ∧ ¬ f &&& 4 = 0 ∧ ¬ f &&& 8 = 0 else k = 1 ∧ f &&& 8 = 0 ∧ (f &&& 3 = 3 ∨ f &&& 3 = 0)
set_option maxHeartbeats 4000000 in
set_option maxRecDepth 100000 in
theorem c_J_isAllowedInInterface (l : Launch) (w : fl_W) (M : fl_M) (k f : Int32) : CT l y_J_isAllowedInInterface w_J_isAllowedInInterface rm_J_isAllowedInInterface w zN [.int k, .int f] M (some (.int (bI (okIf k f)))) M := by
  refine CT.of (cc := b_J_isAllowedInInterface) (own := "CompatibilityJudge") (by decide) rfl rfl (Nat.le_of_ble_eq_true rfl) ?_
  intro p9 e9 s9 m9 ag9 bl9 mt9 c9 K
  show XW p9 l e9 (rm_J_isAllowedInInterface) s9 m9 ag9 bl9 mt9 c9 3 0 0 (MQ bl9 (CQ w zN (some (.int (bI (okIf k f)))) M) ag9 s9 0 0 (fun q : Nat => w.2.2 ≤ q)) w zN M 0 [(0, .int k), (1, .int f)] []
  refine x_iload_n (pc := 0) K 1 d_J_isAllowedInInterface_0 rfl ?_
  refine x_iconst (pc := 1) K (v := 3) d_J_isAllowedInInterface_1 (by decide) ?_
  refine x_iand (pc := 2) K d_J_isAllowedInInterface_2 ?_
  refine x_istore_n (pc := 3) K (lv' := [(2, .int (f &&& 3)), (0, .int k), (1, .int f)]) d_J_isAllowedInInterface_3 (by decide) rfl ?_
  refine x_iload_n (pc := 4) K 1 d_J_isAllowedInInterface_4 rfl ?_
  refine x_if_ne (pc := 5) K (tgt := 32) d_J_isAllowedInInterface_5 (by decide) (fun c5 => ?_) (fun c5 => ?_)
  · skip
    refine x_iload_n (pc := 32) K 1 d_J_isAllowedInInterface_32 rfl ?_
    refine x_iconst (pc := 33) K (v := 1) d_J_isAllowedInInterface_33 (by decide) ?_
    refine x_icmp_ne (pc := 34) K (tgt := 57) d_J_isAllowedInInterface_34 (by decide) (fun c34 => ?_) (fun c34 => ?_)
    · skip
      refine x_iconst (pc := 57) K (v := 0) d_J_isAllowedInInterface_57 (by decide) ?_
      exact x_zret (pc := 58) K (rF (by first | (simp_all [okIf]; done) | grind)) rfl rfl d_J_isAllowedInInterface_58
    · skip
      refine x_iload_n (pc := 37) K 2 d_J_isAllowedInInterface_37 rfl ?_
      refine x_bipush (pc := 38) K (v := 8) d_J_isAllowedInInterface_38 (by decide) ?_
      refine x_iand (pc := 40) K d_J_isAllowedInInterface_40 ?_
      refine x_if_ne (pc := 41) K (tgt := 57) d_J_isAllowedInInterface_41 (by decide) (fun c41 => ?_) (fun c41 => ?_)
      · skip
        refine x_iconst (pc := 57) K (v := 0) d_J_isAllowedInInterface_57 (by decide) ?_
        exact x_zret (pc := 58) K (rF (by first | (simp_all [okIf]; done) | grind)) rfl rfl d_J_isAllowedInInterface_58
      · skip
        refine x_iload_n (pc := 44) K 0 d_J_isAllowedInInterface_44 rfl ?_
        refine x_iconst (pc := 45) K (v := 3) d_J_isAllowedInInterface_45 (by decide) ?_
        refine x_icmp_eq (pc := 46) K (tgt := 53) d_J_isAllowedInInterface_46 (by decide) (fun c46 => ?_) (fun c46 => ?_)
        · skip
          refine x_iconst (pc := 53) K (v := 1) d_J_isAllowedInInterface_53 (by decide) ?_
          refine x_goto (pc := 54) K (tgt := 58) d_J_isAllowedInInterface_54 (by decide) ?_
          exact x_zret (pc := 58) K (rT (by first | (simp_all [okIf]; done) | grind)) rfl rfl d_J_isAllowedInInterface_58
        · skip
          refine x_iload_n (pc := 49) K 0 d_J_isAllowedInInterface_49 rfl ?_
          refine x_if_ne (pc := 50) K (tgt := 57) d_J_isAllowedInInterface_50 (by decide) (fun c50 => ?_) (fun c50 => ?_)
          · skip
            refine x_iconst (pc := 57) K (v := 0) d_J_isAllowedInInterface_57 (by decide) ?_
            exact x_zret (pc := 58) K (rF (by first | (simp_all [okIf]; done) | grind)) rfl rfl d_J_isAllowedInInterface_58
          · skip
            refine x_iconst (pc := 53) K (v := 1) d_J_isAllowedInInterface_53 (by decide) ?_
            refine x_goto (pc := 54) K (tgt := 58) d_J_isAllowedInInterface_54 (by decide) ?_
            exact x_zret (pc := 58) K (rT (by first | (simp_all [okIf]; done) | grind)) rfl rfl d_J_isAllowedInInterface_58
  · skip
    refine x_iload_n (pc := 8) K 0 d_J_isAllowedInInterface_8 rfl ?_
    refine x_iconst (pc := 9) K (v := 3) d_J_isAllowedInInterface_9 (by decide) ?_
    refine x_icmp_ne (pc := 10) K (tgt := 30) d_J_isAllowedInInterface_10 (by decide) (fun c10 => ?_) (fun c10 => ?_)
    · skip
      refine x_iconst (pc := 30) K (v := 0) d_J_isAllowedInInterface_30 (by decide) ?_
      exact x_zret (pc := 31) K (rF (by first | (simp_all [okIf]; done) | grind)) rfl rfl d_J_isAllowedInInterface_31
    · skip
      refine x_iload_n (pc := 13) K 2 d_J_isAllowedInInterface_13 rfl ?_
      refine x_iconst (pc := 14) K (v := 4) d_J_isAllowedInInterface_14 (by decide) ?_
      refine x_iand (pc := 15) K d_J_isAllowedInInterface_15 ?_
      refine x_if_eq (pc := 16) K (tgt := 30) d_J_isAllowedInInterface_16 (by decide) (fun c16 => ?_) (fun c16 => ?_)
      · skip
        refine x_iconst (pc := 30) K (v := 0) d_J_isAllowedInInterface_30 (by decide) ?_
        exact x_zret (pc := 31) K (rF (by first | (simp_all [okIf]; done) | grind)) rfl rfl d_J_isAllowedInInterface_31
      · skip
        refine x_iload_n (pc := 19) K 2 d_J_isAllowedInInterface_19 rfl ?_
        refine x_bipush (pc := 20) K (v := 8) d_J_isAllowedInInterface_20 (by decide) ?_
        refine x_iand (pc := 22) K d_J_isAllowedInInterface_22 ?_
        refine x_if_eq (pc := 23) K (tgt := 30) d_J_isAllowedInInterface_23 (by decide) (fun c23 => ?_) (fun c23 => ?_)
        · skip
          refine x_iconst (pc := 30) K (v := 0) d_J_isAllowedInInterface_30 (by decide) ?_
          exact x_zret (pc := 31) K (rF (by first | (simp_all [okIf]; done) | grind)) rfl rfl d_J_isAllowedInInterface_31
        · skip
          refine x_iconst (pc := 26) K (v := 1) d_J_isAllowedInInterface_26 (by decide) ?_
          refine x_goto (pc := 27) K (tgt := 31) d_J_isAllowedInInterface_27 (by decide) ?_
          exact x_zret (pc := 31) K (rT (by first | (simp_all [okIf]; done) | grind)) rfl rfl d_J_isAllowedInInterface_31
abbrev mDef (M : fl_M) (n : Nat) (a b c : Int32) : fl_M := wI (wI (wI (wI (wI M n 0 a) n 1 b) n 2 c) n 3 0) n 4 0
set_option maxHeartbeats 4000000 in
set_option maxRecDepth 100000 in
theorem c_M_define (l : Launch) (w : fl_W) (M : fl_M) (a b c : Int32) (n : Nat) (hM : zSh n = zsM)  : CT l y_M_define w_M_define rm_M_define w zN [.ref (w.2.2 + n), .int a, .int b, .int c] M none (mDef M n a b c) := by
  refine CT.of (cc := b_M_define) (own := "CompatibilityJudge$Member") (by decide) rfl rfl (Nat.le_of_ble_eq_true rfl) ?_
  intro p9 e9 s9 m9 ag9 bl9 mt9 c9 K
  show XW p9 l e9 (rm_M_define) s9 m9 ag9 bl9 mt9 c9 4 0 0 (MQ bl9 (CQ w zN none (mDef M n a b c)) ag9 s9 0 0 (fun q : Nat => w.2.2 ≤ q)) w zN M 0 [(0, .ref (w.2.2 + n)), (1, .int a), (2, .int b), (3, .int c)] []
  refine x_aload_n (pc := 0) K 0 d_M_define_0 rfl ?_
  refine x_iload_n (pc := 1) K 1 d_M_define_1 rfl ?_
  refine x_puti (pc := 2) K (n := n) (k := 0) (x := a) uY_M tk_M nm_M (zlt hM) hM rfl rfl (by decide) (fun _ q => zmem (uw_M _ q)) (zmem lk_M_9) rfl rfl rfl d_M_define_2 ?_
  refine x_aload_n (pc := 5) K 0 d_M_define_5 rfl ?_
  refine x_iload_n (pc := 6) K 2 d_M_define_6 rfl ?_
  refine x_puti (pc := 7) K (n := n) (k := 1) (x := b) uY_M tk_M nm_M (zlt hM) hM rfl rfl (by decide) (fun _ q => zmem (uw_M _ q)) (zmem lk_M_15) rfl rfl rfl d_M_define_7 ?_
  refine x_aload_n (pc := 10) K 0 d_M_define_10 rfl ?_
  refine x_iload_n (pc := 11) K 3 d_M_define_11 rfl ?_
  refine x_puti (pc := 12) K (n := n) (k := 2) (x := c) uY_M tk_M nm_M (zlt hM) hM rfl rfl (by decide) (fun _ q => zmem (uw_M _ q)) (zmem lk_M_18) rfl rfl rfl d_M_define_12 ?_
  refine x_aload_n (pc := 15) K 0 d_M_define_15 rfl ?_
  refine x_iconst (pc := 16) K (v := 0) d_M_define_16 (by decide) ?_
  refine x_puti (pc := 17) K (n := n) (k := 3) (x := 0) uY_M tk_M nm_M (zlt hM) hM rfl rfl (by decide) (fun _ q => zmem (uw_M _ q)) (zmem lk_M_21) rfl rfl rfl d_M_define_17 ?_
  refine x_aload_n (pc := 20) K 0 d_M_define_20 rfl ?_
  refine x_iconst (pc := 21) K (v := 0) d_M_define_21 (by decide) ?_
  refine x_puti (pc := 22) K (n := n) (k := 4) (x := 0) uY_M tk_M nm_M (zlt hM) hM rfl rfl (by decide) (fun _ q => zmem (uw_M _ q)) (zmem lk_M_25) rfl rfl rfl d_M_define_22 ?_
  exact x_vret (pc := 25) K rfl (rfl) d_M_define_25
def mCp1 (M : fl_M) (n n2 k : Nat) : fl_M := wI M n k (M.1 n2 k)
def mCp (M : fl_M) (n n2 : Nat) : fl_M := mCp1 (mCp1 (mCp1 (mCp1 (mCp1 M n n2 0) n n2 1) n n2 2) n n2 3) n n2 4
theorem mCp_z {M : fl_M} {n n2 : Nat} (h : isZ (M.1 n2 3)) : isZ ((mCp1 (mCp1 (mCp1 M n n2 0) n n2 1) n n2 2).1 n2 3) := by
  simpa [mCp1, wI, fl_u] using h
set_option maxHeartbeats 4000000 in
set_option maxRecDepth 100000 in
theorem c_M_become (l : Launch) (w : fl_W) (M : fl_M) (n2 : Nat) (hM2 : zSh n2 = zsM) (hz : isZ (M.1 n2 3)) (n : Nat) (hM : zSh n = zsM)  : CT l y_M_become w_M_become rm_M_become w zN [.ref (w.2.2 + n), .ref (w.2.2 + n2)] M none (mCp M n n2) := by
  refine CT.of (cc := b_M_become) (own := "CompatibilityJudge$Member") (by decide) rfl rfl (Nat.le_of_ble_eq_true rfl) ?_
  intro p9 e9 s9 m9 ag9 bl9 mt9 c9 K
  show XW p9 l e9 (rm_M_become) s9 m9 ag9 bl9 mt9 c9 2 0 0 (MQ bl9 (CQ w zN none (mCp M n n2)) ag9 s9 0 0 (fun q : Nat => w.2.2 ≤ q)) w zN M 0 [(0, .ref (w.2.2 + n)), (1, .ref (w.2.2 + n2))] []
  refine x_aload_n (pc := 0) K 0 d_M_become_0 rfl ?_
  refine x_aload_n (pc := 1) K 1 d_M_become_1 rfl ?_
  refine x_geti (pc := 2) K (n := n2) (k := 0) (zlt hM2) hM2 rfl rfl (by decide) (fun _ q => zmem (uw_M _ q)) (zmem lk_M_9) d_M_become_2 ?_
  refine x_puti (pc := 5) K (n := n) (k := 0) (x := M.1 n2 0) uY_M tk_M nm_M (zlt hM) hM rfl rfl (by decide) (fun _ q => zmem (uw_M _ q)) (zmem lk_M_9) rfl rfl rfl d_M_become_5 ?_
  refine x_aload_n (pc := 8) K 0 d_M_become_8 rfl ?_
  refine x_aload_n (pc := 9) K 1 d_M_become_9 rfl ?_
  refine x_geti (pc := 10) K (n := n2) (k := 1) (zlt hM2) hM2 rfl rfl (by decide) (fun _ q => zmem (uw_M _ q)) (zmem lk_M_15) d_M_become_10 ?_
  refine x_puti (pc := 13) K (n := n) (k := 1) (x := (wI M n 0 (M.1 n2 0)).1 n2 1) uY_M tk_M nm_M (zlt hM) hM rfl rfl (by decide) (fun _ q => zmem (uw_M _ q)) (zmem lk_M_15) rfl rfl rfl d_M_become_13 ?_
  refine x_aload_n (pc := 16) K 0 d_M_become_16 rfl ?_
  refine x_aload_n (pc := 17) K 1 d_M_become_17 rfl ?_
  refine x_geti (pc := 18) K (n := n2) (k := 2) (zlt hM2) hM2 rfl rfl (by decide) (fun _ q => zmem (uw_M _ q)) (zmem lk_M_18) d_M_become_18 ?_
  refine x_puti (pc := 21) K (n := n) (k := 2) (x := (wI (wI M n 0 (M.1 n2 0)) n 1 ((wI M n 0 (M.1 n2 0)).1 n2 1)).1 n2 2) uY_M tk_M nm_M (zlt hM) hM rfl rfl (by decide) (fun _ q => zmem (uw_M _ q)) (zmem lk_M_18) rfl rfl rfl d_M_become_21 ?_
  refine x_aload_n (pc := 24) K 0 d_M_become_24 rfl ?_
  refine x_aload_n (pc := 25) K 1 d_M_become_25 rfl ?_
  refine x_geti (pc := 26) K (n := n2) (k := 3) (zlt hM2) hM2 rfl rfl (by decide) (fun _ q => zmem (uw_M _ q)) (zmem lk_M_21) d_M_become_26 ?_
  refine x_puti (pc := 29) K (n := n) (k := 3) (x := (wI (wI (wI M n 0 (M.1 n2 0)) n 1 ((wI M n 0 (M.1 n2 0)).1 n2 1)) n 2 ((wI (wI M n 0 (M.1 n2 0)) n 1 ((wI M n 0 (M.1 n2 0)).1 n2 1)).1 n2 2)).1 n2 3) uY_M tk_M nm_M (zlt hM) hM rfl rfl (by decide) (fun _ q => zmem (uw_M _ q)) (zmem lk_M_21) rfl (isZ_n (mCp_z (n := n) hz)) (isZ_ft (mCp_z (n := n) hz)) d_M_become_29 ?_
  refine x_aload_n (pc := 32) K 0 d_M_become_32 rfl ?_
  refine x_aload_n (pc := 33) K 1 d_M_become_33 rfl ?_
  refine x_geti (pc := 34) K (n := n2) (k := 4) (zlt hM2) hM2 rfl rfl (by decide) (fun _ q => zmem (uw_M _ q)) (zmem lk_M_25) d_M_become_34 ?_
  refine x_puti (pc := 37) K (n := n) (k := 4) (x := (wI (wI (wI (wI M n 0 (M.1 n2 0)) n 1 ((wI M n 0 (M.1 n2 0)).1 n2 1)) n 2 ((wI (wI M n 0 (M.1 n2 0)) n 1 ((wI M n 0 (M.1 n2 0)).1 n2 1)).1 n2 2)) n 3 ((wI (wI (wI M n 0 (M.1 n2 0)) n 1 ((wI M n 0 (M.1 n2 0)).1 n2 1)) n 2 ((wI (wI M n 0 (M.1 n2 0)) n 1 ((wI M n 0 (M.1 n2 0)).1 n2 1)).1 n2 2)).1 n2 3)).1 n2 4) uY_M tk_M nm_M (zlt hM) hM rfl rfl (by decide) (fun _ q => zmem (uw_M _ q)) (zmem lk_M_25) rfl rfl rfl d_M_become_37 ?_
  exact x_vret (pc := 40) K rfl (rfl) d_M_become_40
set_option maxHeartbeats 4000000 in
set_option maxRecDepth 100000 in
theorem c_M_hasAny (l : Launch) (w : fl_W) (M : fl_M) (f : Int32) (n : Nat) (hM : zSh n = zsM)  : CT l y_M_hasAny w_M_hasAny rm_M_hasAny w zN [.ref (w.2.2 + n), .int f] M (some (.int (bI (¬ M.1 n 2 &&& f = 0)))) M := by
  refine CT.of (cc := b_M_hasAny) (own := "CompatibilityJudge$Member") (by decide) rfl rfl (Nat.le_of_ble_eq_true rfl) ?_
  intro p9 e9 s9 m9 ag9 bl9 mt9 c9 K
  show XW p9 l e9 (rm_M_hasAny) s9 m9 ag9 bl9 mt9 c9 2 0 0 (MQ bl9 (CQ w zN (some (.int (bI (¬ M.1 n 2 &&& f = 0)))) M) ag9 s9 0 0 (fun q : Nat => w.2.2 ≤ q)) w zN M 0 [(0, .ref (w.2.2 + n)), (1, .int f)] []
  refine x_aload_n (pc := 0) K 0 d_M_hasAny_0 rfl ?_
  refine x_geti (pc := 1) K (n := n) (k := 2) (zlt hM) hM rfl rfl (by decide) (fun _ q => zmem (uw_M _ q)) (zmem lk_M_18) d_M_hasAny_1 ?_
  refine x_iload_n (pc := 4) K 1 d_M_hasAny_4 rfl ?_
  refine x_iand (pc := 5) K d_M_hasAny_5 ?_
  refine x_if_eq (pc := 6) K (tgt := 13) d_M_hasAny_6 (by decide) (fun c6 => ?_) (fun c6 => ?_)
  · skip
    refine x_iconst (pc := 13) K (v := 0) d_M_hasAny_13 (by decide) ?_
    exact x_zret (pc := 14) K (rF (by first | (simp_all; done) | grind)) rfl rfl d_M_hasAny_14
  · skip
    refine x_iconst (pc := 9) K (v := 1) d_M_hasAny_9 (by decide) ?_
    refine x_goto (pc := 10) K (tgt := 14) d_M_hasAny_10 (by decide) ?_
    exact x_zret (pc := 14) K (rT (by first | (simp_all; done) | grind)) rfl rfl d_M_hasAny_14
set_option maxHeartbeats 4000000 in
set_option maxRecDepth 100000 in
theorem c_M_access (l : Launch) (w : fl_W) (M : fl_M) (n : Nat) (hM : zSh n = zsM)  : CT l y_M_access w_M_access rm_M_access w zN [.ref (w.2.2 + n)] M (some (.int (M.1 n 2 &&& 3))) M := by
  refine CT.of (cc := b_M_access) (own := "CompatibilityJudge$Member") (by decide) rfl rfl (Nat.le_of_ble_eq_true rfl) ?_
  intro p9 e9 s9 m9 ag9 bl9 mt9 c9 K
  show XW p9 l e9 (rm_M_access) s9 m9 ag9 bl9 mt9 c9 1 0 0 (MQ bl9 (CQ w zN (some (.int (M.1 n 2 &&& 3))) M) ag9 s9 0 0 (fun q : Nat => w.2.2 ≤ q)) w zN M 0 [(0, .ref (w.2.2 + n))] []
  refine x_aload_n (pc := 0) K 0 d_M_access_0 rfl ?_
  refine x_geti (pc := 1) K (n := n) (k := 2) (zlt hM) hM rfl rfl (by decide) (fun _ q => zmem (uw_M _ q)) (zmem lk_M_18) d_M_access_1 ?_
  refine x_iconst (pc := 4) K (v := 3) d_M_access_4 (by decide) ?_
  refine x_iand (pc := 5) K d_M_access_5 ?_
  exact x_iret (pc := 6) K (rfl) (rfl) d_M_access_6
set_option maxHeartbeats 4000000 in
set_option maxRecDepth 100000 in
theorem c_M_isOpen (l : Launch) (w : fl_W) (M : fl_M) (n : Nat) (hM : zSh n = zsM)  : CT l y_M_isOpen w_M_isOpen rm_M_isOpen w zN [.ref (w.2.2 + n)] M (some (.int (bI (¬ (M.1 n 2 &&& 3) < 2)))) M := by
  refine CT.of (cc := b_M_isOpen) (own := "CompatibilityJudge$Member") (by decide) rfl rfl (Nat.le_of_ble_eq_true rfl) ?_
  intro p9 e9 s9 m9 ag9 bl9 mt9 c9 K
  show XW p9 l e9 (rm_M_isOpen) s9 m9 ag9 bl9 mt9 c9 1 0 0 (MQ bl9 (CQ w zN (some (.int (bI (¬ (M.1 n 2 &&& 3) < 2)))) M) ag9 s9 0 0 (fun q : Nat => w.2.2 ≤ q)) w zN M 0 [(0, .ref (w.2.2 + n))] []
  refine x_aload_n (pc := 0) K 0 d_M_isOpen_0 rfl ?_
  refine x_callV (pc := 1) K (As := []) (rest := []) (c_M_access l w M n hM) (zcwV K.ts lk_M_28 im_M_access se_M_access ii_M co_M_access pd_M_access ⟨rfl, rfl⟩ ⟨by decide, by decide⟩) (zlt hM) hM rfl rfl rfl (Nat.le_of_ble_eq_true rfl) ⟨Nat.zero_le _, Nat.zero_le _⟩ d_M_isOpen_1 ?_
  refine x_iconst (pc := 4) K (v := 2) d_M_isOpen_4 (by decide) ?_
  refine x_icmp_lt (pc := 5) K (tgt := 12) d_M_isOpen_5 (by decide) (fun c5 => ?_) (fun c5 => ?_)
  · skip
    refine x_iconst (pc := 12) K (v := 0) d_M_isOpen_12 (by decide) ?_
    exact x_zret (pc := 13) K (rF (by first | (simp_all; done) | grind)) rfl rfl d_M_isOpen_13
  · skip
    refine x_iconst (pc := 8) K (v := 1) d_M_isOpen_8 (by decide) ?_
    refine x_goto (pc := 9) K (tgt := 13) d_M_isOpen_9 (by decide) ?_
    exact x_zret (pc := 13) K (rT (by first | (simp_all; done) | grind)) rfl rfl d_M_isOpen_13
set_option maxHeartbeats 4000000 in
set_option maxRecDepth 100000 in
theorem c_M_hasConstantOf (l : Launch) (w : fl_W) (M : fl_M) (n2 : Nat) (hM2 : zSh n2 = zsM) (n : Nat) (hM : zSh n = zsM)  : CT l y_M_hasConstantOf w_M_hasConstantOf rm_M_hasConstantOf w zN [.ref (w.2.2 + n), .ref (w.2.2 + n2)] M (some (.int (bI (¬ M.1 n 3 = 0 ∧ ¬ M.1 n2 3 = 0 ∧ M.1 n 4 = M.1 n2 4)))) M := by
  refine CT.of (cc := b_M_hasConstantOf) (own := "CompatibilityJudge$Member") (by decide) rfl rfl (Nat.le_of_ble_eq_true rfl) ?_
  intro p9 e9 s9 m9 ag9 bl9 mt9 c9 K
  show XW p9 l e9 (rm_M_hasConstantOf) s9 m9 ag9 bl9 mt9 c9 2 0 0 (MQ bl9 (CQ w zN (some (.int (bI (¬ M.1 n 3 = 0 ∧ ¬ M.1 n2 3 = 0 ∧ M.1 n 4 = M.1 n2 4)))) M) ag9 s9 0 0 (fun q : Nat => w.2.2 ≤ q)) w zN M 0 [(0, .ref (w.2.2 + n)), (1, .ref (w.2.2 + n2))] []
  refine x_aload_n (pc := 0) K 0 d_M_hasConstantOf_0 rfl ?_
  refine x_geti (pc := 1) K (n := n) (k := 3) (zlt hM) hM rfl rfl (by decide) (fun _ q => zmem (uw_M _ q)) (zmem lk_M_21) d_M_hasConstantOf_1 ?_
  refine x_if_eq (pc := 4) K (tgt := 29) d_M_hasConstantOf_4 (by decide) (fun c4 => ?_) (fun c4 => ?_)
  · skip
    refine x_iconst (pc := 29) K (v := 0) d_M_hasConstantOf_29 (by decide) ?_
    exact x_zret (pc := 30) K (rF (by first | (simp_all; done) | grind)) rfl rfl d_M_hasConstantOf_30
  · skip
    refine x_aload_n (pc := 7) K 1 d_M_hasConstantOf_7 rfl ?_
    refine x_geti (pc := 8) K (n := n2) (k := 3) (zlt hM2) hM2 rfl rfl (by decide) (fun _ q => zmem (uw_M _ q)) (zmem lk_M_21) d_M_hasConstantOf_8 ?_
    refine x_if_eq (pc := 11) K (tgt := 29) d_M_hasConstantOf_11 (by decide) (fun c11 => ?_) (fun c11 => ?_)
    · skip
      refine x_iconst (pc := 29) K (v := 0) d_M_hasConstantOf_29 (by decide) ?_
      exact x_zret (pc := 30) K (rF (by first | (simp_all; done) | grind)) rfl rfl d_M_hasConstantOf_30
    · skip
      refine x_aload_n (pc := 14) K 0 d_M_hasConstantOf_14 rfl ?_
      refine x_geti (pc := 15) K (n := n) (k := 4) (zlt hM) hM rfl rfl (by decide) (fun _ q => zmem (uw_M _ q)) (zmem lk_M_25) d_M_hasConstantOf_15 ?_
      refine x_aload_n (pc := 18) K 1 d_M_hasConstantOf_18 rfl ?_
      refine x_geti (pc := 19) K (n := n2) (k := 4) (zlt hM2) hM2 rfl rfl (by decide) (fun _ q => zmem (uw_M _ q)) (zmem lk_M_25) d_M_hasConstantOf_19 ?_
      refine x_icmp_ne (pc := 22) K (tgt := 29) d_M_hasConstantOf_22 (by decide) (fun c22 => ?_) (fun c22 => ?_)
      · skip
        refine x_iconst (pc := 29) K (v := 0) d_M_hasConstantOf_29 (by decide) ?_
        exact x_zret (pc := 30) K (rF (by first | (simp_all; done) | grind)) rfl rfl d_M_hasConstantOf_30
      · skip
        refine x_iconst (pc := 25) K (v := 1) d_M_hasConstantOf_25 (by decide) ?_
        refine x_goto (pc := 26) K (tgt := 30) d_M_hasConstantOf_26 (by decide) ?_
        exact x_zret (pc := 30) K (rT (by first | (simp_all; done) | grind)) rfl rfl d_M_hasConstantOf_30
abbrev tDef (M : fl_M) (n : Nat) (a b c : Int32) : fl_M := wI (wI (wI (wI M n 0 1) n 1 a) n 2 b) n 3 c
set_option maxHeartbeats 4000000 in
set_option maxRecDepth 100000 in
theorem c_T_define (l : Launch) (w : fl_W) (M : fl_M) (a b c : Int32) (n : Nat) (hT : zSh n = zsT)  : CT l y_T_define w_T_define rm_T_define w zN [.ref (w.2.2 + n), .int a, .int b, .int c] M none (tDef M n a b c) := by
  refine CT.of (cc := b_T_define) (own := "CompatibilityJudge$Type") (by decide) rfl rfl (Nat.le_of_ble_eq_true rfl) ?_
  intro p9 e9 s9 m9 ag9 bl9 mt9 c9 K
  show XW p9 l e9 (rm_T_define) s9 m9 ag9 bl9 mt9 c9 4 0 0 (MQ bl9 (CQ w zN none (tDef M n a b c)) ag9 s9 0 0 (fun q : Nat => w.2.2 ≤ q)) w zN M 0 [(0, .ref (w.2.2 + n)), (1, .int a), (2, .int b), (3, .int c)] []
  refine x_aload_n (pc := 0) K 0 d_T_define_0 rfl ?_
  refine x_iconst (pc := 1) K (v := 1) d_T_define_1 (by decide) ?_
  refine x_puti (pc := 2) K (n := n) (k := 0) (x := 1) uY_T tk_T nm_T (zlt hT) hT rfl rfl (by decide) (fun _ q => zmem (uw_T _ q)) (zmem lk_T_29) rfl rfl rfl d_T_define_2 ?_
  refine x_aload_n (pc := 5) K 0 d_T_define_5 rfl ?_
  refine x_iload_n (pc := 6) K 1 d_T_define_6 rfl ?_
  refine x_puti (pc := 7) K (n := n) (k := 1) (x := a) uY_T tk_T nm_T (zlt hT) hT rfl rfl (by decide) (fun _ q => zmem (uw_T _ q)) (zmem lk_T_33) rfl rfl rfl d_T_define_7 ?_
  refine x_aload_n (pc := 10) K 0 d_T_define_10 rfl ?_
  refine x_iload_n (pc := 11) K 2 d_T_define_11 rfl ?_
  refine x_puti (pc := 12) K (n := n) (k := 2) (x := b) uY_T tk_T nm_T (zlt hT) hT rfl rfl (by decide) (fun _ q => zmem (uw_T _ q)) (zmem lk_T_36) rfl rfl rfl d_T_define_12 ?_
  refine x_aload_n (pc := 15) K 0 d_T_define_15 rfl ?_
  refine x_iload_n (pc := 16) K 3 d_T_define_16 rfl ?_
  refine x_puti (pc := 17) K (n := n) (k := 3) (x := c) uY_T tk_T nm_T (zlt hT) hT rfl rfl (by decide) (fun _ q => zmem (uw_T _ q)) (zmem lk_T_22) rfl rfl rfl d_T_define_17 ?_
  exact x_vret (pc := 20) K rfl (rfl) d_T_define_20
abbrev tClr (M : fl_M) (n : Nat) : fl_M := wI (wI (wI (wI (wI (wI M n 0 0) n 1 0) n 2 0) n 3 (-1)) n 5 0) n 7 0
set_option maxHeartbeats 4000000 in
set_option maxRecDepth 100000 in
theorem c_T_clear (l : Launch) (w : fl_W) (M : fl_M) (n : Nat) (hT : zSh n = zsT)  : CT l y_T_clear w_T_clear rm_T_clear w zN [.ref (w.2.2 + n)] M none (tClr M n) := by
  refine CT.of (cc := b_T_clear) (own := "CompatibilityJudge$Type") (by decide) rfl rfl (Nat.le_of_ble_eq_true rfl) ?_
  intro p9 e9 s9 m9 ag9 bl9 mt9 c9 K
  show XW p9 l e9 (rm_T_clear) s9 m9 ag9 bl9 mt9 c9 1 0 0 (MQ bl9 (CQ w zN none (tClr M n)) ag9 s9 0 0 (fun q : Nat => w.2.2 ≤ q)) w zN M 0 [(0, .ref (w.2.2 + n))] []
  refine x_aload_n (pc := 0) K 0 d_T_clear_0 rfl ?_
  refine x_iconst (pc := 1) K (v := 0) d_T_clear_1 (by decide) ?_
  refine x_puti (pc := 2) K (n := n) (k := 0) (x := 0) uY_T tk_T nm_T (zlt hT) hT rfl rfl (by decide) (fun _ q => zmem (uw_T _ q)) (zmem lk_T_29) rfl rfl rfl d_T_clear_2 ?_
  refine x_aload_n (pc := 5) K 0 d_T_clear_5 rfl ?_
  refine x_iconst (pc := 6) K (v := 0) d_T_clear_6 (by decide) ?_
  refine x_puti (pc := 7) K (n := n) (k := 1) (x := 0) uY_T tk_T nm_T (zlt hT) hT rfl rfl (by decide) (fun _ q => zmem (uw_T _ q)) (zmem lk_T_33) rfl rfl rfl d_T_clear_7 ?_
  refine x_aload_n (pc := 10) K 0 d_T_clear_10 rfl ?_
  refine x_iconst (pc := 11) K (v := 0) d_T_clear_11 (by decide) ?_
  refine x_puti (pc := 12) K (n := n) (k := 2) (x := 0) uY_T tk_T nm_T (zlt hT) hT rfl rfl (by decide) (fun _ q => zmem (uw_T _ q)) (zmem lk_T_36) rfl rfl rfl d_T_clear_12 ?_
  refine x_aload_n (pc := 15) K 0 d_T_clear_15 rfl ?_
  refine x_iconst (pc := 16) K (v := (-1)) d_T_clear_16 (by decide) ?_
  refine x_puti (pc := 17) K (n := n) (k := 3) (x := (-1)) uY_T tk_T nm_T (zlt hT) hT rfl rfl (by decide) (fun _ q => zmem (uw_T _ q)) (zmem lk_T_22) rfl rfl rfl d_T_clear_17 ?_
  refine x_aload_n (pc := 20) K 0 d_T_clear_20 rfl ?_
  refine x_iconst (pc := 21) K (v := 0) d_T_clear_21 (by decide) ?_
  refine x_puti (pc := 22) K (n := n) (k := 5) (x := 0) uY_T tk_T nm_T (zlt hT) hT rfl rfl (by decide) (fun _ q => zmem (uw_T _ q)) (zmem lk_T_39) rfl rfl rfl d_T_clear_22 ?_
  refine x_aload_n (pc := 25) K 0 d_T_clear_25 rfl ?_
  refine x_iconst (pc := 26) K (v := 0) d_T_clear_26 (by decide) ?_
  refine x_puti (pc := 27) K (n := n) (k := 7) (x := 0) uY_T tk_T nm_T (zlt hT) hT rfl rfl (by decide) (fun _ q => zmem (uw_T _ q)) (zmem lk_T_42) rfl rfl rfl d_T_clear_27 ?_
  exact x_vret (pc := 30) K rfl (rfl) d_T_clear_30
set_option maxHeartbeats 4000000 in
set_option maxRecDepth 100000 in
theorem c_T_hasAny (l : Launch) (w : fl_W) (M : fl_M) (f : Int32) (n : Nat) (hT : zSh n = zsT)  : CT l y_T_hasAny w_T_hasAny rm_T_hasAny w zN [.ref (w.2.2 + n), .int f] M (some (.int (bI (¬ M.1 n 2 &&& f = 0)))) M := by
  refine CT.of (cc := b_T_hasAny) (own := "CompatibilityJudge$Type") (by decide) rfl rfl (Nat.le_of_ble_eq_true rfl) ?_
  intro p9 e9 s9 m9 ag9 bl9 mt9 c9 K
  show XW p9 l e9 (rm_T_hasAny) s9 m9 ag9 bl9 mt9 c9 2 0 0 (MQ bl9 (CQ w zN (some (.int (bI (¬ M.1 n 2 &&& f = 0)))) M) ag9 s9 0 0 (fun q : Nat => w.2.2 ≤ q)) w zN M 0 [(0, .ref (w.2.2 + n)), (1, .int f)] []
  refine x_aload_n (pc := 0) K 0 d_T_hasAny_0 rfl ?_
  refine x_geti (pc := 1) K (n := n) (k := 2) (zlt hT) hT rfl rfl (by decide) (fun _ q => zmem (uw_T _ q)) (zmem lk_T_36) d_T_hasAny_1 ?_
  refine x_iload_n (pc := 4) K 1 d_T_hasAny_4 rfl ?_
  refine x_iand (pc := 5) K d_T_hasAny_5 ?_
  refine x_if_eq (pc := 6) K (tgt := 13) d_T_hasAny_6 (by decide) (fun c6 => ?_) (fun c6 => ?_)
  · skip
    refine x_iconst (pc := 13) K (v := 0) d_T_hasAny_13 (by decide) ?_
    exact x_zret (pc := 14) K (rF (by first | (simp_all; done) | grind)) rfl rfl d_T_hasAny_14
  · skip
    refine x_iconst (pc := 9) K (v := 1) d_T_hasAny_9 (by decide) ?_
    refine x_goto (pc := 10) K (tgt := 14) d_T_hasAny_10 (by decide) ?_
    exact x_zret (pc := 14) K (rT (by first | (simp_all; done) | grind)) rfl rfl d_T_hasAny_14
set_option maxHeartbeats 4000000 in
set_option maxRecDepth 100000 in
theorem c_T_isPublic (l : Launch) (w : fl_W) (M : fl_M) (n : Nat) (hT : zSh n = zsT)  : CT l y_T_isPublic w_T_isPublic rm_T_isPublic w zN [.ref (w.2.2 + n)] M (some (.int (bI (¬ M.1 n 0 = 0 ∧ ¬ M.1 n 2 &&& 1 = 0)))) M := by
  refine CT.of (cc := b_T_isPublic) (own := "CompatibilityJudge$Type") (by decide) rfl rfl (Nat.le_of_ble_eq_true rfl) ?_
  intro p9 e9 s9 m9 ag9 bl9 mt9 c9 K
  show XW p9 l e9 (rm_T_isPublic) s9 m9 ag9 bl9 mt9 c9 1 0 0 (MQ bl9 (CQ w zN (some (.int (bI (¬ M.1 n 0 = 0 ∧ ¬ M.1 n 2 &&& 1 = 0)))) M) ag9 s9 0 0 (fun q : Nat => w.2.2 ≤ q)) w zN M 0 [(0, .ref (w.2.2 + n))] []
  refine x_aload_n (pc := 0) K 0 d_T_isPublic_0 rfl ?_
  refine x_geti (pc := 1) K (n := n) (k := 0) (zlt hT) hT rfl rfl (by decide) (fun _ q => zmem (uw_T _ q)) (zmem lk_T_29) d_T_isPublic_1 ?_
  refine x_if_eq (pc := 4) K (tgt := 19) d_T_isPublic_4 (by decide) (fun c4 => ?_) (fun c4 => ?_)
  · skip
    refine x_iconst (pc := 19) K (v := 0) d_T_isPublic_19 (by decide) ?_
    exact x_zret (pc := 20) K (rF (by first | (simp_all; done) | grind)) rfl rfl d_T_isPublic_20
  · skip
    refine x_aload_n (pc := 7) K 0 d_T_isPublic_7 rfl ?_
    refine x_iconst (pc := 8) K (v := 1) d_T_isPublic_8 (by decide) ?_
    refine x_callV (pc := 9) K (As := [.int 1]) (rest := []) (c_T_hasAny l w M 1 n hT) (zcwV K.ts lk_T_58 im_T_hasAny se_T_hasAny ii_T co_T_hasAny pd_T_hasAny ⟨rfl, rfl⟩ ⟨by decide, by decide⟩) (zlt hT) hT rfl rfl rfl (Nat.le_of_ble_eq_true rfl) ⟨Nat.zero_le _, Nat.zero_le _⟩ d_T_isPublic_9 ?_
    refine x_ifeqB (pc := 12) K (tgt := 19) d_T_isPublic_12 (by decide) (fun c12 => ?_) (fun c12 => ?_)
    · skip
      refine x_iconst (pc := 19) K (v := 0) d_T_isPublic_19 (by decide) ?_
      exact x_zret (pc := 20) K (rF (by first | (simp_all; done) | grind)) rfl rfl d_T_isPublic_20
    · skip
      refine x_iconst (pc := 15) K (v := 1) d_T_isPublic_15 (by decide) ?_
      refine x_goto (pc := 16) K (tgt := 20) d_T_isPublic_16 (by decide) ?_
      exact x_zret (pc := 20) K (rT (by first | (simp_all; done) | grind)) rfl rfl d_T_isPublic_20
end
section
/-- the first index that has p, of k from i on -/
def fnd (p : Nat → Prop) [DecidablePred p] : Nat → Nat → Option Nat
  | _, 0 => none
  | i, k + 1 => if p i then some i else fnd p (i + 1) k
abbrev cI (μ : Nat → Nat → Int32) (n : Nat) : Nat := ix (μ n 5)
abbrev cM (μ : Nat → Nat → Int32) (n : Nat) : Nat := ix (μ n 7)
/-- a type's two counts -/
def tOk (μ : Nat → Nat → Int32) (n : Nat) : Prop := (μ n 5 = nI (cI μ n) ∧ cI μ n ≤ 3) ∧ (μ n 7 = nI (cM μ n) ∧ cM μ n ≤ 8)
set_option maxHeartbeats 4000000 in
set_option maxRecDepth 100000 in
theorem lp_T_names (l : Launch) (w : fl_W) (M : fl_M) (n : Nat) (hT : zSh n = zsT) (o : Nat) (hR : zRf o M.2) (hok : tOk M.1 n) (a : Int32) (F : Option Nat) {p9 : Program} {e9 : Env} {s9 : State} {m9 : MethodId} {ag9 : Array Value} {bl9 : List Frame} {mt9 : Method} {c9 : Code} (K : XC p9 s9 m9 ag9 mt9 c9 b_T_names 3 (some .boolean) w_T_names "CompatibilityJudge$Type" w) : ∀ (k : Nat) (i : Nat), i ≤ cI M.1 n → cI M.1 n + 1 ≤ i + k → fnd (fun i => M.1 (n + 1) i = a) i (cI M.1 n - i) = F → XW p9 l e9 (rm_T_names) s9 m9 ag9 bl9 mt9 c9 3 0 0 (MQ bl9 (CQ w zN (some (.int (bI (¬ F = none)))) M) ag9 s9 0 0 (fun q : Nat => w.2.2 ≤ q)) w zN M 2 [(2, .int (nI i)), (0, .ref (w.2.2 + n)), (1, .int a)] [] := by
  have h3 := hok.1.2
  have h8 := hok.2.2
  intro k
  induction k with
  | zero =>
    intro i hi hk
    exact absurd hk (by omega)
  | succ k ih =>
    intro i hi hk hf
    refine x_iload_n (pc := 2) K 0 d_T_names_2 rfl ?_
    refine x_aload_n (pc := 3) K 1 d_T_names_3 rfl ?_
    refine x_geti (pc := 4) K (n := n) (k := 5) (zlt hT) hT rfl rfl (by decide) (fun _ q => zmem (uw_T _ q)) (zmem lk_T_39) d_T_names_4 ?_
    refine x_eqi (y := nI (cI M.1 n)) (hok.1.1) ?_
    refine x_icmp_ge (pc := 7) K (tgt := 28) d_T_names_7 (by decide) (fun c7 => ?_) (fun c7 => ?_)
    · skip
      have hic : i = cI M.1 n := by have := (nI_leI (by omega) (by omega)).mp c7; omega
      rw [hic, Nat.sub_self] at hf
      refine x_iconst (pc := 28) K (v := 0) d_T_names_28 (by decide) ?_
      exact x_zret (pc := 29) K (rF (by simp [← hf, fnd])) rfl rfl d_T_names_29
    · skip
      have hic : i < cI M.1 n := Nat.not_le.mp (fun q => c7 (nI_le q (by omega)))
      rw [show cI M.1 n - i = (cI M.1 n - (i + 1)) + 1 by omega, fnd] at hf
      refine x_aload_n (pc := 10) K 1 d_T_names_10 rfl ?_
      refine x_getr (pc := 11) K (n := n) (n' := n + 1) (k := 4) (zlt hT) hT rfl (hR.Ti hT) rfl (by decide) (fun _ q => zmem (uw_T _ q)) (zmem lk_T_9) d_T_names_11 ?_
      refine x_iload_n (pc := 14) K 0 d_T_names_14 rfl ?_
      refine x_iald (pc := 15) K (n := n + 1) (j := i) rfl (by omega) (zlt (shTi hT)) (shTi hT) rfl (by decide) d_T_names_15 ?_
      refine x_iload_n (pc := 16) K 2 d_T_names_16 rfl ?_
      refine x_icmp_ne (pc := 17) K (tgt := 22) d_T_names_17 (by decide) (fun c17 => ?_) (fun c17 => ?_)
      · skip
        rw [if_neg c17] at hf
        refine x_iinc (pc := 22) K (v := nI (i + 1)) (lv' := [(2, .int (nI (i + 1))), (0, .ref (w.2.2 + n)), (1, .int a)]) 0 d_T_names_22 rfl (nI_1 _) (by decide) rfl ?_
        refine x_goto (pc := 25) K (tgt := 2) d_T_names_25 (by decide) ?_
        exact ih (i + 1) (by omega) (by omega) hf
      · skip
        rw [if_pos c17] at hf
        refine x_iconst (pc := 20) K (v := 1) d_T_names_20 (by decide) ?_
        exact x_zret (pc := 21) K (rT (by simp [← hf, fnd])) rfl rfl d_T_names_21
abbrev tNm (μ : Nat → Nat → Int32) (n : Nat) (a : Int32) : Option Nat := fnd (fun i => μ (n + 1) i = a) 0 (cI μ n)
set_option maxHeartbeats 4000000 in
set_option maxRecDepth 100000 in
theorem c_T_names (l : Launch) (w : fl_W) (M : fl_M) (n : Nat) (hT : zSh n = zsT) (o : Nat) (hR : zRf o M.2) (hok : tOk M.1 n) (a : Int32) : CT l y_T_names w_T_names rm_T_names w zN [.ref (w.2.2 + n), .int a] M (some (.int (bI (¬ tNm M.1 n a = none)))) M := by
  refine CT.of (cc := b_T_names) (own := "CompatibilityJudge$Type") (by decide) rfl rfl (Nat.le_of_ble_eq_true rfl) ?_
  intro p9 e9 s9 m9 ag9 bl9 mt9 c9 K
  show XW p9 l e9 (rm_T_names) s9 m9 ag9 bl9 mt9 c9 3 0 0 (MQ bl9 (CQ w zN (some (.int (bI (¬ tNm M.1 n a = none)))) M) ag9 s9 0 0 (fun q : Nat => w.2.2 ≤ q)) w zN M 0 [(0, .ref (w.2.2 + n)), (1, .int a)] []
  refine x_iconst (pc := 0) K (v := nI 0) d_T_names_0 (by decide) ?_
  refine x_istore_n (pc := 1) K (lv' := [(2, .int (nI 0)), (0, .ref (w.2.2 + n)), (1, .int a)]) d_T_names_1 (by decide) rfl ?_
  exact lp_T_names l w M n hT o hR hok a _ K (cI M.1 n + 1) 0 (Nat.zero_le _) (by omega) (by rw [Nat.sub_zero])
def rfM (w : fl_W) (n : Nat) (F : Option Nat) : Value := va_rf (F.map (fun i => w.2.2 + (n + 3 + i)))
set_option maxHeartbeats 4000000 in
set_option maxRecDepth 100000 in
theorem lp_T_own (l : Launch) (w : fl_W) (M : fl_M) (n : Nat) (hT : zSh n = zsT) (o : Nat) (hR : zRf o M.2) (hok : tOk M.1 n) (a b : Int32) (F : Option Nat) {p9 : Program} {e9 : Env} {s9 : State} {m9 : MethodId} {ag9 : Array Value} {bl9 : List Frame} {mt9 : Method} {c9 : Code} (K : XC p9 s9 m9 ag9 mt9 c9 b_T_own 4 (some (.object "CompatibilityJudge$Member")) w_T_own "CompatibilityJudge$Type" w) : ∀ (k : Nat) (i : Nat), i ≤ cM M.1 n → cM M.1 n + 1 ≤ i + k → fnd (fun i => M.1 (n + 3 + i) 0 = a ∧ M.1 (n + 3 + i) 1 = b) i (cM M.1 n - i) = F → XW p9 l e9 (rm_T_own) s9 m9 ag9 bl9 mt9 c9 4 0 0 (MQ bl9 (CQ w zN (some (rfM w n F)) M) ag9 s9 0 0 (fun q : Nat => w.2.2 ≤ q)) w zN M 2 [(3, .int (nI i)), (0, .ref (w.2.2 + n)), (1, .int a), (2, .int b)] [] := by
  have h3 := hok.1.2
  have h8 := hok.2.2
  intro k
  induction k with
  | zero =>
    intro i hi hk
    exact absurd hk (by omega)
  | succ k ih =>
    intro i hi hk hf
    refine x_iload_n (pc := 2) K 0 d_T_own_2 rfl ?_
    refine x_aload_n (pc := 3) K 1 d_T_own_3 rfl ?_
    refine x_geti (pc := 4) K (n := n) (k := 7) (zlt hT) hT rfl rfl (by decide) (fun _ q => zmem (uw_T _ q)) (zmem lk_T_42) d_T_own_4 ?_
    refine x_eqi (y := nI (cM M.1 n)) (hok.2.1) ?_
    refine x_icmp_ge (pc := 7) K (tgt := 49) d_T_own_7 (by decide) (fun c7 => ?_) (fun c7 => ?_)
    · skip
      have hic : i = cM M.1 n := by have := (nI_leI (by omega) (by omega)).mp c7; omega
      rw [hic, Nat.sub_self] at hf
      refine x_null (pc := 49) K d_T_own_49 ?_
      exact x_aretN (pc := 50) K (by rw [← hf]; rfl) rfl d_T_own_50
    · skip
      have hic : i < cM M.1 n := Nat.not_le.mp (fun q => c7 (nI_le q (by omega)))
      rw [show cM M.1 n - i = (cM M.1 n - (i + 1)) + 1 by omega, fnd] at hf
      refine x_aload_n (pc := 10) K 1 d_T_own_10 rfl ?_
      refine x_getr (pc := 11) K (n := n) (n' := n + 2) (k := 6) (zlt hT) hT rfl (hR.Ta hT) rfl (by decide) (fun _ q => zmem (uw_T _ q)) (zmem lk_T_17) d_T_own_11 ?_
      refine x_iload_n (pc := 14) K 0 d_T_own_14 rfl ?_
      refine x_aald (pc := 15) K (n := n + 2) (n' := n + 3 + i) (j := i) rfl (by omega) (hR.Tm hT (by omega)) (zlt (shTa hT)) (shTa hT) rfl (by decide) d_T_own_15 ?_
      refine x_geti (pc := 16) K (n := n + 3 + i) (k := 0) (zlt (shTm hT (by omega))) (shTm hT (by omega)) rfl rfl (by decide) (fun _ q => zmem (uw_M _ q)) (zmem lk_T_66) d_T_own_16 ?_
      refine x_iload_n (pc := 19) K 2 d_T_own_19 rfl ?_
      refine x_icmp_ne (pc := 20) K (tgt := 43) d_T_own_20 (by decide) (fun c20 => ?_) (fun c20 => ?_)
      · skip
        rw [if_neg (fun q => c20 q.1)] at hf
        refine x_iinc (pc := 43) K (v := nI (i + 1)) (lv' := [(3, .int (nI (i + 1))), (0, .ref (w.2.2 + n)), (1, .int a), (2, .int b)]) 0 d_T_own_43 rfl (nI_1 _) (by decide) rfl ?_
        refine x_goto (pc := 46) K (tgt := 2) d_T_own_46 (by decide) ?_
        exact ih (i + 1) (by omega) (by omega) hf
      · skip
        refine x_aload_n (pc := 23) K 1 d_T_own_23 rfl ?_
        refine x_getr (pc := 24) K (n := n) (n' := n + 2) (k := 6) (zlt hT) hT rfl (hR.Ta hT) rfl (by decide) (fun _ q => zmem (uw_T _ q)) (zmem lk_T_17) d_T_own_24 ?_
        refine x_iload_n (pc := 27) K 0 d_T_own_27 rfl ?_
        refine x_aald (pc := 28) K (n := n + 2) (n' := n + 3 + i) (j := i) rfl (by omega) (hR.Tm hT (by omega)) (zlt (shTa hT)) (shTa hT) rfl (by decide) d_T_own_28 ?_
        refine x_geti (pc := 29) K (n := n + 3 + i) (k := 1) (zlt (shTm hT (by omega))) (shTm hT (by omega)) rfl rfl (by decide) (fun _ q => zmem (uw_M _ q)) (zmem lk_T_67) d_T_own_29 ?_
        refine x_iload_n (pc := 32) K 3 d_T_own_32 rfl ?_
        refine x_icmp_ne (pc := 33) K (tgt := 43) d_T_own_33 (by decide) (fun c33 => ?_) (fun c33 => ?_)
        · skip
          rw [if_neg (fun q => c33 q.2)] at hf
          refine x_iinc (pc := 43) K (v := nI (i + 1)) (lv' := [(3, .int (nI (i + 1))), (0, .ref (w.2.2 + n)), (1, .int a), (2, .int b)]) 0 d_T_own_43 rfl (nI_1 _) (by decide) rfl ?_
          refine x_goto (pc := 46) K (tgt := 2) d_T_own_46 (by decide) ?_
          exact ih (i + 1) (by omega) (by omega) hf
        · skip
          rw [if_pos ⟨c20, c33⟩] at hf
          refine x_aload_n (pc := 36) K 1 d_T_own_36 rfl ?_
          refine x_getr (pc := 37) K (n := n) (n' := n + 2) (k := 6) (zlt hT) hT rfl (hR.Ta hT) rfl (by decide) (fun _ q => zmem (uw_T _ q)) (zmem lk_T_17) d_T_own_37 ?_
          refine x_iload_n (pc := 40) K 0 d_T_own_40 rfl ?_
          refine x_aald (pc := 41) K (n := n + 2) (n' := n + 3 + i) (j := i) rfl (by omega) (hR.Tm hT (by omega)) (zlt (shTa hT)) (shTa hT) rfl (by decide) d_T_own_41 ?_
          exact x_aret (pc := 42) K (by rw [← hf]; rfl) rfl d_T_own_42
abbrev tOwn (μ : Nat → Nat → Int32) (n : Nat) (a b : Int32) : Option Nat := fnd (fun i => μ (n + 3 + i) 0 = a ∧ μ (n + 3 + i) 1 = b) 0 (cM μ n)
set_option maxHeartbeats 4000000 in
set_option maxRecDepth 100000 in
theorem c_T_own (l : Launch) (w : fl_W) (M : fl_M) (n : Nat) (hT : zSh n = zsT) (o : Nat) (hR : zRf o M.2) (hok : tOk M.1 n) (a b : Int32) : CT l y_T_own w_T_own rm_T_own w zN [.ref (w.2.2 + n), .int a, .int b] M (some (rfM w n (tOwn M.1 n a b))) M := by
  refine CT.of (cc := b_T_own) (own := "CompatibilityJudge$Type") (by decide) rfl rfl (Nat.le_of_ble_eq_true rfl) ?_
  intro p9 e9 s9 m9 ag9 bl9 mt9 c9 K
  show XW p9 l e9 (rm_T_own) s9 m9 ag9 bl9 mt9 c9 4 0 0 (MQ bl9 (CQ w zN (some (rfM w n (tOwn M.1 n a b))) M) ag9 s9 0 0 (fun q : Nat => w.2.2 ≤ q)) w zN M 0 [(0, .ref (w.2.2 + n)), (1, .int a), (2, .int b)] []
  refine x_iconst (pc := 0) K (v := nI 0) d_T_own_0 (by decide) ?_
  refine x_istore_n (pc := 1) K (lv' := [(3, .int (nI 0)), (0, .ref (w.2.2 + n)), (1, .int a), (2, .int b)]) d_T_own_1 (by decide) rfl ?_
  exact lp_T_own l w M n hT o hR hok a b _ K (cM M.1 n + 1) 0 (Nat.zero_le _) (by omega) (by rw [Nat.sub_zero])
abbrev tAdI (M : fl_M) (n : Nat) (a : Int32) : fl_M := if cI M.1 n < 3 then wI (wI M (n + 1) (cI M.1 n) a) n 5 (nI (cI M.1 n + 1)) else M
set_option maxHeartbeats 4000000 in
set_option maxRecDepth 100000 in
theorem c_T_addInterface (l : Launch) (w : fl_W) (M : fl_M) (n : Nat) (hT : zSh n = zsT) (o : Nat) (hR : zRf o M.2) (hok : tOk M.1 n) (a : Int32) : CT l y_T_addInterface w_T_addInterface rm_T_addInterface w zN [.ref (w.2.2 + n), .int a] M none (tAdI M n a) := by
  refine CT.of (cc := b_T_addInterface) (own := "CompatibilityJudge$Type") (by decide) rfl rfl (Nat.le_of_ble_eq_true rfl) ?_
  intro p9 e9 s9 m9 ag9 bl9 mt9 c9 K
  have h3 := hok.1.2
  have h8 := hok.2.2
  show XW p9 l e9 (rm_T_addInterface) s9 m9 ag9 bl9 mt9 c9 2 0 0 (MQ bl9 (CQ w zN none (tAdI M n a)) ag9 s9 0 0 (fun q : Nat => w.2.2 ≤ q)) w zN M 0 [(0, .ref (w.2.2 + n)), (1, .int a)] []
  refine x_aload_n (pc := 0) K 0 d_T_addInterface_0 rfl ?_
  refine x_geti (pc := 1) K (n := n) (k := 5) (zlt hT) hT rfl rfl (by decide) (fun _ q => zmem (uw_T _ q)) (zmem lk_T_39) d_T_addInterface_1 ?_
  refine x_eqi (y := nI (cI M.1 n)) (hok.1.1) ?_
  refine x_iconst (pc := 4) K (v := nI 3) d_T_addInterface_4 (by decide) ?_
  refine x_icmp_ge (pc := 5) K (tgt := 28) d_T_addInterface_5 (by decide) (fun c5 => ?_) (fun c5 => ?_)
  · skip
    have hic : ¬ cI M.1 n < 3 := fun q => absurd (show nI 3 ≤ nI (cI M.1 n) from c5) (nI_ge q (by omega))
    exact x_vret (pc := 28) K rfl ((if_neg hic).symm) d_T_addInterface_28
  · skip
    have hic : cI M.1 n < 3 := Nat.not_le.mp (fun q => c5 (show nI 3 ≤ nI (cI M.1 n) from nI_le q (by omega)))
    refine x_aload_n (pc := 8) K 0 d_T_addInterface_8 rfl ?_
    refine x_getr (pc := 9) K (n := n) (n' := n + 1) (k := 4) (zlt hT) hT rfl (hR.Ti hT) rfl (by decide) (fun _ q => zmem (uw_T _ q)) (zmem lk_T_9) d_T_addInterface_9 ?_
    refine x_aload_n (pc := 12) K 0 d_T_addInterface_12 rfl ?_
    refine x_geti (pc := 13) K (n := n) (k := 5) (zlt hT) hT rfl rfl (by decide) (fun _ q => zmem (uw_T _ q)) (zmem lk_T_39) d_T_addInterface_13 ?_
    refine x_eqi (y := nI (cI M.1 n)) (hok.1.1) ?_
    refine x_iload_n (pc := 16) K 1 d_T_addInterface_16 rfl ?_
    refine x_iast (pc := 17) K (n := n + 1) (j := (cI M.1 n)) (x := a) rfl (by omega) (zlt (shTi hT)) (shTi hT) rfl (by decide) d_T_addInterface_17 ?_
    refine x_aload_n (pc := 18) K 0 d_T_addInterface_18 rfl ?_
    refine x_dup (pc := 19) K d_T_addInterface_19 rfl ?_
    refine x_geti (pc := 20) K (n := n) (k := 5) (zlt hT) hT rfl rfl (by decide) (fun _ q => zmem (uw_T _ q)) (zmem lk_T_39) d_T_addInterface_20 ?_
    refine x_eqi (y := nI (cI M.1 n)) ((rdI_ne (Or.inl (by omega))).trans hok.1.1) ?_
    refine x_iconst (pc := 23) K (v := 1) d_T_addInterface_23 (by decide) ?_
    refine x_iadd (pc := 24) K d_T_addInterface_24 ?_
    refine x_eqi (y := nI (cI M.1 n + 1)) (nI_1 _) ?_
    refine x_puti (pc := 25) K (n := n) (k := 5) (x := nI (cI M.1 n + 1)) uY_T tk_T nm_T (zlt hT) hT rfl rfl (by decide) (fun _ q => zmem (uw_T _ q)) (zmem lk_T_39) rfl rfl rfl d_T_addInterface_25 ?_
    exact x_vret (pc := 28) K rfl ((if_pos hic).symm) d_T_addInterface_28
abbrev tAdM (M : fl_M) (n : Nat) (a b d : Int32) : fl_M := if cM M.1 n < 8 then wI (mDef M (n + 3 + cM M.1 n) a b d) n 7 (nI (cM M.1 n + 1)) else M
set_option maxHeartbeats 4000000 in
set_option maxRecDepth 100000 in
theorem c_T_addMember (l : Launch) (w : fl_W) (M : fl_M) (n : Nat) (hT : zSh n = zsT) (o : Nat) (hR : zRf o M.2) (hok : tOk M.1 n) (a b d : Int32) : CT l y_T_addMember w_T_addMember rm_T_addMember w zN [.ref (w.2.2 + n), .int a, .int b, .int d] M none (tAdM M n a b d) := by
  refine CT.of (cc := b_T_addMember) (own := "CompatibilityJudge$Type") (by decide) rfl rfl (Nat.le_of_ble_eq_true rfl) ?_
  intro p9 e9 s9 m9 ag9 bl9 mt9 c9 K
  have h3 := hok.1.2
  have h8 := hok.2.2
  show XW p9 l e9 (rm_T_addMember) s9 m9 ag9 bl9 mt9 c9 4 0 0 (MQ bl9 (CQ w zN none (tAdM M n a b d)) ag9 s9 0 0 (fun q : Nat => w.2.2 ≤ q)) w zN M 0 [(0, .ref (w.2.2 + n)), (1, .int a), (2, .int b), (3, .int d)] []
  refine x_aload_n (pc := 0) K 0 d_T_addMember_0 rfl ?_
  refine x_geti (pc := 1) K (n := n) (k := 7) (zlt hT) hT rfl rfl (by decide) (fun _ q => zmem (uw_T _ q)) (zmem lk_T_42) d_T_addMember_1 ?_
  refine x_eqi (y := nI (cM M.1 n)) (hok.2.1) ?_
  refine x_bipush (pc := 4) K (v := nI 8) d_T_addMember_4 (by decide) ?_
  refine x_icmp_ge (pc := 6) K (tgt := 34) d_T_addMember_6 (by decide) (fun c6 => ?_) (fun c6 => ?_)
  · skip
    have hic : ¬ cM M.1 n < 8 := fun q => absurd (show nI 8 ≤ nI (cM M.1 n) from c6) (nI_ge q (by omega))
    exact x_vret (pc := 34) K rfl ((if_neg hic).symm) d_T_addMember_34
  · skip
    have hic : cM M.1 n < 8 := Nat.not_le.mp (fun q => c6 (show nI 8 ≤ nI (cM M.1 n) from nI_le q (by omega)))
    refine x_aload_n (pc := 9) K 0 d_T_addMember_9 rfl ?_
    refine x_getr (pc := 10) K (n := n) (n' := n + 2) (k := 6) (zlt hT) hT rfl (hR.Ta hT) rfl (by decide) (fun _ q => zmem (uw_T _ q)) (zmem lk_T_17) d_T_addMember_10 ?_
    refine x_aload_n (pc := 13) K 0 d_T_addMember_13 rfl ?_
    refine x_geti (pc := 14) K (n := n) (k := 7) (zlt hT) hT rfl rfl (by decide) (fun _ q => zmem (uw_T _ q)) (zmem lk_T_42) d_T_addMember_14 ?_
    refine x_eqi (y := nI (cM M.1 n)) (hok.2.1) ?_
    refine x_aald (pc := 17) K (n := n + 2) (n' := n + 3 + (cM M.1 n)) (j := (cM M.1 n)) rfl (by omega) (hR.Tm hT (by omega)) (zlt (shTa hT)) (shTa hT) rfl (by decide) d_T_addMember_17 ?_
    refine x_iload_n (pc := 18) K 1 d_T_addMember_18 rfl ?_
    refine x_iload_n (pc := 19) K 2 d_T_addMember_19 rfl ?_
    refine x_iload_n (pc := 20) K 3 d_T_addMember_20 rfl ?_
    refine x_callVv (pc := 21) K (As := [.int a, .int b, .int d]) (rest := []) (c_M_define l w M a b d (n + 3 + (cM M.1 n)) (shTm hT (by omega))) (zcwV K.ts lk_T_62 im_M_define se_M_define ii_M co_M_define pd_M_define ⟨rfl, rfl⟩ ⟨by decide, by decide⟩) (zlt (shTm hT (by omega))) (shTm hT (by omega)) rfl rfl rfl (Nat.le_of_ble_eq_true rfl) ⟨Nat.zero_le _, Nat.zero_le _⟩ d_T_addMember_21 ?_
    refine x_aload_n (pc := 24) K 0 d_T_addMember_24 rfl ?_
    refine x_dup (pc := 25) K d_T_addMember_25 rfl ?_
    refine x_geti (pc := 26) K (n := n) (k := 7) (zlt hT) hT rfl rfl (by decide) (fun _ q => zmem (uw_T _ q)) (zmem lk_T_42) d_T_addMember_26 ?_
    refine x_eqi (y := nI (cM M.1 n)) (by rw [rdI_ne (Or.inl (by omega)), rdI_ne (Or.inl (by omega)), rdI_ne (Or.inl (by omega)), rdI_ne (Or.inl (by omega)), rdI_ne (Or.inl (by omega))]; exact hok.2.1) ?_
    refine x_iconst (pc := 29) K (v := 1) d_T_addMember_29 (by decide) ?_
    refine x_iadd (pc := 30) K d_T_addMember_30 ?_
    refine x_eqi (y := nI (cM M.1 n + 1)) (nI_1 _) ?_
    refine x_puti (pc := 31) K (n := n) (k := 7) (x := nI (cM M.1 n + 1)) uY_T tk_T nm_T (zlt hT) hT rfl rfl (by decide) (fun _ q => zmem (uw_T _ q)) (zmem lk_T_42) rfl rfl rfl d_T_addMember_31 ?_
    exact x_vret (pc := 34) K rfl ((if_pos hic).symm) d_T_addMember_34
theorem mCp_rd (M : fl_M) (n n2 a k : Nat) : (mCp M n n2).1 a k = if a = n ∧ k < 5 then M.1 n2 k else M.1 a k := by
  simp only [mCp, mCp1, wI, fl_u]
  by_cases ha : a = n
  · subst ha
    rcases k with _ | _ | _ | _ | _ | k <;> simp <;> omega
  · simp [ha]
/-- the members' truths are truths -/
def zM3 (μ : Nat → Nat → Int32) : Prop := ∀ a, zSh a = zsM → isZ (μ a 3)
theorem zM3_cp {M : fl_M} {n n2 : Nat} (h : zM3 M.1) (h2 : zSh n2 = zsM) : zM3 (mCp M n n2).1 := by
  intro a ha
  rw [mCp_rd]
  split
  · exact h n2 h2
  · exact h a ha
theorem neTM {a b : Nat} (h : zSh a = zsT) (h2 : zSh b = zsM) : a ≠ b := by
  intro q
  rw [q, h2] at h
  exact absurd h (by decide)
/-- members from i on move up by one, k of them -/
def tko (M : fl_M) (n : Nat) : Nat → Nat → fl_M
  | _, 0 => M
  | i, k + 1 => tko (mCp M (n + 3 + i) (n + 3 + (i + 1))) n (i + 1) k
set_option maxHeartbeats 4000000 in
set_option maxRecDepth 100000 in
theorem lp_T_takeOut (l : Launch) (w : fl_W) (M : fl_M) (n : Nat) (hT : zSh n = zsT) (o : Nat) (a : Int32) (c : Nat) (h1 : 1 ≤ c) (h8 : c ≤ 8) (Y : fl_M) {p9 : Program} {e9 : Env} {s9 : State} {m9 : MethodId} {ag9 : Array Value} {bl9 : List Frame} {mt9 : Method} {c9 : Code} (K : XC p9 s9 m9 ag9 mt9 c9 b_T_takeOut 3 none w_T_takeOut "CompatibilityJudge$Type" w) : ∀ (k : Nat) (i : Nat) (X : fl_M), i ≤ c - 1 → c - 1 + 1 ≤ i + k → zRf o X.2 → X.1 n 7 = nI c → zM3 X.1 → tko X n i (c - 1 - i) = Y → XW p9 l e9 (rm_T_takeOut) s9 m9 ag9 bl9 mt9 c9 3 0 0 (MQ bl9 (CQ w zN none (wI Y n 7 (nI (c - 1)))) ag9 s9 0 0 (fun q : Nat => w.2.2 ≤ q)) w zN X 2 [(2, .int (nI i)), (0, .ref (w.2.2 + n)), (1, .int a)] [] := by
  intro k
  induction k with
  | zero =>
    intro i X hi hk
    exact absurd hk (by omega)
  | succ k ih =>
    intro i X hi hk hR hc hz hf
    refine x_iload_n (pc := 2) K 0 d_T_takeOut_2 rfl ?_
    refine x_aload_n (pc := 3) K 1 d_T_takeOut_3 rfl ?_
    refine x_geti (pc := 4) K (n := n) (k := 7) (zlt hT) hT rfl rfl (by decide) (fun _ q => zmem (uw_T _ q)) (zmem lk_T_42) d_T_takeOut_4 ?_
    refine x_eqi (y := nI c) (hc) ?_
    refine x_iconst (pc := 7) K (v := 1) d_T_takeOut_7 (by decide) ?_
    refine x_isub (pc := 8) K d_T_takeOut_8 ?_
    refine x_eqi (y := nI (c - 1)) (by rw [show (1 : Int32) = nI 1 from by decide]; exact pk_sub (by omega)) ?_
    refine x_icmp_ge (pc := 9) K (tgt := 35) d_T_takeOut_9 (by decide) (fun c9 => ?_) (fun c9 => ?_)
    · skip
      have hic : i = c - 1 := by have := (nI_leI (by omega) (by omega)).mp c9; omega
      rw [hic, Nat.sub_self] at hf
      refine x_aload_n (pc := 35) K 1 d_T_takeOut_35 rfl ?_
      refine x_dup (pc := 36) K d_T_takeOut_36 rfl ?_
      refine x_geti (pc := 37) K (n := n) (k := 7) (zlt hT) hT rfl rfl (by decide) (fun _ q => zmem (uw_T _ q)) (zmem lk_T_42) d_T_takeOut_37 ?_
      refine x_eqi (y := nI c) (hc) ?_
      refine x_iconst (pc := 40) K (v := 1) d_T_takeOut_40 (by decide) ?_
      refine x_isub (pc := 41) K d_T_takeOut_41 ?_
      refine x_eqi (y := nI (c - 1)) (by rw [show (1 : Int32) = nI 1 from by decide]; exact pk_sub (by omega)) ?_
      refine x_puti (pc := 42) K (n := n) (k := 7) (x := nI (c - 1)) uY_T tk_T nm_T (zlt hT) hT rfl rfl (by decide) (fun _ q => zmem (uw_T _ q)) (zmem lk_T_42) rfl rfl rfl d_T_takeOut_42 ?_
      exact x_vret (pc := 45) K rfl (by rw [← hf]; rfl) d_T_takeOut_45
    · skip
      have hic : i < c - 1 := Nat.not_le.mp (fun q => c9 (nI_le q (by omega)))
      rw [show c - 1 - i = (c - 1 - (i + 1)) + 1 by omega, tko] at hf
      refine x_aload_n (pc := 12) K 1 d_T_takeOut_12 rfl ?_
      refine x_getr (pc := 13) K (n := n) (n' := n + 2) (k := 6) (zlt hT) hT rfl (hR.Ta hT) rfl (by decide) (fun _ q => zmem (uw_T _ q)) (zmem lk_T_17) d_T_takeOut_13 ?_
      refine x_iload_n (pc := 16) K 0 d_T_takeOut_16 rfl ?_
      refine x_aald (pc := 17) K (n := n + 2) (n' := n + 3 + i) (j := i) rfl (by omega) (hR.Tm hT (by omega)) (zlt (shTa hT)) (shTa hT) rfl (by decide) d_T_takeOut_17 ?_
      refine x_aload_n (pc := 18) K 1 d_T_takeOut_18 rfl ?_
      refine x_getr (pc := 19) K (n := n) (n' := n + 2) (k := 6) (zlt hT) hT rfl (hR.Ta hT) rfl (by decide) (fun _ q => zmem (uw_T _ q)) (zmem lk_T_17) d_T_takeOut_19 ?_
      refine x_iload_n (pc := 22) K 0 d_T_takeOut_22 rfl ?_
      refine x_iconst (pc := 23) K (v := 1) d_T_takeOut_23 (by decide) ?_
      refine x_iadd (pc := 24) K d_T_takeOut_24 ?_
      refine x_eqi (y := nI (i + 1)) (nI_1 _) ?_
      refine x_aald (pc := 25) K (n := n + 2) (n' := n + 3 + (i + 1)) (j := (i + 1)) rfl (by omega) (hR.Tm hT (by omega)) (zlt (shTa hT)) (shTa hT) rfl (by decide) d_T_takeOut_25 ?_
      refine x_callVv (pc := 26) K (As := [.ref (w.2.2 + (n + 3 + (i + 1)))]) (rest := []) (c_M_become l w X (n + 3 + (i + 1)) (shTm hT (by omega)) (hz _ (shTm hT (by omega))) (n + 3 + i) (shTm hT (by omega))) (zcwV K.ts lk_T_51 im_M_become se_M_become ii_M co_M_become pd_M_become ⟨rfl, rfl⟩ ⟨by decide, by decide⟩) (zlt (shTm hT (by omega))) (shTm hT (by omega)) rfl rfl rfl (Nat.le_of_ble_eq_true rfl) ⟨Nat.zero_le _, Nat.zero_le _⟩ d_T_takeOut_26 ?_
      refine x_iinc (pc := 29) K (v := nI (i + 1)) (lv' := [(2, .int (nI (i + 1))), (0, .ref (w.2.2 + n)), (1, .int a)]) 0 d_T_takeOut_29 rfl (nI_1 _) (by decide) rfl ?_
      refine x_goto (pc := 32) K (tgt := 2) d_T_takeOut_32 (by decide) ?_
      exact ih (i + 1) _ (by omega) (by omega) hR (by rw [mCp_rd, if_neg (fun q => neTM hT (shTm hT (by omega)) q.1)]; exact hc) (zM3_cp hz (shTm hT (by omega))) hf
set_option maxHeartbeats 4000000 in
set_option maxRecDepth 100000 in
theorem c_T_takeOut (l : Launch) (w : fl_W) (M : fl_M) (n : Nat) (hT : zSh n = zsT) (o : Nat) (hR : zRf o M.2) (c i : Nat) (hi : i < c) (h8 : c ≤ 8) (hc : M.1 n 7 = nI c) (hz : zM3 M.1) : CT l y_T_takeOut w_T_takeOut rm_T_takeOut w zN [.ref (w.2.2 + n), .int (nI i)] M none (wI (tko M n i (c - 1 - i)) n 7 (nI (c - 1))) := by
  refine CT.of (cc := b_T_takeOut) (own := "CompatibilityJudge$Type") (by decide) rfl rfl (Nat.le_of_ble_eq_true rfl) ?_
  intro p9 e9 s9 m9 ag9 bl9 mt9 c9 K
  show XW p9 l e9 (rm_T_takeOut) s9 m9 ag9 bl9 mt9 c9 3 0 0 (MQ bl9 (CQ w zN none (wI (tko M n i (c - 1 - i)) n 7 (nI (c - 1)))) ag9 s9 0 0 (fun q : Nat => w.2.2 ≤ q)) w zN M 0 [(0, .ref (w.2.2 + n)), (1, .int (nI i))] []
  refine x_iload_n (pc := 0) K 1 d_T_takeOut_0 rfl ?_
  refine x_istore_n (pc := 1) K (lv' := [(2, .int (nI i)), (0, .ref (w.2.2 + n)), (1, .int (nI i))]) d_T_takeOut_1 (by decide) rfl ?_
  exact lp_T_takeOut l w M n hT o (nI i) c (by omega) h8 _ K (c + 1) i M (by omega) (by omega) hR hc hz rfl
/-- the first k members from i on become the other's -/
def tbl (M : fl_M) (n n2 : Nat) : Nat → Nat → fl_M
  | _, 0 => M
  | i, k + 1 => tbl (mCp M (n + 3 + i) (n2 + 3 + i)) n n2 (i + 1) k
def tBc1 (M : fl_M) (n n2 : Nat) : fl_M := mCp1 (mCp1 (mCp1 (mCp1 M n n2 0) n n2 1) n n2 2) n n2 3
def tBc2 (M : fl_M) (n n2 : Nat) : fl_M := mCp1 (wA (tBc1 M n n2) (n + 1) (va_cpy ((tBc1 M n n2).1 (n2 + 1)) ((tBc1 M n n2).1 (n + 1)) 0 0 3)) n n2 5
def tBc3 (M : fl_M) (n n2 : Nat) : fl_M := mCp1 (mCp1 (mCp1 M n n2 7) n n2 8) n n2 9
def tBec (M : fl_M) (n n2 : Nat) : fl_M := tBc3 (tbl (tBc2 M n n2) n n2 0 (cM M.1 n2)) n n2
set_option maxHeartbeats 4000000 in
set_option maxRecDepth 100000 in
theorem lp_T_become (l : Launch) (w : fl_W) (M : fl_M) (n n2 : Nat) (hT : zSh n = zsT) (hT2 : zSh n2 = zsT) (hne : n ≠ n2) (o : Nat) (c : Nat) (h8 : c ≤ 8) (Y : fl_M) {p9 : Program} {e9 : Env} {s9 : State} {m9 : MethodId} {ag9 : Array Value} {bl9 : List Frame} {mt9 : Method} {c9 : Code} (K : XC p9 s9 m9 ag9 mt9 c9 b_T_become 3 none w_T_become "CompatibilityJudge$Type" w) : ∀ (k : Nat) (i : Nat) (X : fl_M), i ≤ c → c + 1 ≤ i + k → zRf o X.2 → X.1 n2 7 = nI c → zM3 X.1 → tbl X n n2 i (c - i) = Y → XW p9 l e9 (rm_T_become) s9 m9 ag9 bl9 mt9 c9 3 0 0 (MQ bl9 (CQ w zN none (tBc3 Y n n2)) ag9 s9 0 0 (fun q : Nat => w.2.2 ≤ q)) w zN X 56 [(2, .int (nI i)), (0, .ref (w.2.2 + n)), (1, .ref (w.2.2 + n2))] [] := by
  intro k
  induction k with
  | zero =>
    intro i X hi hk
    exact absurd hk (by omega)
  | succ k ih =>
    intro i X hi hk hR hc hz hf
    refine x_iload_n (pc := 56) K 0 d_T_become_56 rfl ?_
    refine x_aload_n (pc := 57) K 2 d_T_become_57 rfl ?_
    refine x_geti (pc := 58) K (n := n2) (k := 7) (zlt hT2) hT2 rfl rfl (by decide) (fun _ q => zmem (uw_T _ q)) (zmem lk_T_42) d_T_become_58 ?_
    refine x_eqi (y := nI c) (hc) ?_
    refine x_icmp_ge (pc := 61) K (tgt := 85) d_T_become_61 (by decide) (fun c61 => ?_) (fun c61 => ?_)
    · skip
      have hic : i = c := by have := (nI_leI (by omega) (by omega)).mp c61; omega
      rw [hic, Nat.sub_self] at hf
      refine x_aload_n (pc := 85) K 1 d_T_become_85 rfl ?_
      refine x_aload_n (pc := 86) K 2 d_T_become_86 rfl ?_
      refine x_geti (pc := 87) K (n := n2) (k := 7) (zlt hT2) hT2 rfl rfl (by decide) (fun _ q => zmem (uw_T _ q)) (zmem lk_T_42) d_T_become_87 ?_
      refine x_puti (pc := 90) K (n := n) (k := 7) (x := X.1 n2 7) uY_T tk_T nm_T (zlt hT) hT rfl rfl (by decide) (fun _ q => zmem (uw_T _ q)) (zmem lk_T_42) rfl rfl rfl d_T_become_90 ?_
      refine x_aload_n (pc := 93) K 1 d_T_become_93 rfl ?_
      refine x_aload_n (pc := 94) K 2 d_T_become_94 rfl ?_
      refine x_geti (pc := 95) K (n := n2) (k := 8) (zlt hT2) hT2 rfl rfl (by decide) (fun _ q => zmem (uw_T _ q)) (zmem lk_T_26) d_T_become_95 ?_
      refine x_puti (pc := 98) K (n := n) (k := 8) (x := (wI X n 7 (X.1 n2 7)).1 n2 8) uY_T tk_T nm_T (zlt hT) hT rfl rfl (by decide) (fun _ q => zmem (uw_T _ q)) (zmem lk_T_26) rfl rfl rfl d_T_become_98 ?_
      refine x_aload_n (pc := 101) K 1 d_T_become_101 rfl ?_
      refine x_aload_n (pc := 102) K 2 d_T_become_102 rfl ?_
      refine x_geti (pc := 103) K (n := n2) (k := 9) (zlt hT2) hT2 rfl rfl (by decide) (fun _ q => zmem (uw_T _ q)) (zmem lk_T_55) d_T_become_103 ?_
      refine x_puti (pc := 106) K (n := n) (k := 9) (x := (wI (wI X n 7 (X.1 n2 7)) n 8 ((wI X n 7 (X.1 n2 7)).1 n2 8)).1 n2 9) uY_T tk_T nm_T (zlt hT) hT rfl rfl (by decide) (fun _ q => zmem (uw_T _ q)) (zmem lk_T_55) rfl rfl rfl d_T_become_106 ?_
      exact x_vret (pc := 109) K rfl (by rw [← hf]; rfl) d_T_become_109
    · skip
      have hic : i < c := Nat.not_le.mp (fun q => c61 (nI_le q (by omega)))
      rw [show c - i = (c - (i + 1)) + 1 by omega, tbl] at hf
      refine x_aload_n (pc := 64) K 1 d_T_become_64 rfl ?_
      refine x_getr (pc := 65) K (n := n) (n' := n + 2) (k := 6) (zlt hT) hT rfl (hR.Ta hT) rfl (by decide) (fun _ q => zmem (uw_T _ q)) (zmem lk_T_17) d_T_become_65 ?_
      refine x_iload_n (pc := 68) K 0 d_T_become_68 rfl ?_
      refine x_aald (pc := 69) K (n := n + 2) (n' := n + 3 + i) (j := i) rfl (by omega) (hR.Tm hT (by omega)) (zlt (shTa hT)) (shTa hT) rfl (by decide) d_T_become_69 ?_
      refine x_aload_n (pc := 70) K 2 d_T_become_70 rfl ?_
      refine x_getr (pc := 71) K (n := n2) (n' := n2 + 2) (k := 6) (zlt hT2) hT2 rfl (hR.Ta hT2) rfl (by decide) (fun _ q => zmem (uw_T _ q)) (zmem lk_T_17) d_T_become_71 ?_
      refine x_iload_n (pc := 74) K 0 d_T_become_74 rfl ?_
      refine x_aald (pc := 75) K (n := n2 + 2) (n' := n2 + 3 + i) (j := i) rfl (by omega) (hR.Tm hT2 (by omega)) (zlt (shTa hT2)) (shTa hT2) rfl (by decide) d_T_become_75 ?_
      refine x_callVv (pc := 76) K (As := [.ref (w.2.2 + (n2 + 3 + i))]) (rest := []) (c_M_become l w X (n2 + 3 + i) (shTm hT2 (by omega)) (hz _ (shTm hT2 (by omega))) (n + 3 + i) (shTm hT (by omega))) (zcwV K.ts lk_T_51 im_M_become se_M_become ii_M co_M_become pd_M_become ⟨rfl, rfl⟩ ⟨by decide, by decide⟩) (zlt (shTm hT (by omega))) (shTm hT (by omega)) rfl rfl rfl (Nat.le_of_ble_eq_true rfl) ⟨Nat.zero_le _, Nat.zero_le _⟩ d_T_become_76 ?_
      refine x_iinc (pc := 79) K (v := nI (i + 1)) (lv' := [(2, .int (nI (i + 1))), (0, .ref (w.2.2 + n)), (1, .ref (w.2.2 + n2))]) 0 d_T_become_79 rfl (nI_1 _) (by decide) rfl ?_
      refine x_goto (pc := 82) K (tgt := 56) d_T_become_82 (by decide) ?_
      exact ih (i + 1) _ (by omega) (by omega) hR (by rw [mCp_rd, if_neg (fun q => neTM hT2 (shTm hT (by omega)) q.1)]; exact hc) (zM3_cp hz (shTm hT2 (by omega))) hf
theorem tBc2_rd {M : fl_M} {n n2 a k : Nat} (h : a ≠ n) (h1 : a ≠ n + 1) : (tBc2 M n n2).1 a k = M.1 a k := by
  simp [tBc2, tBc1, mCp1, wI, fl_u, wA, h, h1]
theorem neTI {a b : Nat} (h : zSh a = zsT) (h2 : zSh b = zsT) : a ≠ b + 1 := by
  intro q
  rw [q, shTi h2] at h
  exact absurd h (by decide)
theorem neMI {a b : Nat} (h : zSh a = zsM) (h2 : zSh b = zsT) : a ≠ b + 1 := by
  intro q
  rw [q, shTi h2] at h
  exact absurd h (by decide)
set_option maxHeartbeats 4000000 in
set_option maxRecDepth 100000 in
theorem c_T_become (l : Launch) (w : fl_W) (M : fl_M) (n n2 : Nat) (hT : zSh n = zsT) (hT2 : zSh n2 = zsT) (hne : n ≠ n2) (o : Nat) (hR : zRf o M.2) (h7 : M.1 n2 7 = nI (cM M.1 n2)) (h8 : cM M.1 n2 ≤ 8) (hz : zM3 M.1) (hz0 : isZ (M.1 n2 0)) : CT l y_T_become w_T_become rm_T_become w zN [.ref (w.2.2 + n), .ref (w.2.2 + n2)] M none (tBec M n n2) := by
  refine CT.of (cc := b_T_become) (own := "CompatibilityJudge$Type") (by decide) rfl rfl (Nat.le_of_ble_eq_true rfl) ?_
  intro p9 e9 s9 m9 ag9 bl9 mt9 c9 K
  show XW p9 l e9 (rm_T_become) s9 m9 ag9 bl9 mt9 c9 3 0 0 (MQ bl9 (CQ w zN none (tBec M n n2)) ag9 s9 0 0 (fun q : Nat => w.2.2 ≤ q)) w zN M 0 [(0, .ref (w.2.2 + n)), (1, .ref (w.2.2 + n2))] []
  refine x_aload_n (pc := 0) K 0 d_T_become_0 rfl ?_
  refine x_aload_n (pc := 1) K 1 d_T_become_1 rfl ?_
  refine x_geti (pc := 2) K (n := n2) (k := 0) (zlt hT2) hT2 rfl rfl (by decide) (fun _ q => zmem (uw_T _ q)) (zmem lk_T_29) d_T_become_2 ?_
  refine x_puti (pc := 5) K (n := n) (k := 0) (x := M.1 n2 0) uY_T tk_T nm_T (zlt hT) hT rfl rfl (by decide) (fun _ q => zmem (uw_T _ q)) (zmem lk_T_29) rfl (isZ_n hz0) (isZ_ft hz0) d_T_become_5 ?_
  refine x_aload_n (pc := 8) K 0 d_T_become_8 rfl ?_
  refine x_aload_n (pc := 9) K 1 d_T_become_9 rfl ?_
  refine x_geti (pc := 10) K (n := n2) (k := 1) (zlt hT2) hT2 rfl rfl (by decide) (fun _ q => zmem (uw_T _ q)) (zmem lk_T_33) d_T_become_10 ?_
  refine x_puti (pc := 13) K (n := n) (k := 1) (x := (wI M n 0 (M.1 n2 0)).1 n2 1) uY_T tk_T nm_T (zlt hT) hT rfl rfl (by decide) (fun _ q => zmem (uw_T _ q)) (zmem lk_T_33) rfl rfl rfl d_T_become_13 ?_
  refine x_aload_n (pc := 16) K 0 d_T_become_16 rfl ?_
  refine x_aload_n (pc := 17) K 1 d_T_become_17 rfl ?_
  refine x_geti (pc := 18) K (n := n2) (k := 2) (zlt hT2) hT2 rfl rfl (by decide) (fun _ q => zmem (uw_T _ q)) (zmem lk_T_36) d_T_become_18 ?_
  refine x_puti (pc := 21) K (n := n) (k := 2) (x := (wI (wI M n 0 (M.1 n2 0)) n 1 ((wI M n 0 (M.1 n2 0)).1 n2 1)).1 n2 2) uY_T tk_T nm_T (zlt hT) hT rfl rfl (by decide) (fun _ q => zmem (uw_T _ q)) (zmem lk_T_36) rfl rfl rfl d_T_become_21 ?_
  refine x_aload_n (pc := 24) K 0 d_T_become_24 rfl ?_
  refine x_aload_n (pc := 25) K 1 d_T_become_25 rfl ?_
  refine x_geti (pc := 26) K (n := n2) (k := 3) (zlt hT2) hT2 rfl rfl (by decide) (fun _ q => zmem (uw_T _ q)) (zmem lk_T_22) d_T_become_26 ?_
  refine x_puti (pc := 29) K (n := n) (k := 3) (x := (wI (wI (wI M n 0 (M.1 n2 0)) n 1 ((wI M n 0 (M.1 n2 0)).1 n2 1)) n 2 ((wI (wI M n 0 (M.1 n2 0)) n 1 ((wI M n 0 (M.1 n2 0)).1 n2 1)).1 n2 2)).1 n2 3) uY_T tk_T nm_T (zlt hT) hT rfl rfl (by decide) (fun _ q => zmem (uw_T _ q)) (zmem lk_T_22) rfl rfl rfl d_T_become_29 ?_
  refine x_aload_n (pc := 32) K 1 d_T_become_32 rfl ?_
  refine x_getr (pc := 33) K (n := n2) (n' := n2 + 1) (k := 4) (zlt hT2) hT2 rfl (hR.Ti hT2) rfl (by decide) (fun _ q => zmem (uw_T _ q)) (zmem lk_T_9) d_T_become_33 ?_
  refine x_iconst (pc := 36) K (v := 0) d_T_become_36 (by decide) ?_
  refine x_aload_n (pc := 37) K 0 d_T_become_37 rfl ?_
  refine x_getr (pc := 38) K (n := n) (n' := n + 1) (k := 4) (zlt hT) hT rfl (hR.Ti hT) rfl (by decide) (fun _ q => zmem (uw_T _ q)) (zmem lk_T_9) d_T_become_38 ?_
  refine x_iconst (pc := 41) K (v := 0) d_T_become_41 (by decide) ?_
  refine x_iconst (pc := 42) K (v := nI 3) d_T_become_42 (by decide) ?_
  refine x_copyi (pc := 43) K (n0 := n2 + 1) (n1 := n + 1) (len := 3) rfl rfl (by decide) (zmem lk_T_45) (zmem nm_Sy_arraycopy) (zmem sm_Sy_arraycopy) (zmem ii_Sy) (zlt (shTi hT2)) (shTi hT2) (zlt (shTi hT)) (shTi hT) rfl (by decide) (by decide) (Nat.le_of_ble_eq_true rfl) d_T_become_43 ?_
  refine x_aload_n (pc := 46) K 0 d_T_become_46 rfl ?_
  refine x_aload_n (pc := 47) K 1 d_T_become_47 rfl ?_
  refine x_geti (pc := 48) K (n := n2) (k := 5) (zlt hT2) hT2 rfl rfl (by decide) (fun _ q => zmem (uw_T _ q)) (zmem lk_T_39) d_T_become_48 ?_
  refine x_puti (pc := 51) K (n := n) (k := 5) (x := (wA (wI (wI (wI (wI M n 0 (M.1 n2 0)) n 1 ((wI M n 0 (M.1 n2 0)).1 n2 1)) n 2 ((wI (wI M n 0 (M.1 n2 0)) n 1 ((wI M n 0 (M.1 n2 0)).1 n2 1)).1 n2 2)) n 3 ((wI (wI (wI M n 0 (M.1 n2 0)) n 1 ((wI M n 0 (M.1 n2 0)).1 n2 1)) n 2 ((wI (wI M n 0 (M.1 n2 0)) n 1 ((wI M n 0 (M.1 n2 0)).1 n2 1)).1 n2 2)).1 n2 3)) (n + 1) (va_cpy ((wI (wI (wI (wI M n 0 (M.1 n2 0)) n 1 ((wI M n 0 (M.1 n2 0)).1 n2 1)) n 2 ((wI (wI M n 0 (M.1 n2 0)) n 1 ((wI M n 0 (M.1 n2 0)).1 n2 1)).1 n2 2)) n 3 ((wI (wI (wI M n 0 (M.1 n2 0)) n 1 ((wI M n 0 (M.1 n2 0)).1 n2 1)) n 2 ((wI (wI M n 0 (M.1 n2 0)) n 1 ((wI M n 0 (M.1 n2 0)).1 n2 1)).1 n2 2)).1 n2 3)).1 (n2 + 1)) ((wI (wI (wI (wI M n 0 (M.1 n2 0)) n 1 ((wI M n 0 (M.1 n2 0)).1 n2 1)) n 2 ((wI (wI M n 0 (M.1 n2 0)) n 1 ((wI M n 0 (M.1 n2 0)).1 n2 1)).1 n2 2)) n 3 ((wI (wI (wI M n 0 (M.1 n2 0)) n 1 ((wI M n 0 (M.1 n2 0)).1 n2 1)) n 2 ((wI (wI M n 0 (M.1 n2 0)) n 1 ((wI M n 0 (M.1 n2 0)).1 n2 1)).1 n2 2)).1 n2 3)).1 (n + 1)) 0 0 3)).1 n2 5) uY_T tk_T nm_T (zlt hT) hT rfl rfl (by decide) (fun _ q => zmem (uw_T _ q)) (zmem lk_T_39) rfl rfl rfl d_T_become_51 ?_
  refine x_iconst (pc := 54) K (v := nI 0) d_T_become_54 (by decide) ?_
  refine x_istore_n (pc := 55) K (lv' := [(2, .int (nI 0)), (0, .ref (w.2.2 + n)), (1, .ref (w.2.2 + n2))]) d_T_become_55 (by decide) rfl ?_
  exact lp_T_become l w M n n2 hT hT2 hne o (cM M.1 n2) h8 _ K (cM M.1 n2 + 1) 0 (tBc2 M n n2) (by omega) (by omega) hR (by rw [tBc2_rd (Ne.symm hne) (neTI hT2 hT)]; exact h7) (fun a ha => by rw [tBc2_rd (fun q => neTM hT ha q.symm) (neMI ha hT)]; exact hz a ha) (by rw [Nat.sub_zero])
end
section
theorem x_opt {p : Program} {l : Launch} {e : Env} {R : Room} {s : State} {m : MethodId} {args : Array Value} {below : List Frame} {meth : Method} {c : Code} {nL cells slots : Nat} {Q : State → Prop} {w : fl_W} {N : Nat} {M : fl_M} {pc : Nat} {lv : List (Nat × Value)} {st : List Value} {F : Option Nat} {n : Nat} (k0 : F = none → XW p l e R s m args below meth c nL cells slots Q w N M pc lv (.null :: st)) (k1 : ∀ j, F = some j → XW p l e R s m args below meth c nL cells slots Q w N M pc lv (.ref (w.2.2 + (n + 3 + j)) :: st)) : XW p l e R s m args below meth c nL cells slots Q w N M pc lv (rfM w n F :: st) := by
  cases F with
  | none => exact k0 rfl
  | some j => exact k1 j rfl
theorem fnd_lt {p : Nat → Prop} [DecidablePred p] : ∀ {k i j : Nat}, fnd p i k = some j → i ≤ j ∧ j < i + k ∧ p j := by
  intro k
  induction k with
  | zero => intro i j h; cases h
  | succ k ih =>
    intro i j h
    rw [fnd] at h
    split at h
    · rename_i hp
      cases h
      exact ⟨Nat.le_refl _, by omega, hp⟩
    · obtain ⟨a, b, d⟩ := ih h
      exact ⟨by omega, by omega, d⟩
theorem fnd_none {p : Nat → Prop} [DecidablePred p] : ∀ {k i : Nat}, fnd p i k = none ↔ ∀ j, i ≤ j → j < i + k → ¬ p j := by
  intro k
  induction k with
  | zero => intro i; exact ⟨fun _ j h1 h2 => absurd h2 (by omega), fun _ => rfl⟩
  | succ k ih =>
    intro i
    rw [fnd]
    split
    · rename_i hp
      exact ⟨fun h => (by cases h), fun h => absurd hp (h i (Nat.le_refl _) (by omega))⟩
    · rename_i hp
      rw [ih]
      refine ⟨fun h j h1 h2 => ?_, fun h j h1 h2 => h j (by omega) (by omega)⟩
      rcases Nat.eq_or_lt_of_le h1 with q | q
      · rw [← q]; exact hp
      · exact h j q (by omega)
/-- the name of type x of the baseline b -/
abbrev tn (b : Nat) (x : Int32) : Nat := b + 2 + 11 * ix x
/-- what holds of a baseline's type t: counts, truth, interfaces and parent below t -/
def bTy (μ : Nat → Nat → Int32) (b t : Nat) : Prop := tOk μ (b + 2 + 11 * t) ∧ isZ (μ (b + 2 + 11 * t) 0) ∧ (∀ i, i < cI μ (b + 2 + 11 * t) → inL t (μ (b + 2 + 11 * t + 1) i)) ∧ (μ (b + 2 + 11 * t) 3 = -1 ∨ inL t (μ (b + 2 + 11 * t) 3))
def bSc (μ : Nat → Nat → Int32) (b t : Nat) : Prop := μ (b + 2 + 11 * t) 8 = -1 ∨ inL t (μ (b + 2 + 11 * t) 8)
def bOk (μ : Nat → Nat → Int32) (b : Nat) : Prop := ∀ t, t < 12 → bTy μ b t
def bSk (μ : Nat → Nat → Int32) (b : Nat) : Prop := ∀ t, t < 12 → bSc μ b t
theorem inL_le {L L' : Nat} {x : Int32} (h : inL L x) (hL : L ≤ L') : inL L' x := ⟨h.1, Nat.lt_of_lt_of_le h.2 hL⟩
def tct (μ : Nat → Nat → Int32) (b : Nat) : Nat → Nat → Int32 → Int32
  | _, 0, a => a
  | i, k + 1, a => tct μ b (i + 1) k (if μ (b + 2 + 11 * i) 0 = 0 then a else a + 1)
def mct (μ : Nat → Nat → Int32) (b : Nat) : Nat → Nat → Int32 → Int32
  | _, 0, a => a
  | i, k + 1, a => mct μ b (i + 1) k (a + μ (b + 2 + 11 * i) 7)
set_option maxHeartbeats 4000000 in
set_option maxRecDepth 100000 in
theorem lp_B_typeCount (l : Launch) (w : fl_W) (M : fl_M) (b : Nat) (hB : zSh b = zsB) (o : Nat) (hR : zRf o M.2) (F : Int32) {p9 : Program} {e9 : Env} {s9 : State} {m9 : MethodId} {ag9 : Array Value} {bl9 : List Frame} {mt9 : Method} {c9 : Code} (K : XC p9 s9 m9 ag9 mt9 c9 b_B_typeCount 3 (some .int) w_B_typeCount "CompatibilityJudge$Baseline" w) : ∀ (k : Nat) (i : Nat) (a : Int32), i ≤ 12 → 12 + 1 ≤ i + k → tct M.1 b i (12 - i) a = F → XW p9 l e9 (rm_B_typeCount) s9 m9 ag9 bl9 mt9 c9 3 0 0 (MQ bl9 (CQ w zN (some (.int F)) M) ag9 s9 0 0 (fun q : Nat => w.2.2 ≤ q)) w zN M 4 [(2, .int (nI i)), (1, .int a), (0, .ref (w.2.2 + b))] [] := by
  intro k
  induction k with
  | zero =>
    intro i a hi hk
    exact absurd hk (by omega)
  | succ k ih =>
    intro i a hi hk hf
    refine x_iload_n (pc := 4) K 0 d_B_typeCount_4 rfl ?_
    refine x_bipush (pc := 5) K (v := nI 12) d_B_typeCount_5 (by decide) ?_
    refine x_icmp_ge (pc := 7) K (tgt := 31) d_B_typeCount_7 (by decide) (fun c7 => ?_) (fun c7 => ?_)
    · skip
      have hic : i = 12 := by have := (nI_leI (a := 12) (by omega) (by omega)).mp c7; omega
      rw [hic, Nat.sub_self] at hf
      refine x_iload_n (pc := 31) K 1 d_B_typeCount_31 rfl ?_
      exact x_iret (pc := 32) K (by rw [← hf]; rfl) (rfl) d_B_typeCount_32
    · skip
      have hic : i < 12 := Nat.not_le.mp (fun q => c7 (nI_le (a := 12) q (by omega)))
      rw [show 12 - i = (12 - (i + 1)) + 1 by omega, tct] at hf
      refine x_aload_n (pc := 10) K 2 d_B_typeCount_10 rfl ?_
      refine x_getr (pc := 11) K (n := b) (n' := b + 1) (k := 0) (zlt hB) hB rfl (hR.Ba hB) rfl (by decide) (fun _ q => zmem (uw_B _ q)) (zmem lk_B_11) d_B_typeCount_11 ?_
      refine x_iload_n (pc := 14) K 0 d_B_typeCount_14 rfl ?_
      refine x_aald (pc := 15) K (n := b + 1) (n' := b + 2 + 11 * i) (j := i) rfl (by omega) (hR.Bt hB (by omega)) (zlt (shBa hB)) (shBa hB) rfl (by decide) d_B_typeCount_15 ?_
      refine x_geti (pc := 16) K (n := b + 2 + 11 * i) (k := 0) (zlt (shBt hB (by omega))) (shBt hB (by omega)) rfl rfl (by decide) (fun _ q => zmem (uw_T _ q)) (zmem lk_B_26) d_B_typeCount_16 ?_
      refine x_if_eq (pc := 19) K (tgt := 25) d_B_typeCount_19 (by decide) (fun c19 => ?_) (fun c19 => ?_)
      · skip
        rw [if_pos c19] at hf
        refine x_iinc (pc := 25) K (v := nI (i + 1)) (lv' := [(2, .int (nI (i + 1))), (1, .int a), (0, .ref (w.2.2 + b))]) 0 d_B_typeCount_25 rfl (nI_1 _) (by decide) rfl ?_
        refine x_goto (pc := 28) K (tgt := 4) d_B_typeCount_28 (by decide) ?_
        refine x_lv [0, 1, 2] rfl ?_
        exact ih (i + 1) _ (by omega) (by omega) hf
      · skip
        rw [if_neg c19] at hf
        refine x_iinc (pc := 22) K (v := a + 1) (lv' := [(1, .int (a + 1)), (2, .int (nI i)), (0, .ref (w.2.2 + b))]) 1 d_B_typeCount_22 rfl (rfl) (by decide) rfl ?_
        refine x_iinc (pc := 25) K (v := nI (i + 1)) (lv' := [(2, .int (nI (i + 1))), (1, .int (a + 1)), (0, .ref (w.2.2 + b))]) 1 d_B_typeCount_25 rfl (nI_1 _) (by decide) rfl ?_
        refine x_goto (pc := 28) K (tgt := 4) d_B_typeCount_28 (by decide) ?_
        refine x_lv [0, 1, 2] rfl ?_
        exact ih (i + 1) _ (by omega) (by omega) hf
set_option maxHeartbeats 4000000 in
set_option maxRecDepth 100000 in
theorem c_B_typeCount (l : Launch) (w : fl_W) (M : fl_M) (b : Nat) (hB : zSh b = zsB) (o : Nat) (hR : zRf o M.2)  : CT l y_B_typeCount w_B_typeCount rm_B_typeCount w zN [.ref (w.2.2 + b)] M (some (.int (tct M.1 b 0 12 0))) M := by
  refine CT.of (cc := b_B_typeCount) (own := "CompatibilityJudge$Baseline") (by decide) rfl rfl (Nat.le_of_ble_eq_true rfl) ?_
  intro p9 e9 s9 m9 ag9 bl9 mt9 c9 K
  show XW p9 l e9 (rm_B_typeCount) s9 m9 ag9 bl9 mt9 c9 3 0 0 (MQ bl9 (CQ w zN (some (.int (tct M.1 b 0 12 0))) M) ag9 s9 0 0 (fun q : Nat => w.2.2 ≤ q)) w zN M 0 [(0, .ref (w.2.2 + b))] []
  refine x_iconst (pc := 0) K (v := 0) d_B_typeCount_0 (by decide) ?_
  refine x_istore_n (pc := 1) K (lv' := [(1, .int 0), (0, .ref (w.2.2 + b))]) d_B_typeCount_1 (by decide) rfl ?_
  refine x_iconst (pc := 2) K (v := nI 0) d_B_typeCount_2 (by decide) ?_
  refine x_istore_n (pc := 3) K (lv' := [(2, .int (nI 0)), (1, .int 0), (0, .ref (w.2.2 + b))]) d_B_typeCount_3 (by decide) rfl ?_
  exact lp_B_typeCount l w M b hB o hR _ K 13 0 0 (by omega) (by omega) rfl
set_option maxHeartbeats 4000000 in
set_option maxRecDepth 100000 in
theorem lp_B_memberCount (l : Launch) (w : fl_W) (M : fl_M) (b : Nat) (hB : zSh b = zsB) (o : Nat) (hR : zRf o M.2) (F : Int32) {p9 : Program} {e9 : Env} {s9 : State} {m9 : MethodId} {ag9 : Array Value} {bl9 : List Frame} {mt9 : Method} {c9 : Code} (K : XC p9 s9 m9 ag9 mt9 c9 b_B_memberCount 3 (some .int) w_B_memberCount "CompatibilityJudge$Baseline" w) : ∀ (k : Nat) (i : Nat) (a : Int32), i ≤ 12 → 12 + 1 ≤ i + k → mct M.1 b i (12 - i) a = F → XW p9 l e9 (rm_B_memberCount) s9 m9 ag9 bl9 mt9 c9 3 0 0 (MQ bl9 (CQ w zN (some (.int F)) M) ag9 s9 0 0 (fun q : Nat => w.2.2 ≤ q)) w zN M 4 [(2, .int (nI i)), (1, .int a), (0, .ref (w.2.2 + b))] [] := by
  intro k
  induction k with
  | zero =>
    intro i a hi hk
    exact absurd hk (by omega)
  | succ k ih =>
    intro i a hi hk hf
    refine x_iload_n (pc := 4) K 0 d_B_memberCount_4 rfl ?_
    refine x_bipush (pc := 5) K (v := nI 12) d_B_memberCount_5 (by decide) ?_
    refine x_icmp_ge (pc := 7) K (tgt := 28) d_B_memberCount_7 (by decide) (fun c7 => ?_) (fun c7 => ?_)
    · skip
      have hic : i = 12 := by have := (nI_leI (a := 12) (by omega) (by omega)).mp c7; omega
      rw [hic, Nat.sub_self] at hf
      refine x_iload_n (pc := 28) K 1 d_B_memberCount_28 rfl ?_
      exact x_iret (pc := 29) K (by rw [← hf]; rfl) (rfl) d_B_memberCount_29
    · skip
      have hic : i < 12 := Nat.not_le.mp (fun q => c7 (nI_le (a := 12) q (by omega)))
      rw [show 12 - i = (12 - (i + 1)) + 1 by omega, mct] at hf
      refine x_iload_n (pc := 10) K 1 d_B_memberCount_10 rfl ?_
      refine x_aload_n (pc := 11) K 2 d_B_memberCount_11 rfl ?_
      refine x_getr (pc := 12) K (n := b) (n' := b + 1) (k := 0) (zlt hB) hB rfl (hR.Ba hB) rfl (by decide) (fun _ q => zmem (uw_B _ q)) (zmem lk_B_11) d_B_memberCount_12 ?_
      refine x_iload_n (pc := 15) K 0 d_B_memberCount_15 rfl ?_
      refine x_aald (pc := 16) K (n := b + 1) (n' := b + 2 + 11 * i) (j := i) rfl (by omega) (hR.Bt hB (by omega)) (zlt (shBa hB)) (shBa hB) rfl (by decide) d_B_memberCount_16 ?_
      refine x_geti (pc := 17) K (n := b + 2 + 11 * i) (k := 7) (zlt (shBt hB (by omega))) (shBt hB (by omega)) rfl rfl (by decide) (fun _ q => zmem (uw_T _ q)) (zmem lk_B_30) d_B_memberCount_17 ?_
      refine x_iadd (pc := 20) K d_B_memberCount_20 ?_
      refine x_istore_n (pc := 21) K (lv' := [(1, .int (a + (M.1 (b + 2 + 11 * i) 7))), (2, .int (nI i)), (0, .ref (w.2.2 + b))]) d_B_memberCount_21 (by decide) rfl ?_
      refine x_iinc (pc := 22) K (v := nI (i + 1)) (lv' := [(2, .int (nI (i + 1))), (1, .int (a + (M.1 (b + 2 + 11 * i) 7))), (0, .ref (w.2.2 + b))]) 1 d_B_memberCount_22 rfl (nI_1 _) (by decide) rfl ?_
      refine x_goto (pc := 25) K (tgt := 4) d_B_memberCount_25 (by decide) ?_
      refine x_lv [0, 1, 2] rfl ?_
      exact ih (i + 1) _ (by omega) (by omega) hf
set_option maxHeartbeats 4000000 in
set_option maxRecDepth 100000 in
theorem c_B_memberCount (l : Launch) (w : fl_W) (M : fl_M) (b : Nat) (hB : zSh b = zsB) (o : Nat) (hR : zRf o M.2)  : CT l y_B_memberCount w_B_memberCount rm_B_memberCount w zN [.ref (w.2.2 + b)] M (some (.int (mct M.1 b 0 12 0))) M := by
  refine CT.of (cc := b_B_memberCount) (own := "CompatibilityJudge$Baseline") (by decide) rfl rfl (Nat.le_of_ble_eq_true rfl) ?_
  intro p9 e9 s9 m9 ag9 bl9 mt9 c9 K
  show XW p9 l e9 (rm_B_memberCount) s9 m9 ag9 bl9 mt9 c9 3 0 0 (MQ bl9 (CQ w zN (some (.int (mct M.1 b 0 12 0))) M) ag9 s9 0 0 (fun q : Nat => w.2.2 ≤ q)) w zN M 0 [(0, .ref (w.2.2 + b))] []
  refine x_iconst (pc := 0) K (v := 0) d_B_memberCount_0 (by decide) ?_
  refine x_istore_n (pc := 1) K (lv' := [(1, .int 0), (0, .ref (w.2.2 + b))]) d_B_memberCount_1 (by decide) rfl ?_
  refine x_iconst (pc := 2) K (v := nI 0) d_B_memberCount_2 (by decide) ?_
  refine x_istore_n (pc := 3) K (lv' := [(2, .int (nI 0)), (1, .int 0), (0, .ref (w.2.2 + b))]) d_B_memberCount_3 (by decide) rfl ?_
  exact lp_B_memberCount l w M b hB o hR _ K 13 0 0 (by omega) (by omega) rfl
abbrev isI (μ : Nat → Nat → Int32) (b : Nat) (x : Int32) : Prop := ¬ μ (tn b x) 0 = 0 ∧ μ (tn b x) 1 = 1
abbrev isC (μ : Nat → Nat → Int32) (b : Nat) (x : Int32) : Prop := (¬ x < 0 ∧ ¬ (12 : Int32) ≤ x) ∧ ¬ μ (tn b x) 0 = 0 ∧ μ (tn b x) 1 = 0
set_option maxHeartbeats 4000000 in
set_option maxRecDepth 100000 in
theorem c_B_isInterface (l : Launch) (w : fl_W) (M : fl_M) (b : Nat) (hB : zSh b = zsB) (o : Nat) (hR : zRf o M.2) (x : Int32) (hx : inL 12 x) : CT l y_B_isInterface w_B_isInterface rm_B_isInterface w zN [.ref (w.2.2 + b), .int x] M (some (.int (bI (isI M.1 b x)))) M := by
  refine CT.of (cc := b_B_isInterface) (own := "CompatibilityJudge$Baseline") (by decide) rfl rfl (Nat.le_of_ble_eq_true rfl) ?_
  intro p9 e9 s9 m9 ag9 bl9 mt9 c9 K
  show XW p9 l e9 (rm_B_isInterface) s9 m9 ag9 bl9 mt9 c9 2 0 0 (MQ bl9 (CQ w zN (some (.int (bI (isI M.1 b x)))) M) ag9 s9 0 0 (fun q : Nat => w.2.2 ≤ q)) w zN M 0 [(0, .ref (w.2.2 + b)), (1, .int x)] []
  refine x_aload_n (pc := 0) K 0 d_B_isInterface_0 rfl ?_
  refine x_getr (pc := 1) K (n := b) (n' := b + 1) (k := 0) (zlt hB) hB rfl (hR.Ba hB) rfl (by decide) (fun _ q => zmem (uw_B _ q)) (zmem lk_B_11) d_B_isInterface_1 ?_
  refine x_iload_n (pc := 4) K 1 d_B_isInterface_4 rfl ?_
  refine x_aald (pc := 5) K (n := b + 1) (n' := b + 2 + 11 * (ix x)) (j := ix x) hx.1 hx.2 (hR.Bt hB hx.2) (zlt (shBa hB)) (shBa hB) rfl (by decide) d_B_isInterface_5 ?_
  refine x_geti (pc := 6) K (n := b + 2 + 11 * (ix x)) (k := 0) (zlt (shBt hB hx.2)) (shBt hB hx.2) rfl rfl (by decide) (fun _ q => zmem (uw_T _ q)) (zmem lk_B_26) d_B_isInterface_6 ?_
  refine x_if_eq (pc := 9) K (tgt := 29) d_B_isInterface_9 (by decide) (fun c9 => ?_) (fun c9 => ?_)
  · skip
    refine x_iconst (pc := 29) K (v := 0) d_B_isInterface_29 (by decide) ?_
    exact x_zret (pc := 30) K (rF (by simp_all [isI])) rfl rfl d_B_isInterface_30
  · skip
    refine x_aload_n (pc := 12) K 0 d_B_isInterface_12 rfl ?_
    refine x_getr (pc := 13) K (n := b) (n' := b + 1) (k := 0) (zlt hB) hB rfl (hR.Ba hB) rfl (by decide) (fun _ q => zmem (uw_B _ q)) (zmem lk_B_11) d_B_isInterface_13 ?_
    refine x_iload_n (pc := 16) K 1 d_B_isInterface_16 rfl ?_
    refine x_aald (pc := 17) K (n := b + 1) (n' := b + 2 + 11 * (ix x)) (j := ix x) hx.1 hx.2 (hR.Bt hB hx.2) (zlt (shBa hB)) (shBa hB) rfl (by decide) d_B_isInterface_17 ?_
    refine x_geti (pc := 18) K (n := b + 2 + 11 * (ix x)) (k := 1) (zlt (shBt hB hx.2)) (shBt hB hx.2) rfl rfl (by decide) (fun _ q => zmem (uw_T _ q)) (zmem lk_B_64) d_B_isInterface_18 ?_
    refine x_iconst (pc := 21) K (v := 1) d_B_isInterface_21 (by decide) ?_
    refine x_icmp_ne (pc := 22) K (tgt := 29) d_B_isInterface_22 (by decide) (fun c22 => ?_) (fun c22 => ?_)
    · skip
      refine x_iconst (pc := 29) K (v := 0) d_B_isInterface_29 (by decide) ?_
      exact x_zret (pc := 30) K (rF (by simp_all [isI])) rfl rfl d_B_isInterface_30
    · skip
      refine x_iconst (pc := 25) K (v := 1) d_B_isInterface_25 (by decide) ?_
      refine x_goto (pc := 26) K (tgt := 30) d_B_isInterface_26 (by decide) ?_
      exact x_zret (pc := 30) K (rT (by simp_all [isI])) rfl rfl d_B_isInterface_30
set_option maxHeartbeats 4000000 in
set_option maxRecDepth 100000 in
theorem c_B_isClass (l : Launch) (w : fl_W) (M : fl_M) (b : Nat) (hB : zSh b = zsB) (o : Nat) (hR : zRf o M.2) (x : Int32) : CT l y_B_isClass w_B_isClass rm_B_isClass w zN [.ref (w.2.2 + b), .int x] M (some (.int (bI (isC M.1 b x)))) M := by
  refine CT.of (cc := b_B_isClass) (own := "CompatibilityJudge$Baseline") (by decide) rfl rfl (Nat.le_of_ble_eq_true rfl) ?_
  intro p9 e9 s9 m9 ag9 bl9 mt9 c9 K
  show XW p9 l e9 (rm_B_isClass) s9 m9 ag9 bl9 mt9 c9 2 0 0 (MQ bl9 (CQ w zN (some (.int (bI (isC M.1 b x)))) M) ag9 s9 0 0 (fun q : Nat => w.2.2 ≤ q)) w zN M 0 [(0, .ref (w.2.2 + b)), (1, .int x)] []
  refine x_iload_n (pc := 0) K 1 d_B_isClass_0 rfl ?_
  refine x_bipush (pc := 1) K (v := 12) d_B_isClass_1 (by decide) ?_
  refine x_callSN (pc := 3) K (As := [.int x, .int 12]) (rest := []) (c_J_isWithin l w M x 12) (zcwSN K.ts K.S.2.1.2.1 sm_J_isWithin ii_J co_J_isWithin pd_J_isWithin ⟨rfl, rfl⟩ ⟨by decide, by decide⟩) rfl rfl (Nat.le_of_ble_eq_true rfl) ⟨Nat.zero_le _, Nat.zero_le _⟩ d_B_isClass_3 ?_
  refine x_ifeqB (pc := 6) K (tgt := 37) d_B_isClass_6 (by decide) (fun c6 => ?_) (fun c6 => ?_)
  · skip
    refine x_iconst (pc := 37) K (v := 0) d_B_isClass_37 (by decide) ?_
    exact x_zret (pc := 38) K (rF (fun q => c6 q.1)) rfl rfl d_B_isClass_38
  · skip
    have hx := ix_of 12 (by omega) c6.1 c6.2
    refine x_aload_n (pc := 9) K 0 d_B_isClass_9 rfl ?_
    refine x_getr (pc := 10) K (n := b) (n' := b + 1) (k := 0) (zlt hB) hB rfl (hR.Ba hB) rfl (by decide) (fun _ q => zmem (uw_B _ q)) (zmem lk_B_11) d_B_isClass_10 ?_
    refine x_iload_n (pc := 13) K 1 d_B_isClass_13 rfl ?_
    refine x_aald (pc := 14) K (n := b + 1) (n' := b + 2 + 11 * (ix x)) (j := ix x) hx.1 hx.2 (hR.Bt hB hx.2) (zlt (shBa hB)) (shBa hB) rfl (by decide) d_B_isClass_14 ?_
    refine x_geti (pc := 15) K (n := b + 2 + 11 * (ix x)) (k := 0) (zlt (shBt hB hx.2)) (shBt hB hx.2) rfl rfl (by decide) (fun _ q => zmem (uw_T _ q)) (zmem lk_B_26) d_B_isClass_15 ?_
    refine x_if_eq (pc := 18) K (tgt := 37) d_B_isClass_18 (by decide) (fun c18 => ?_) (fun c18 => ?_)
    · skip
      refine x_iconst (pc := 37) K (v := 0) d_B_isClass_37 (by decide) ?_
      exact x_zret (pc := 38) K (rF (fun q => q.2.1 c18)) rfl rfl d_B_isClass_38
    · skip
      refine x_aload_n (pc := 21) K 0 d_B_isClass_21 rfl ?_
      refine x_getr (pc := 22) K (n := b) (n' := b + 1) (k := 0) (zlt hB) hB rfl (hR.Ba hB) rfl (by decide) (fun _ q => zmem (uw_B _ q)) (zmem lk_B_11) d_B_isClass_22 ?_
      refine x_iload_n (pc := 25) K 1 d_B_isClass_25 rfl ?_
      refine x_aald (pc := 26) K (n := b + 1) (n' := b + 2 + 11 * (ix x)) (j := ix x) hx.1 hx.2 (hR.Bt hB hx.2) (zlt (shBa hB)) (shBa hB) rfl (by decide) d_B_isClass_26 ?_
      refine x_geti (pc := 27) K (n := b + 2 + 11 * (ix x)) (k := 1) (zlt (shBt hB hx.2)) (shBt hB hx.2) rfl rfl (by decide) (fun _ q => zmem (uw_T _ q)) (zmem lk_B_64) d_B_isClass_27 ?_
      refine x_if_ne (pc := 30) K (tgt := 37) d_B_isClass_30 (by decide) (fun c30 => ?_) (fun c30 => ?_)
      · skip
        refine x_iconst (pc := 37) K (v := 0) d_B_isClass_37 (by decide) ?_
        exact x_zret (pc := 38) K (rF (fun q => c30 q.2.2)) rfl rfl d_B_isClass_38
      · skip
        refine x_iconst (pc := 33) K (v := 1) d_B_isClass_33 (by decide) ?_
        refine x_goto (pc := 34) K (tgt := 38) d_B_isClass_34 (by decide) ?_
        exact x_zret (pc := 38) K (rT (⟨c6, c18, c30⟩)) rfl rfl d_B_isClass_38
def gt0 (μ : Nat → Nat → Int32) (b n : Nat) : Int32 := if μ n 8 = -1 then 0 else 1 <<< (μ n 8 &&& 31) ||| μ (tn b (μ n 8)) 9
def gth (μ : Nat → Nat → Int32) (b n : Nat) : Nat → Nat → Int32 → Int32
  | _, 0, a => a
  | i, k + 1, a => gth μ b n (i + 1) k (if isI μ b (μ (n + 1) i) then (a ||| 1 <<< (μ (n + 1) i &&& 31)) ||| μ (tn b (μ (n + 1) i)) 9 else a)
def gat (μ : Nat → Nat → Int32) (b n : Nat) : Int32 := gth μ b n 0 (cI μ n) (gt0 μ b n)
set_option maxHeartbeats 4000000 in
set_option maxRecDepth 100000 in
theorem lp_B_gather (l : Launch) (w : fl_W) (M : fl_M) (b : Nat) (hB : zSh b = zsB) (o : Nat) (hR : zRf o M.2) (n : Nat) (hT : zSh n = zsT) (hok : tOk M.1 n) (hi12 : ∀ i, i < cI M.1 n → inL 12 (M.1 (n + 1) i)) (F : Int32) {p9 : Program} {e9 : Env} {s9 : State} {m9 : MethodId} {ag9 : Array Value} {bl9 : List Frame} {mt9 : Method} {c9 : Code} (K : XC p9 s9 m9 ag9 mt9 c9 b_B_gatherSupertypes 5 (some .int) w_B_gatherSupertypes "CompatibilityJudge$Baseline" w) : ∀ (k : Nat) (i : Nat) (a : Int32), i ≤ cI M.1 n → cI M.1 n + 1 ≤ i + k → gth M.1 b n i (cI M.1 n - i) a = F → XW p9 l e9 (rm_B_gatherSupertypes) s9 m9 ag9 bl9 mt9 c9 5 0 0 (MQ bl9 (CQ w zN (some (.int F)) M) ag9 s9 0 0 (fun q : Nat => w.2.2 ≤ q)) w zN M 32 [(3, .int (nI i)), (2, .int a), (0, .ref (w.2.2 + b)), (1, .ref (w.2.2 + n))] [] := by
  have h3 := hok.1.2
  intro k
  induction k with
  | zero =>
    intro i a hi hk
    exact absurd hk (by omega)
  | succ k ih =>
    intro i a hi hk hf
    refine x_iload_n (pc := 32) K 0 d_B_gatherSupertypes_32 rfl ?_
    refine x_aload_n (pc := 33) K 3 d_B_gatherSupertypes_33 rfl ?_
    refine x_geti (pc := 34) K (n := n) (k := 5) (zlt hT) hT rfl rfl (by decide) (fun _ q => zmem (uw_T _ q)) (zmem lk_B_51) d_B_gatherSupertypes_34 ?_
    refine x_eqi (y := nI (cI M.1 n)) (hok.1.1) ?_
    refine x_icmp_ge (pc := 37) K (tgt := 81) d_B_gatherSupertypes_37 (by decide) (fun c37 => ?_) (fun c37 => ?_)
    · skip
      have hic : i = cI M.1 n := by have := (nI_leI (by omega) (by omega)).mp c37; omega
      rw [hic, Nat.sub_self] at hf
      refine x_iload_n (pc := 81) K 1 d_B_gatherSupertypes_81 rfl ?_
      exact x_iret (pc := 82) K (by rw [← hf]; rfl) (rfl) d_B_gatherSupertypes_82
    · skip
      have hic : i < cI M.1 n := Nat.not_le.mp (fun q => c37 (nI_le q (by omega)))
      rw [show cI M.1 n - i = (cI M.1 n - (i + 1)) + 1 by omega, gth] at hf
      have hx := hi12 i hic
      refine x_aload_n (pc := 40) K 3 d_B_gatherSupertypes_40 rfl ?_
      refine x_getr (pc := 41) K (n := n) (n' := n + 1) (k := 4) (zlt hT) hT rfl (hR.Ti hT) rfl (by decide) (fun _ q => zmem (uw_T _ q)) (zmem lk_B_54) d_B_gatherSupertypes_41 ?_
      refine x_iload_n (pc := 44) K 0 d_B_gatherSupertypes_44 rfl ?_
      refine x_iald (pc := 45) K (n := n + 1) (j := i) rfl (by omega) (zlt (shTi hT)) (shTi hT) rfl (by decide) d_B_gatherSupertypes_45 ?_
      refine x_istore (pc := 46) K (lv' := [(4, .int (M.1 (n + 1) i)), (3, .int (nI i)), (2, .int a), (0, .ref (w.2.2 + b)), (1, .ref (w.2.2 + n))]) d_B_gatherSupertypes_46 (by decide) rfl ?_
      refine x_aload_n (pc := 48) K 3 d_B_gatherSupertypes_48 rfl ?_
      refine x_iload (pc := 49) K 0 d_B_gatherSupertypes_49 rfl ?_
      refine x_callV (pc := 51) K (As := [.int (M.1 (n + 1) i)]) (rest := []) (c_B_isInterface l w M b hB o hR (M.1 (n + 1) i) hx) (zcwV K.ts lk_B_57 im_B_isInterface se_B_isInterface ii_B co_B_isInterface pd_B_isInterface ⟨rfl, rfl⟩ ⟨by decide, by decide⟩) (zlt hB) hB rfl rfl rfl (Nat.le_of_ble_eq_true rfl) ⟨Nat.zero_le _, Nat.zero_le _⟩ d_B_gatherSupertypes_51 ?_
      refine x_ifeqB (pc := 54) K (tgt := 75) d_B_gatherSupertypes_54 (by decide) (fun c54 => ?_) (fun c54 => ?_)
      · skip
        rw [if_neg c54] at hf
        refine x_iinc (pc := 75) K (v := nI (i + 1)) (lv' := [(3, .int (nI (i + 1))), (4, .int (M.1 (n + 1) i)), (2, .int a), (0, .ref (w.2.2 + b)), (1, .ref (w.2.2 + n))]) 1 d_B_gatherSupertypes_75 rfl (nI_1 _) (by decide) rfl ?_
        refine x_goto (pc := 78) K (tgt := 32) d_B_gatherSupertypes_78 (by decide) ?_
        refine x_lv [0, 2, 3, 4] rfl ?_
        exact ih (i + 1) _ (by omega) (by omega) hf
      · skip
        rw [if_pos c54] at hf
        refine x_iload_n (pc := 57) K 2 d_B_gatherSupertypes_57 rfl ?_
        refine x_iconst (pc := 58) K (v := 1) d_B_gatherSupertypes_58 (by decide) ?_
        refine x_iload (pc := 59) K 0 d_B_gatherSupertypes_59 rfl ?_
        refine x_ishl (pc := 61) K d_B_gatherSupertypes_61 ?_
        refine x_ior (pc := 62) K d_B_gatherSupertypes_62 ?_
        refine x_aload_n (pc := 63) K 3 d_B_gatherSupertypes_63 rfl ?_
        refine x_getr (pc := 64) K (n := b) (n' := b + 1) (k := 0) (zlt hB) hB rfl (hR.Ba hB) rfl (by decide) (fun _ q => zmem (uw_B _ q)) (zmem lk_B_11) d_B_gatherSupertypes_64 ?_
        refine x_iload (pc := 67) K 0 d_B_gatherSupertypes_67 rfl ?_
        refine x_aald (pc := 69) K (n := b + 1) (n' := b + 2 + 11 * (ix (M.1 (n + 1) i))) (j := ix (M.1 (n + 1) i)) hx.1 hx.2 (hR.Bt hB hx.2) (zlt (shBa hB)) (shBa hB) rfl (by decide) d_B_gatherSupertypes_69 ?_
        refine x_geti (pc := 70) K (n := b + 2 + 11 * (ix (M.1 (n + 1) i))) (k := 9) (zlt (shBt hB hx.2)) (shBt hB hx.2) rfl rfl (by decide) (fun _ q => zmem (uw_T _ q)) (zmem lk_B_48) d_B_gatherSupertypes_70 ?_
        refine x_ior (pc := 73) K d_B_gatherSupertypes_73 ?_
        refine x_istore_n (pc := 74) K (lv' := [(2, .int ((a ||| (1 <<< ((M.1 (n + 1) i) &&& 31))) ||| (M.1 (b + 2 + 11 * (ix (M.1 (n + 1) i))) 9))), (4, .int (M.1 (n + 1) i)), (3, .int (nI i)), (0, .ref (w.2.2 + b)), (1, .ref (w.2.2 + n))]) d_B_gatherSupertypes_74 (by decide) rfl ?_
        refine x_iinc (pc := 75) K (v := nI (i + 1)) (lv' := [(3, .int (nI (i + 1))), (2, .int ((a ||| (1 <<< ((M.1 (n + 1) i) &&& 31))) ||| (M.1 (b + 2 + 11 * (ix (M.1 (n + 1) i))) 9))), (4, .int (M.1 (n + 1) i)), (0, .ref (w.2.2 + b)), (1, .ref (w.2.2 + n))]) 2 d_B_gatherSupertypes_75 rfl (nI_1 _) (by decide) rfl ?_
        refine x_goto (pc := 78) K (tgt := 32) d_B_gatherSupertypes_78 (by decide) ?_
        refine x_lv [0, 1, 3, 4] rfl ?_
        exact ih (i + 1) _ (by omega) (by omega) hf
set_option maxHeartbeats 4000000 in
set_option maxRecDepth 100000 in
theorem c_B_gatherSupertypes (l : Launch) (w : fl_W) (M : fl_M) (b : Nat) (hB : zSh b = zsB) (o : Nat) (hR : zRf o M.2) (n : Nat) (hT : zSh n = zsT) (hok : tOk M.1 n) (hi12 : ∀ i, i < cI M.1 n → inL 12 (M.1 (n + 1) i)) (hs : M.1 n 8 = -1 ∨ inL 12 (M.1 n 8)) : CT l y_B_gatherSupertypes w_B_gatherSupertypes rm_B_gatherSupertypes w zN [.ref (w.2.2 + b), .ref (w.2.2 + n)] M (some (.int (gat M.1 b n))) M := by
  refine CT.of (cc := b_B_gatherSupertypes) (own := "CompatibilityJudge$Baseline") (by decide) rfl rfl (Nat.le_of_ble_eq_true rfl) ?_
  intro p9 e9 s9 m9 ag9 bl9 mt9 c9 K
  show XW p9 l e9 (rm_B_gatherSupertypes) s9 m9 ag9 bl9 mt9 c9 5 0 0 (MQ bl9 (CQ w zN (some (.int (gat M.1 b n))) M) ag9 s9 0 0 (fun q : Nat => w.2.2 ≤ q)) w zN M 0 [(0, .ref (w.2.2 + b)), (1, .ref (w.2.2 + n))] []
  refine x_iconst (pc := 0) K (v := 0) d_B_gatherSupertypes_0 (by decide) ?_
  refine x_istore_n (pc := 1) K (lv' := [(2, .int 0), (0, .ref (w.2.2 + b)), (1, .ref (w.2.2 + n))]) d_B_gatherSupertypes_1 (by decide) rfl ?_
  refine x_aload_n (pc := 2) K 2 d_B_gatherSupertypes_2 rfl ?_
  refine x_geti (pc := 3) K (n := n) (k := 8) (zlt hT) hT rfl rfl (by decide) (fun _ q => zmem (uw_T _ q)) (zmem lk_B_41) d_B_gatherSupertypes_3 ?_
  refine x_iconst (pc := 6) K (v := (-1)) d_B_gatherSupertypes_6 (by decide) ?_
  refine x_icmp_eq (pc := 7) K (tgt := 30) d_B_gatherSupertypes_7 (by decide) (fun c7 => ?_) (fun c7 => ?_)
  · skip
    have hg : gt0 M.1 b n = 0 := if_pos c7
    refine x_iconst (pc := 30) K (v := nI 0) d_B_gatherSupertypes_30 (by decide) ?_
    refine x_istore_n (pc := 31) K (lv' := [(3, .int (nI 0)), (2, .int 0), (0, .ref (w.2.2 + b)), (1, .ref (w.2.2 + n))]) d_B_gatherSupertypes_31 (by decide) rfl ?_
    refine x_lv [0, 1, 2, 3] rfl ?_
    exact lp_B_gather l w M b hB o hR n hT hok hi12 _ K (cI M.1 n + 1) 0 _ (by omega) (by omega) (by rw [Nat.sub_zero, ← hg]; rfl)
  · skip
    have hg : gt0 M.1 b n = 1 <<< (M.1 n 8 &&& 31) ||| M.1 (tn b (M.1 n 8)) 9 := if_neg c7
    have hs9 := hs.resolve_left c7
    refine x_iconst (pc := 10) K (v := 1) d_B_gatherSupertypes_10 (by decide) ?_
    refine x_aload_n (pc := 11) K 2 d_B_gatherSupertypes_11 rfl ?_
    refine x_geti (pc := 12) K (n := n) (k := 8) (zlt hT) hT rfl rfl (by decide) (fun _ q => zmem (uw_T _ q)) (zmem lk_B_41) d_B_gatherSupertypes_12 ?_
    refine x_ishl (pc := 15) K d_B_gatherSupertypes_15 ?_
    refine x_aload_n (pc := 16) K 1 d_B_gatherSupertypes_16 rfl ?_
    refine x_getr (pc := 17) K (n := b) (n' := b + 1) (k := 0) (zlt hB) hB rfl (hR.Ba hB) rfl (by decide) (fun _ q => zmem (uw_B _ q)) (zmem lk_B_11) d_B_gatherSupertypes_17 ?_
    refine x_aload_n (pc := 20) K 2 d_B_gatherSupertypes_20 rfl ?_
    refine x_geti (pc := 21) K (n := n) (k := 8) (zlt hT) hT rfl rfl (by decide) (fun _ q => zmem (uw_T _ q)) (zmem lk_B_41) d_B_gatherSupertypes_21 ?_
    refine x_aald (pc := 24) K (n := b + 1) (n' := b + 2 + 11 * (ix (M.1 n 8))) (j := ix (M.1 n 8)) hs9.1 hs9.2 (hR.Bt hB hs9.2) (zlt (shBa hB)) (shBa hB) rfl (by decide) d_B_gatherSupertypes_24 ?_
    refine x_geti (pc := 25) K (n := b + 2 + 11 * (ix (M.1 n 8))) (k := 9) (zlt (shBt hB hs9.2)) (shBt hB hs9.2) rfl rfl (by decide) (fun _ q => zmem (uw_T _ q)) (zmem lk_B_48) d_B_gatherSupertypes_25 ?_
    refine x_ior (pc := 28) K d_B_gatherSupertypes_28 ?_
    refine x_istore_n (pc := 29) K (lv' := [(2, .int ((1 <<< ((M.1 n 8) &&& 31)) ||| (M.1 (b + 2 + 11 * (ix (M.1 n 8))) 9))), (0, .ref (w.2.2 + b)), (1, .ref (w.2.2 + n))]) d_B_gatherSupertypes_29 (by decide) rfl ?_
    refine x_iconst (pc := 30) K (v := nI 0) d_B_gatherSupertypes_30 (by decide) ?_
    refine x_istore_n (pc := 31) K (lv' := [(3, .int (nI 0)), (2, .int ((1 <<< ((M.1 n 8) &&& 31)) ||| (M.1 (b + 2 + 11 * (ix (M.1 n 8))) 9))), (0, .ref (w.2.2 + b)), (1, .ref (w.2.2 + n))]) d_B_gatherSupertypes_31 (by decide) rfl ?_
    refine x_lv [0, 1, 2, 3] rfl ?_
    exact lp_B_gather l w M b hB o hR n hT hok hi12 _ K (cI M.1 n + 1) 0 _ (by omega) (by omega) (by rw [Nat.sub_zero, ← hg]; rfl)
/-- one type settled -/
def stS (M : fl_M) (b t : Nat) : fl_M := wI (wI M (b + 2 + 11 * t) 8 (if isC M.1 b (M.1 (b + 2 + 11 * t) 3) then M.1 (b + 2 + 11 * t) 3 else -1)) (b + 2 + 11 * t) 9 (gat (wI M (b + 2 + 11 * t) 8 (if isC M.1 b (M.1 (b + 2 + 11 * t) 3) then M.1 (b + 2 + 11 * t) 3 else -1)).1 b (b + 2 + 11 * t))
def stl (M : fl_M) (b : Nat) : Nat → Nat → fl_M
  | _, 0 => M
  | t, k + 1 => stl (stS M b t) b (t + 1) k
theorem neTt {a b : Nat} (h : zSh a = zsT) (h2 : zSh b = zsT) : a + 1 ≠ b := fun q => neTI h2 h q.symm
/-- only the settled words of types change -/
theorem bOk_w {M : fl_M} {b n k : Nat} {v : Int32} (hB : zSh b = zsB) (hT : zSh n = zsT) (hk : k = 8 ∨ k = 9) (h : bOk M.1 b) : bOk (wI M n k v).1 b := by
  intro t ht
  have hTt := shBt hB ht
  obtain ⟨⟨⟨a1, a2⟩, a3, a4⟩, a5, a6, a7⟩ := h t ht
  have e : ∀ j, j ≠ 8 → j ≠ 9 → (wI M n k v).1 (b + 2 + 11 * t) j = M.1 (b + 2 + 11 * t) j := fun j h1 h2 => rdI_ne (Or.inr (by omega))
  have e1 : ∀ j, (wI M n k v).1 (b + 2 + 11 * t + 1) j = M.1 (b + 2 + 11 * t + 1) j := fun j => rdI_ne (Or.inl (neTt hTt hT))
  refine ⟨⟨⟨?_, ?_⟩, ?_, ?_⟩, ?_, ?_, ?_⟩
  · unfold cI; rw [e 5 (by omega) (by omega)]; exact a1
  · unfold cI; rw [e 5 (by omega) (by omega)]; exact a2
  · unfold cM; rw [e 7 (by omega) (by omega)]; exact a3
  · unfold cM; rw [e 7 (by omega) (by omega)]; exact a4
  · rw [e 0 (by omega) (by omega)]; exact a5
  · intro i hi
    unfold cI at hi
    rw [e 5 (by omega) (by omega)] at hi
    rw [e1]
    exact a6 i hi
  · rw [e 3 (by omega) (by omega)]; exact a7
theorem tOk_w {M : fl_M} {n : Nat} {v : Int32} (h : tOk M.1 n) : tOk (wI M n 8 v).1 n := by
  unfold tOk cI cM
  rw [rdI_ne (Or.inr (by omega)), rdI_ne (Or.inr (by omega))]
  exact h
set_option maxHeartbeats 4000000 in
set_option maxRecDepth 100000 in
theorem lp_B_settle (l : Launch) (w : fl_W) (M : fl_M) (b : Nat) (hB : zSh b = zsB) (o : Nat) (Y : fl_M) {p9 : Program} {e9 : Env} {s9 : State} {m9 : MethodId} {ag9 : Array Value} {bl9 : List Frame} {mt9 : Method} {c9 : Code} (K : XC p9 s9 m9 ag9 mt9 c9 b_B_settle 2 none w_B_settle "CompatibilityJudge$Baseline" w) : ∀ (k : Nat) (i : Nat) (X : fl_M), i ≤ 12 → 12 + 1 ≤ i + k → zRf o X.2 → bOk X.1 b → stl X b i (12 - i) = Y → XW p9 l e9 (rm_B_settle) s9 m9 ag9 bl9 mt9 c9 2 0 0 (MQ bl9 (CQ w zN none Y) ag9 s9 0 0 (fun q : Nat => w.2.2 ≤ q)) w zN X 2 [(1, .int (nI i)), (0, .ref (w.2.2 + b))] [] := by
  intro k
  induction k with
  | zero =>
    intro i X hi hk
    exact absurd hk (by omega)
  | succ k ih =>
    intro i X hi hk hR hb hf
    refine x_iload_n (pc := 2) K 0 d_B_settle_2 rfl ?_
    refine x_bipush (pc := 3) K (v := nI 12) d_B_settle_3 (by decide) ?_
    refine x_icmp_ge (pc := 5) K (tgt := 71) d_B_settle_5 (by decide) (fun c5 => ?_) (fun c5 => ?_)
    · skip
      have hic : i = 12 := by have := (nI_leI (a := 12) (by omega) (by omega)).mp c5; omega
      rw [hic, Nat.sub_self] at hf
      exact x_vret (pc := 71) K rfl (by rw [← hf]; rfl) d_B_settle_71
    · skip
      have hic : i < 12 := Nat.not_le.mp (fun q => c5 (nI_le (a := 12) q (by omega)))
      rw [show 12 - i = (12 - (i + 1)) + 1 by omega, stl] at hf
      have hTi := shBt hB hic
      refine x_aload_n (pc := 8) K 1 d_B_settle_8 rfl ?_
      refine x_getr (pc := 9) K (n := b) (n' := b + 1) (k := 0) (zlt hB) hB rfl (hR.Ba hB) rfl (by decide) (fun _ q => zmem (uw_B _ q)) (zmem lk_B_11) d_B_settle_9 ?_
      refine x_iload_n (pc := 12) K 0 d_B_settle_12 rfl ?_
      refine x_aald (pc := 13) K (n := b + 1) (n' := b + 2 + 11 * i) (j := i) rfl (by omega) (hR.Bt hB (by omega)) (zlt (shBa hB)) (shBa hB) rfl (by decide) d_B_settle_13 ?_
      refine x_aload_n (pc := 14) K 1 d_B_settle_14 rfl ?_
      refine x_aload_n (pc := 15) K 1 d_B_settle_15 rfl ?_
      refine x_getr (pc := 16) K (n := b) (n' := b + 1) (k := 0) (zlt hB) hB rfl (hR.Ba hB) rfl (by decide) (fun _ q => zmem (uw_B _ q)) (zmem lk_B_11) d_B_settle_16 ?_
      refine x_iload_n (pc := 19) K 0 d_B_settle_19 rfl ?_
      refine x_aald (pc := 20) K (n := b + 1) (n' := b + 2 + 11 * i) (j := i) rfl (by omega) (hR.Bt hB (by omega)) (zlt (shBa hB)) (shBa hB) rfl (by decide) d_B_settle_20 ?_
      refine x_geti (pc := 21) K (n := b + 2 + 11 * i) (k := 3) (zlt (shBt hB (by omega))) (shBt hB (by omega)) rfl rfl (by decide) (fun _ q => zmem (uw_T _ q)) (zmem lk_B_34) d_B_settle_21 ?_
      refine x_callV (pc := 24) K (As := [.int (X.1 (b + 2 + 11 * i) 3)]) (rest := [.ref (w.2.2 + (b + 2 + 11 * i))]) (c_B_isClass l w X b hB o hR (X.1 (b + 2 + 11 * i) 3)) (zcwV K.ts lk_B_37 im_B_isClass se_B_isClass ii_B co_B_isClass pd_B_isClass ⟨rfl, rfl⟩ ⟨by decide, by decide⟩) (zlt hB) hB rfl rfl rfl (Nat.le_of_ble_eq_true rfl) ⟨Nat.zero_le _, Nat.zero_le _⟩ d_B_settle_24 ?_
      refine x_ifeqB (pc := 27) K (tgt := 42) d_B_settle_27 (by decide) (fun c27 => ?_) (fun c27 => ?_)
      · skip
        refine x_iconst (pc := 42) K (v := (-1)) d_B_settle_42 (by decide) ?_
        refine x_puti (pc := 43) K (n := b + 2 + 11 * i) (k := 8) (x := (-1)) uY_T tk_T nm_T (zlt (shBt hB (by omega))) (shBt hB (by omega)) rfl rfl (by decide) (fun _ q => zmem (uw_T _ q)) (zmem lk_B_41) rfl rfl rfl d_B_settle_43 ?_
        refine x_aload_n (pc := 46) K 1 d_B_settle_46 rfl ?_
        refine x_getr (pc := 47) K (n := b) (n' := b + 1) (k := 0) (zlt hB) hB rfl (hR.Ba hB) rfl (by decide) (fun _ q => zmem (uw_B _ q)) (zmem lk_B_11) d_B_settle_47 ?_
        refine x_iload_n (pc := 50) K 0 d_B_settle_50 rfl ?_
        refine x_aald (pc := 51) K (n := b + 1) (n' := b + 2 + 11 * i) (j := i) rfl (by omega) (hR.Bt hB (by omega)) (zlt (shBa hB)) (shBa hB) rfl (by decide) d_B_settle_51 ?_
        refine x_aload_n (pc := 52) K 1 d_B_settle_52 rfl ?_
        refine x_aload_n (pc := 53) K 1 d_B_settle_53 rfl ?_
        refine x_getr (pc := 54) K (n := b) (n' := b + 1) (k := 0) (zlt hB) hB rfl (hR.Ba hB) rfl (by decide) (fun _ q => zmem (uw_B _ q)) (zmem lk_B_11) d_B_settle_54 ?_
        refine x_iload_n (pc := 57) K 0 d_B_settle_57 rfl ?_
        refine x_aald (pc := 58) K (n := b + 1) (n' := b + 2 + 11 * i) (j := i) rfl (by omega) (hR.Bt hB (by omega)) (zlt (shBa hB)) (shBa hB) rfl (by decide) d_B_settle_58 ?_
        refine x_callV (pc := 59) K (As := [.ref (w.2.2 + (b + 2 + 11 * i))]) (rest := [.ref (w.2.2 + (b + 2 + 11 * i))]) (c_B_gatherSupertypes l w (wI X (b + 2 + 11 * i) 8 (-1)) b hB o hR (b + 2 + 11 * i) (shBt hB (by omega)) (tOk_w (hb i hic).1) (fun j hj => by rw [rdI_ne (Or.inl (neTt hTi hTi))]; exact inL_le ((hb i hic).2.2.1 j (by unfold cI at hj; rw [rdI_ne (Or.inr (by omega))] at hj; exact hj)) (by omega)) (by rw [rdI_eq]; exact Or.inl rfl)) (zcwV K.ts lk_B_44 im_B_gatherSupertypes se_B_gatherSupertypes ii_B co_B_gatherSupertypes pd_B_gatherSupertypes ⟨rfl, rfl⟩ ⟨by decide, by decide⟩) (zlt hB) hB rfl rfl rfl (Nat.le_of_ble_eq_true rfl) ⟨Nat.zero_le _, Nat.zero_le _⟩ d_B_settle_59 ?_
        refine x_puti (pc := 62) K (n := b + 2 + 11 * i) (k := 9) (x := gat (wI X (b + 2 + 11 * i) 8 (-1)).1 b (b + 2 + 11 * i)) uY_T tk_T nm_T (zlt (shBt hB (by omega))) (shBt hB (by omega)) rfl rfl (by decide) (fun _ q => zmem (uw_T _ q)) (zmem lk_B_48) rfl rfl rfl d_B_settle_62 ?_
        refine x_iinc (pc := 65) K (v := nI (i + 1)) (lv' := [(1, .int (nI (i + 1))), (0, .ref (w.2.2 + b))]) 0 d_B_settle_65 rfl (nI_1 _) (by decide) rfl ?_
        refine x_goto (pc := 68) K (tgt := 2) d_B_settle_68 (by decide) ?_
        rw [show stS X b i = wI (wI X (b + 2 + 11 * i) 8 (-1)) (b + 2 + 11 * i) 9 (gat (wI X (b + 2 + 11 * i) 8 (-1)).1 b (b + 2 + 11 * i)) from by unfold stS; rw [if_neg c27]] at hf
        exact ih (i + 1) _ (by omega) (by omega) hR (bOk_w hB hTi (Or.inr rfl) (bOk_w hB hTi (Or.inl rfl) hb)) hf
      · skip
        have hp9 := (hb i hic).2.2.2.resolve_left (fun q => by rw [q] at c27; exact absurd c27.1.1 (by decide))
        refine x_aload_n (pc := 30) K 1 d_B_settle_30 rfl ?_
        refine x_getr (pc := 31) K (n := b) (n' := b + 1) (k := 0) (zlt hB) hB rfl (hR.Ba hB) rfl (by decide) (fun _ q => zmem (uw_B _ q)) (zmem lk_B_11) d_B_settle_31 ?_
        refine x_iload_n (pc := 34) K 0 d_B_settle_34 rfl ?_
        refine x_aald (pc := 35) K (n := b + 1) (n' := b + 2 + 11 * i) (j := i) rfl (by omega) (hR.Bt hB (by omega)) (zlt (shBa hB)) (shBa hB) rfl (by decide) d_B_settle_35 ?_
        refine x_geti (pc := 36) K (n := b + 2 + 11 * i) (k := 3) (zlt (shBt hB (by omega))) (shBt hB (by omega)) rfl rfl (by decide) (fun _ q => zmem (uw_T _ q)) (zmem lk_B_34) d_B_settle_36 ?_
        refine x_goto (pc := 39) K (tgt := 43) d_B_settle_39 (by decide) ?_
        refine x_puti (pc := 43) K (n := b + 2 + 11 * i) (k := 8) (x := X.1 (b + 2 + 11 * i) 3) uY_T tk_T nm_T (zlt (shBt hB (by omega))) (shBt hB (by omega)) rfl rfl (by decide) (fun _ q => zmem (uw_T _ q)) (zmem lk_B_41) rfl rfl rfl d_B_settle_43 ?_
        refine x_aload_n (pc := 46) K 1 d_B_settle_46 rfl ?_
        refine x_getr (pc := 47) K (n := b) (n' := b + 1) (k := 0) (zlt hB) hB rfl (hR.Ba hB) rfl (by decide) (fun _ q => zmem (uw_B _ q)) (zmem lk_B_11) d_B_settle_47 ?_
        refine x_iload_n (pc := 50) K 0 d_B_settle_50 rfl ?_
        refine x_aald (pc := 51) K (n := b + 1) (n' := b + 2 + 11 * i) (j := i) rfl (by omega) (hR.Bt hB (by omega)) (zlt (shBa hB)) (shBa hB) rfl (by decide) d_B_settle_51 ?_
        refine x_aload_n (pc := 52) K 1 d_B_settle_52 rfl ?_
        refine x_aload_n (pc := 53) K 1 d_B_settle_53 rfl ?_
        refine x_getr (pc := 54) K (n := b) (n' := b + 1) (k := 0) (zlt hB) hB rfl (hR.Ba hB) rfl (by decide) (fun _ q => zmem (uw_B _ q)) (zmem lk_B_11) d_B_settle_54 ?_
        refine x_iload_n (pc := 57) K 0 d_B_settle_57 rfl ?_
        refine x_aald (pc := 58) K (n := b + 1) (n' := b + 2 + 11 * i) (j := i) rfl (by omega) (hR.Bt hB (by omega)) (zlt (shBa hB)) (shBa hB) rfl (by decide) d_B_settle_58 ?_
        refine x_callV (pc := 59) K (As := [.ref (w.2.2 + (b + 2 + 11 * i))]) (rest := [.ref (w.2.2 + (b + 2 + 11 * i))]) (c_B_gatherSupertypes l w (wI X (b + 2 + 11 * i) 8 (X.1 (b + 2 + 11 * i) 3)) b hB o hR (b + 2 + 11 * i) (shBt hB (by omega)) (tOk_w (hb i hic).1) (fun j hj => by rw [rdI_ne (Or.inl (neTt hTi hTi))]; exact inL_le ((hb i hic).2.2.1 j (by unfold cI at hj; rw [rdI_ne (Or.inr (by omega))] at hj; exact hj)) (by omega)) (by rw [rdI_eq]; exact Or.inr (inL_le hp9 (by omega)))) (zcwV K.ts lk_B_44 im_B_gatherSupertypes se_B_gatherSupertypes ii_B co_B_gatherSupertypes pd_B_gatherSupertypes ⟨rfl, rfl⟩ ⟨by decide, by decide⟩) (zlt hB) hB rfl rfl rfl (Nat.le_of_ble_eq_true rfl) ⟨Nat.zero_le _, Nat.zero_le _⟩ d_B_settle_59 ?_
        refine x_puti (pc := 62) K (n := b + 2 + 11 * i) (k := 9) (x := gat (wI X (b + 2 + 11 * i) 8 (X.1 (b + 2 + 11 * i) 3)).1 b (b + 2 + 11 * i)) uY_T tk_T nm_T (zlt (shBt hB (by omega))) (shBt hB (by omega)) rfl rfl (by decide) (fun _ q => zmem (uw_T _ q)) (zmem lk_B_48) rfl rfl rfl d_B_settle_62 ?_
        refine x_iinc (pc := 65) K (v := nI (i + 1)) (lv' := [(1, .int (nI (i + 1))), (0, .ref (w.2.2 + b))]) 0 d_B_settle_65 rfl (nI_1 _) (by decide) rfl ?_
        refine x_goto (pc := 68) K (tgt := 2) d_B_settle_68 (by decide) ?_
        rw [show stS X b i = wI (wI X (b + 2 + 11 * i) 8 (X.1 (b + 2 + 11 * i) 3)) (b + 2 + 11 * i) 9 (gat (wI X (b + 2 + 11 * i) 8 (X.1 (b + 2 + 11 * i) 3)).1 b (b + 2 + 11 * i)) from by unfold stS; rw [if_pos c27]] at hf
        exact ih (i + 1) _ (by omega) (by omega) hR (bOk_w hB hTi (Or.inr rfl) (bOk_w hB hTi (Or.inl rfl) hb)) hf
set_option maxHeartbeats 4000000 in
set_option maxRecDepth 100000 in
theorem c_B_settle (l : Launch) (w : fl_W) (M : fl_M) (b : Nat) (hB : zSh b = zsB) (o : Nat) (hR : zRf o M.2) (hb : bOk M.1 b) : CT l y_B_settle w_B_settle rm_B_settle w zN [.ref (w.2.2 + b)] M none (stl M b 0 12) := by
  refine CT.of (cc := b_B_settle) (own := "CompatibilityJudge$Baseline") (by decide) rfl rfl (Nat.le_of_ble_eq_true rfl) ?_
  intro p9 e9 s9 m9 ag9 bl9 mt9 c9 K
  show XW p9 l e9 (rm_B_settle) s9 m9 ag9 bl9 mt9 c9 2 0 0 (MQ bl9 (CQ w zN none (stl M b 0 12)) ag9 s9 0 0 (fun q : Nat => w.2.2 ≤ q)) w zN M 0 [(0, .ref (w.2.2 + b))] []
  refine x_iconst (pc := 0) K (v := nI 0) d_B_settle_0 (by decide) ?_
  refine x_istore_n (pc := 1) K (lv' := [(1, .int (nI 0)), (0, .ref (w.2.2 + b))]) d_B_settle_1 (by decide) rfl ?_
  exact lp_B_settle l w M b hB o _ K 13 0 M (by omega) (by omega) hR hb rfl
end
section
theorem bOk_congr {μ μ' : Nat → Nat → Int32} {b : Nat} (e : ∀ t, t < 12 → ∀ k, k ≠ 8 → k ≠ 9 → μ' (b + 2 + 11 * t) k = μ (b + 2 + 11 * t) k) (e1 : ∀ t, t < 12 → ∀ k, μ' (b + 2 + 11 * t + 1) k = μ (b + 2 + 11 * t + 1) k) (h : bOk μ b) : bOk μ' b := by
  intro t ht
  obtain ⟨⟨⟨a1, a2⟩, a3, a4⟩, a5, a6, a7⟩ := h t ht
  refine ⟨⟨⟨?_, ?_⟩, ?_, ?_⟩, ?_, ?_, ?_⟩
  · unfold cI; rw [e t ht 5 (by omega) (by omega)]; exact a1
  · unfold cI; rw [e t ht 5 (by omega) (by omega)]; exact a2
  · unfold cM; rw [e t ht 7 (by omega) (by omega)]; exact a3
  · unfold cM; rw [e t ht 7 (by omega) (by omega)]; exact a4
  · rw [e t ht 0 (by omega) (by omega)]; exact a5
  · intro i hi
    unfold cI at hi
    rw [e t ht 5 (by omega) (by omega)] at hi
    rw [e1 t ht]
    exact a6 i hi
  · rw [e t ht 3 (by omega) (by omega)]; exact a7
theorem bSk_congr {μ μ' : Nat → Nat → Int32} {b : Nat} (e : ∀ t, t < 12 → μ' (b + 2 + 11 * t) 8 = μ (b + 2 + 11 * t) 8) (h : bSk μ b) : bSk μ' b := by
  intro t ht
  unfold bSc
  rw [e t ht]
  exact h t ht
theorem tbl_out {n n2 : Nat} : ∀ (k i : Nat) (M : fl_M) (a j : Nat), i + k ≤ 8 → (a < n ∨ n + 11 ≤ a) → (tbl M n n2 i k).1 a j = M.1 a j := by
  intro k
  induction k with
  | zero => intro i M a j _ _; rfl
  | succ k ih =>
    intro i M a j h1 h2
    rw [tbl, ih (i + 1) _ a j (by omega) h2, mCp_rd, if_neg (by omega)]
theorem tBec_out {M : fl_M} {n n2 a j : Nat} (h8 : cM M.1 n2 ≤ 8) (h : a < n ∨ n + 11 ≤ a) : (tBec M n n2).1 a j = M.1 a j := by
  have hn : a ≠ n := by omega
  have hn1 : a ≠ n + 1 := by omega
  unfold tBec tBc3
  simp only [mCp1]
  rw [rdI_ne (Or.inl hn), rdI_ne (Or.inl hn), rdI_ne (Or.inl hn), tbl_out _ _ _ _ _ (by omega) h, tBc2_rd hn hn1]
theorem zM3_tbl {n n2 : Nat} (hT2 : zSh n2 = zsT) : ∀ (k i : Nat) (M : fl_M), i + k ≤ 8 → zM3 M.1 → zM3 (tbl M n n2 i k).1 := by
  intro k
  induction k with
  | zero => intro i M _ h; exact h
  | succ k ih =>
    intro i M h1 h
    rw [tbl]
    exact ih (i + 1) _ (by omega) (zM3_cp h (shTm hT2 (by omega)))
theorem zM3_bec {M : fl_M} {n n2 : Nat} (hT : zSh n = zsT) (hT2 : zSh n2 = zsT) (h8 : cM M.1 n2 ≤ 8) (h : zM3 M.1) : zM3 (tBec M n n2).1 := by
  have h0 : zM3 (tBc2 M n n2).1 := fun a ha => by rw [tBc2_rd (fun q => neTM hT ha q.symm) (neMI ha hT)]; exact h a ha
  intro a ha
  have hn : a ≠ n := fun q => neTM hT ha q.symm
  unfold tBec tBc3
  simp only [mCp1]
  rw [rdI_ne (Or.inl hn), rdI_ne (Or.inl hn), rdI_ne (Or.inl hn)]
  exact zM3_tbl hT2 _ 0 _ (by omega) h0 a ha
theorem tbl_2 {n n2 : Nat} : ∀ (k i : Nat) (M : fl_M), (tbl M n n2 i k).2 = M.2 := by
  intro k
  induction k with
  | zero => intro i M; rfl
  | succ k ih => intro i M; rw [tbl, ih]; rfl
theorem tBec_2 {M : fl_M} {n n2 : Nat} : (tBec M n n2).2 = M.2 := by
  show (tbl (tBc2 M n n2) n n2 0 (cM M.1 n2)).2 = M.2
  rw [tbl_2]; rfl
theorem tko_2 {n : Nat} : ∀ (k i : Nat) (M : fl_M), (tko M n i k).2 = M.2 := by
  intro k
  induction k with
  | zero => intro i M; rfl
  | succ k ih => intro i M; rw [tko, ih]; rfl
theorem stl_2 {b : Nat} : ∀ (k i : Nat) (M : fl_M), (stl M b i k).2 = M.2 := by
  intro k
  induction k with
  | zero => intro i M; rfl
  | succ k ih => intro i M; rw [stl, ih]; rfl
def bec (M : fl_M) (b b2 : Nat) : Nat → Nat → fl_M
  | _, 0 => M
  | t, k + 1 => bec (tBec M (b + 2 + 11 * t) (b2 + 2 + 11 * t)) b b2 (t + 1) k
theorem bl_apart {b b2 t u : Nat} (hB : zSh b = zsB) (hB2 : zSh b2 = zsB) (hne : b ≠ b2) (ht : t < 12) (hu : u < 12) : b2 + 2 + 11 * u + 11 ≤ b + 2 + 11 * t ∨ b + 2 + 11 * t + 11 ≤ b2 + 2 + 11 * u := by
  rcases shB2 hB with rfl | rfl <;> rcases shB2 hB2 with rfl | rfl <;> omega
set_option maxHeartbeats 4000000 in
set_option maxRecDepth 100000 in
theorem lp_B_become (l : Launch) (w : fl_W) (M : fl_M) (b b2 : Nat) (hB : zSh b = zsB) (hB2 : zSh b2 = zsB) (hne : b ≠ b2) (o : Nat) (Y : fl_M) {p9 : Program} {e9 : Env} {s9 : State} {m9 : MethodId} {ag9 : Array Value} {bl9 : List Frame} {mt9 : Method} {c9 : Code} (K : XC p9 s9 m9 ag9 mt9 c9 b_B_become 3 none w_B_become "CompatibilityJudge$Baseline" w) : ∀ (k : Nat) (i : Nat) (X : fl_M), i ≤ 12 → 12 + 1 ≤ i + k → zRf o X.2 → bOk X.1 b2 → zM3 X.1 → bec X b b2 i (12 - i) = Y → XW p9 l e9 (rm_B_become) s9 m9 ag9 bl9 mt9 c9 3 0 0 (MQ bl9 (CQ w zN none Y) ag9 s9 0 0 (fun q : Nat => w.2.2 ≤ q)) w zN X 2 [(2, .int (nI i)), (0, .ref (w.2.2 + b)), (1, .ref (w.2.2 + b2))] [] := by
  intro k
  induction k with
  | zero =>
    intro i X hi hk
    exact absurd hk (by omega)
  | succ k ih =>
    intro i X hi hk hR hb hz hf
    refine x_iload_n (pc := 2) K 0 d_B_become_2 rfl ?_
    refine x_bipush (pc := 3) K (v := nI 12) d_B_become_3 (by decide) ?_
    refine x_icmp_ge (pc := 5) K (tgt := 29) d_B_become_5 (by decide) (fun c5 => ?_) (fun c5 => ?_)
    · skip
      have hic : i = 12 := by have := (nI_leI (a := 12) (by omega) (by omega)).mp c5; omega
      rw [hic, Nat.sub_self] at hf
      exact x_vret (pc := 29) K rfl (by rw [← hf]; rfl) d_B_become_29
    · skip
      have hic : i < 12 := Nat.not_le.mp (fun q => c5 (nI_le (a := 12) q (by omega)))
      rw [show 12 - i = (12 - (i + 1)) + 1 by omega, bec] at hf
      have ha := fun u hu => bl_apart hB hB2 hne hic (u := u) hu
      have hne9 : b + 2 + 11 * i ≠ b2 + 2 + 11 * i := by have := ha i hic; omega
      have hm8 := (hb i hic).1.2.2
      refine x_aload_n (pc := 8) K 1 d_B_become_8 rfl ?_
      refine x_getr (pc := 9) K (n := b) (n' := b + 1) (k := 0) (zlt hB) hB rfl (hR.Ba hB) rfl (by decide) (fun _ q => zmem (uw_B _ q)) (zmem lk_B_11) d_B_become_9 ?_
      refine x_iload_n (pc := 12) K 0 d_B_become_12 rfl ?_
      refine x_aald (pc := 13) K (n := b + 1) (n' := b + 2 + 11 * i) (j := i) rfl (by omega) (hR.Bt hB (by omega)) (zlt (shBa hB)) (shBa hB) rfl (by decide) d_B_become_13 ?_
      refine x_aload_n (pc := 14) K 2 d_B_become_14 rfl ?_
      refine x_getr (pc := 15) K (n := b2) (n' := b2 + 1) (k := 0) (zlt hB2) hB2 rfl (hR.Ba hB2) rfl (by decide) (fun _ q => zmem (uw_B _ q)) (zmem lk_B_11) d_B_become_15 ?_
      refine x_iload_n (pc := 18) K 0 d_B_become_18 rfl ?_
      refine x_aald (pc := 19) K (n := b2 + 1) (n' := b2 + 2 + 11 * i) (j := i) rfl (by omega) (hR.Bt hB2 (by omega)) (zlt (shBa hB2)) (shBa hB2) rfl (by decide) d_B_become_19 ?_
      refine x_callVv (pc := 20) K (As := [.ref (w.2.2 + (b2 + 2 + 11 * i))]) (rest := []) (c_T_become l w X (b + 2 + 11 * i) (b2 + 2 + 11 * i) (shBt hB (by omega)) (shBt hB2 (by omega)) hne9 o hR (hb i hic).1.2.1 hm8 hz (hb i hic).2.1) (zcwV K.ts lk_B_22 im_T_become se_T_become ii_T co_T_become pd_T_become ⟨rfl, rfl⟩ ⟨by decide, by decide⟩) (zlt (shBt hB (by omega))) (shBt hB (by omega)) rfl rfl rfl (Nat.le_of_ble_eq_true rfl) ⟨Nat.zero_le _, Nat.zero_le _⟩ d_B_become_20 ?_
      refine x_iinc (pc := 23) K (v := nI (i + 1)) (lv' := [(2, .int (nI (i + 1))), (0, .ref (w.2.2 + b)), (1, .ref (w.2.2 + b2))]) 0 d_B_become_23 rfl (nI_1 _) (by decide) rfl ?_
      refine x_goto (pc := 26) K (tgt := 2) d_B_become_26 (by decide) ?_
      exact ih (i + 1) _ (by omega) (by omega) (by rw [tBec_2]; exact hR) (bOk_congr (fun u hu k _ _ => tBec_out hm8 (by have := ha u hu; omega)) (fun u hu k => tBec_out hm8 (by have := ha u hu; omega)) hb) (zM3_bec (shBt hB hic) (shBt hB2 hic) hm8 hz) hf
set_option maxHeartbeats 4000000 in
set_option maxRecDepth 100000 in
theorem c_B_become (l : Launch) (w : fl_W) (M : fl_M) (b b2 : Nat) (hB : zSh b = zsB) (hB2 : zSh b2 = zsB) (hne : b ≠ b2) (o : Nat) (hR : zRf o M.2) (hb : bOk M.1 b2) (hz : zM3 M.1) : CT l y_B_become w_B_become rm_B_become w zN [.ref (w.2.2 + b), .ref (w.2.2 + b2)] M none (bec M b b2 0 12) := by
  refine CT.of (cc := b_B_become) (own := "CompatibilityJudge$Baseline") (by decide) rfl rfl (Nat.le_of_ble_eq_true rfl) ?_
  intro p9 e9 s9 m9 ag9 bl9 mt9 c9 K
  show XW p9 l e9 (rm_B_become) s9 m9 ag9 bl9 mt9 c9 3 0 0 (MQ bl9 (CQ w zN none (bec M b b2 0 12)) ag9 s9 0 0 (fun q : Nat => w.2.2 ≤ q)) w zN M 0 [(0, .ref (w.2.2 + b)), (1, .ref (w.2.2 + b2))] []
  refine x_iconst (pc := 0) K (v := nI 0) d_B_become_0 (by decide) ?_
  refine x_istore_n (pc := 1) K (lv' := [(2, .int (nI 0)), (0, .ref (w.2.2 + b)), (1, .ref (w.2.2 + b2))]) d_B_become_1 (by decide) rfl ?_
  exact lp_B_become l w M b b2 hB hB2 hne o _ K 13 0 M (by omega) (by omega) hR hb hz rfl
/-- of the interfaces from i on the first that counts and leads to an owner -/
def fol (μ : Nat → Nat → Int32) (b n : Nat) : Nat → Nat → Option Int32
  | _, 0 => none
  | i, k + 1 => if isI μ b (μ (n + 1) i) ∧ ¬ μ (b + 134) (ix (μ (n + 1) i)) = 12 then some (μ (b + 134) (ix (μ (n + 1) i))) else fol μ b n (i + 1) k
def foz (μ : Nat → Nat → Int32) (b n : Nat) (F : Option Int32) : Int32 := match F with
  | some v => v
  | none => if μ n 8 = -1 then 12 else μ (b + 134) (ix (μ n 8))
def fof (μ : Nat → Nat → Int32) (b t : Nat) (key : Int32) : Int32 := if tOwn μ (b + 2 + 11 * t) 0 key = none then foz μ b (b + 2 + 11 * t) (fol μ b (b + 2 + 11 * t) 0 (cI μ (b + 2 + 11 * t))) else nI t
set_option maxHeartbeats 4000000 in
set_option maxRecDepth 100000 in
theorem lp_B_fieldOwnerFor (l : Launch) (w : fl_W) (M : fl_M) (b : Nat) (hB : zSh b = zsB) (o : Nat) (hR : zRf o M.2) (hb : bOk M.1 b) (hs : bSk M.1 b) (t : Nat) (ht : t < 12) (key : Int32) (F : Option Int32) {p9 : Program} {e9 : Env} {s9 : State} {m9 : MethodId} {ag9 : Array Value} {bl9 : List Frame} {mt9 : Method} {c9 : Code} (K : XC p9 s9 m9 ag9 mt9 c9 b_B_fieldOwnerFor 6 (some .int) w_B_fieldOwnerFor "CompatibilityJudge$Baseline" w) : ∀ (k : Nat) (i : Nat), i ≤ cI M.1 (b + 2 + 11 * t) → cI M.1 (b + 2 + 11 * t) + 1 ≤ i + k → fol M.1 b (b + 2 + 11 * t) i (cI M.1 (b + 2 + 11 * t) - i) = F → XW p9 l e9 (rm_B_fieldOwnerFor) s9 m9 ag9 bl9 mt9 c9 6 0 0 (MQ bl9 (CQ w zN (some (.int (foz M.1 b (b + 2 + 11 * t) F))) M) ag9 s9 0 0 (fun q : Nat => w.2.2 ≤ q)) w zN M 21 [(4, .int (nI i)), (3, .ref (w.2.2 + (b + 2 + 11 * t))), (0, .ref (w.2.2 + b)), (1, .int (nI t)), (2, .int key)] [] := by
  have h3 := (hb t ht).1.1.2
  intro k
  induction k with
  | zero =>
    intro i hi hk
    exact absurd hk (by omega)
  | succ k ih =>
    intro i hi hk hf
    refine x_iload (pc := 21) K 0 d_B_fieldOwnerFor_21 rfl ?_
    refine x_aload_n (pc := 23) K 1 d_B_fieldOwnerFor_23 rfl ?_
    refine x_geti (pc := 24) K (n := b + 2 + 11 * t) (k := 5) (zlt (shBt hB ht)) (shBt hB ht) rfl rfl (by decide) (fun _ q => zmem (uw_T _ q)) (zmem lk_B_51) d_B_fieldOwnerFor_24 ?_
    refine x_eqi (y := nI (cI M.1 (b + 2 + 11 * t))) ((hb t ht).1.1.1) ?_
    refine x_icmp_ge (pc := 27) K (tgt := 74) d_B_fieldOwnerFor_27 (by decide) (fun c27 => ?_) (fun c27 => ?_)
    · skip
      have hic : i = cI M.1 (b + 2 + 11 * t) := by have := (nI_leI (by omega) (by omega)).mp c27; omega
      rw [hic, Nat.sub_self] at hf
      refine x_aload_n (pc := 74) K 1 d_B_fieldOwnerFor_74 rfl ?_
      refine x_geti (pc := 75) K (n := b + 2 + 11 * t) (k := 8) (zlt (shBt hB ht)) (shBt hB ht) rfl rfl (by decide) (fun _ q => zmem (uw_T _ q)) (zmem lk_B_41) d_B_fieldOwnerFor_75 ?_
      refine x_iconst (pc := 78) K (v := (-1)) d_B_fieldOwnerFor_78 (by decide) ?_
      refine x_icmp_ne (pc := 79) K (tgt := 87) d_B_fieldOwnerFor_79 (by decide) (fun c79 => ?_) (fun c79 => ?_)
      · skip
        have hs9 := inL_le ((hs t ht).resolve_left c79) (show t ≤ 12 by omega)
        refine x_aload_n (pc := 87) K 2 d_B_fieldOwnerFor_87 rfl ?_
        refine x_getr (pc := 88) K (n := b) (n' := b + 134) (k := 1) (zlt hB) hB rfl (hR.Bf hB) rfl (by decide) (fun _ q => zmem (uw_B _ q)) (zmem lk_B_18) d_B_fieldOwnerFor_88 ?_
        refine x_aload_n (pc := 91) K 1 d_B_fieldOwnerFor_91 rfl ?_
        refine x_geti (pc := 92) K (n := b + 2 + 11 * t) (k := 8) (zlt (shBt hB ht)) (shBt hB ht) rfl rfl (by decide) (fun _ q => zmem (uw_T _ q)) (zmem lk_B_41) d_B_fieldOwnerFor_92 ?_
        refine x_iald (pc := 95) K (n := b + 134) (j := ix (M.1 (b + 2 + 11 * t) 8)) hs9.1 hs9.2 (zlt (shBf hB)) (shBf hB) rfl (by decide) d_B_fieldOwnerFor_95 ?_
        exact x_iret (pc := 96) K (by rw [← hf]; exact congrArg (fun z => some (Value.int z)) (if_neg c79).symm) rfl d_B_fieldOwnerFor_96
      · skip
        refine x_bipush (pc := 82) K (v := 12) d_B_fieldOwnerFor_82 (by decide) ?_
        refine x_goto (pc := 84) K (tgt := 96) d_B_fieldOwnerFor_84 (by decide) ?_
        exact x_iret (pc := 96) K (by rw [← hf]; exact congrArg (fun z => some (Value.int z)) (if_pos c79).symm) rfl d_B_fieldOwnerFor_96
    · skip
      have hic : i < cI M.1 (b + 2 + 11 * t) := Nat.not_le.mp (fun q => c27 (nI_le q (by omega)))
      rw [show cI M.1 (b + 2 + 11 * t) - i = (cI M.1 (b + 2 + 11 * t) - (i + 1)) + 1 by omega, fol] at hf
      have hx := inL_le ((hb t ht).2.2.1 i hic) (show t ≤ 12 by omega)
      refine x_aload_n (pc := 30) K 1 d_B_fieldOwnerFor_30 rfl ?_
      refine x_getr (pc := 31) K (n := b + 2 + 11 * t) (n' := (b + 2 + 11 * t) + 1) (k := 4) (zlt (shBt hB ht)) (shBt hB ht) rfl (hR.Ti (shBt hB ht)) rfl (by decide) (fun _ q => zmem (uw_T _ q)) (zmem lk_B_54) d_B_fieldOwnerFor_31 ?_
      refine x_iload (pc := 34) K 0 d_B_fieldOwnerFor_34 rfl ?_
      refine x_iald (pc := 36) K (n := (b + 2 + 11 * t) + 1) (j := i) rfl (by omega) (zlt (shTi (shBt hB ht))) (shTi (shBt hB ht)) rfl (by decide) d_B_fieldOwnerFor_36 ?_
      refine x_istore (pc := 37) K (lv' := [(5, .int (M.1 ((b + 2 + 11 * t) + 1) i)), (4, .int (nI i)), (3, .ref (w.2.2 + (b + 2 + 11 * t))), (0, .ref (w.2.2 + b)), (1, .int (nI t)), (2, .int key)]) d_B_fieldOwnerFor_37 (by decide) rfl ?_
      refine x_aload_n (pc := 39) K 3 d_B_fieldOwnerFor_39 rfl ?_
      refine x_iload (pc := 40) K 0 d_B_fieldOwnerFor_40 rfl ?_
      refine x_callV (pc := 42) K (As := [.int (M.1 ((b + 2 + 11 * t) + 1) i)]) (rest := []) (c_B_isInterface l w M b hB o hR (M.1 ((b + 2 + 11 * t) + 1) i) hx) (zcwV K.ts lk_B_57 im_B_isInterface se_B_isInterface ii_B co_B_isInterface pd_B_isInterface ⟨rfl, rfl⟩ ⟨by decide, by decide⟩) (zlt hB) hB rfl rfl rfl (Nat.le_of_ble_eq_true rfl) ⟨Nat.zero_le _, Nat.zero_le _⟩ d_B_fieldOwnerFor_42 ?_
      refine x_ifeqB (pc := 45) K (tgt := 68) d_B_fieldOwnerFor_45 (by decide) (fun c45 => ?_) (fun c45 => ?_)
      · skip
        rw [if_neg (fun q => c45 q.1)] at hf
        refine x_iinc (pc := 68) K (v := nI (i + 1)) (lv' := [(4, .int (nI (i + 1))), (5, .int (M.1 ((b + 2 + 11 * t) + 1) i)), (3, .ref (w.2.2 + (b + 2 + 11 * t))), (0, .ref (w.2.2 + b)), (1, .int (nI t)), (2, .int key)]) 1 d_B_fieldOwnerFor_68 rfl (nI_1 _) (by decide) rfl ?_
        refine x_goto (pc := 71) K (tgt := 21) d_B_fieldOwnerFor_71 (by decide) ?_
        refine x_lv [0, 2, 3, 4, 5] rfl ?_
        exact ih (i + 1) (by omega) (by omega) hf
      · skip
        refine x_aload_n (pc := 48) K 3 d_B_fieldOwnerFor_48 rfl ?_
        refine x_getr (pc := 49) K (n := b) (n' := b + 134) (k := 1) (zlt hB) hB rfl (hR.Bf hB) rfl (by decide) (fun _ q => zmem (uw_B _ q)) (zmem lk_B_18) d_B_fieldOwnerFor_49 ?_
        refine x_iload (pc := 52) K 0 d_B_fieldOwnerFor_52 rfl ?_
        refine x_iald (pc := 54) K (n := b + 134) (j := ix (M.1 (b + 2 + 11 * t + 1) i)) hx.1 hx.2 (zlt (shBf hB)) (shBf hB) rfl (by decide) d_B_fieldOwnerFor_54 ?_
        refine x_bipush (pc := 55) K (v := 12) d_B_fieldOwnerFor_55 (by decide) ?_
        refine x_icmp_eq (pc := 57) K (tgt := 68) d_B_fieldOwnerFor_57 (by decide) (fun c57 => ?_) (fun c57 => ?_)
        · skip
          rw [if_neg (fun q => q.2 c57)] at hf
          refine x_iinc (pc := 68) K (v := nI (i + 1)) (lv' := [(4, .int (nI (i + 1))), (5, .int (M.1 ((b + 2 + 11 * t) + 1) i)), (3, .ref (w.2.2 + (b + 2 + 11 * t))), (0, .ref (w.2.2 + b)), (1, .int (nI t)), (2, .int key)]) 1 d_B_fieldOwnerFor_68 rfl (nI_1 _) (by decide) rfl ?_
          refine x_goto (pc := 71) K (tgt := 21) d_B_fieldOwnerFor_71 (by decide) ?_
          refine x_lv [0, 2, 3, 4, 5] rfl ?_
          exact ih (i + 1) (by omega) (by omega) hf
        · skip
          rw [if_pos ⟨c45, c57⟩] at hf
          refine x_aload_n (pc := 60) K 3 d_B_fieldOwnerFor_60 rfl ?_
          refine x_getr (pc := 61) K (n := b) (n' := b + 134) (k := 1) (zlt hB) hB rfl (hR.Bf hB) rfl (by decide) (fun _ q => zmem (uw_B _ q)) (zmem lk_B_18) d_B_fieldOwnerFor_61 ?_
          refine x_iload (pc := 64) K 0 d_B_fieldOwnerFor_64 rfl ?_
          refine x_iald (pc := 66) K (n := b + 134) (j := ix (M.1 (b + 2 + 11 * t + 1) i)) hx.1 hx.2 (zlt (shBf hB)) (shBf hB) rfl (by decide) d_B_fieldOwnerFor_66 ?_
          exact x_iret (pc := 67) K (by rw [← hf]; rfl) rfl d_B_fieldOwnerFor_67
set_option maxHeartbeats 4000000 in
set_option maxRecDepth 100000 in
theorem c_B_fieldOwnerFor (l : Launch) (w : fl_W) (M : fl_M) (b : Nat) (hB : zSh b = zsB) (o : Nat) (hR : zRf o M.2) (hb : bOk M.1 b) (hs : bSk M.1 b) (t : Nat) (ht : t < 12) (key : Int32)  : CT l y_B_fieldOwnerFor w_B_fieldOwnerFor rm_B_fieldOwnerFor w zN [.ref (w.2.2 + b), .int (nI t), .int key] M (some (.int (fof M.1 b t key))) M := by
  refine CT.of (cc := b_B_fieldOwnerFor) (own := "CompatibilityJudge$Baseline") (by decide) rfl rfl (Nat.le_of_ble_eq_true rfl) ?_
  intro p9 e9 s9 m9 ag9 bl9 mt9 c9 K
  show XW p9 l e9 (rm_B_fieldOwnerFor) s9 m9 ag9 bl9 mt9 c9 6 0 0 (MQ bl9 (CQ w zN (some (.int (fof M.1 b t key))) M) ag9 s9 0 0 (fun q : Nat => w.2.2 ≤ q)) w zN M 0 [(0, .ref (w.2.2 + b)), (1, .int (nI t)), (2, .int key)] []
  refine x_aload_n (pc := 0) K 0 d_B_fieldOwnerFor_0 rfl ?_
  refine x_getr (pc := 1) K (n := b) (n' := b + 1) (k := 0) (zlt hB) hB rfl (hR.Ba hB) rfl (by decide) (fun _ q => zmem (uw_B _ q)) (zmem lk_B_11) d_B_fieldOwnerFor_1 ?_
  refine x_iload_n (pc := 4) K 1 d_B_fieldOwnerFor_4 rfl ?_
  refine x_aald (pc := 5) K (n := b + 1) (n' := b + 2 + 11 * t) (j := t) rfl (by omega) (hR.Bt hB (by omega)) (zlt (shBa hB)) (shBa hB) rfl (by decide) d_B_fieldOwnerFor_5 ?_
  refine x_astore_n (pc := 6) K (lv' := [(3, .ref (w.2.2 + (b + 2 + 11 * t))), (0, .ref (w.2.2 + b)), (1, .int (nI t)), (2, .int key)]) d_B_fieldOwnerFor_6 (by decide) rfl ?_
  refine x_aload_n (pc := 7) K 0 d_B_fieldOwnerFor_7 rfl ?_
  refine x_iconst (pc := 8) K (v := 0) d_B_fieldOwnerFor_8 (by decide) ?_
  refine x_iload_n (pc := 9) K 3 d_B_fieldOwnerFor_9 rfl ?_
  refine x_callV (pc := 10) K (As := [.int 0, .int key]) (rest := []) (c_T_own l w M (b + 2 + 11 * t) (shBt hB (by omega)) o hR (hb t (by omega)).1 0 key) (zcwV K.ts lk_B_74 im_T_own se_T_own ii_T co_T_own pd_T_own ⟨rfl, rfl⟩ ⟨by decide, by decide⟩) (zlt (shBt hB (by omega))) (shBt hB (by omega)) rfl rfl rfl (Nat.le_of_ble_eq_true rfl) ⟨Nat.zero_le _, Nat.zero_le _⟩ d_B_fieldOwnerFor_10 ?_
  refine x_opt (n := b + 2 + 11 * t) (F := tOwn M.1 (b + 2 + 11 * t) 0 key) (fun ho10 => ?_) (fun j10 ho10 => ?_)
  · skip
    refine x_ifnullN (pc := 13) K (tgt := 18) d_B_fieldOwnerFor_13 (by decide) ?_
    refine x_iconst (pc := 18) K (v := nI 0) d_B_fieldOwnerFor_18 (by decide) ?_
    refine x_istore (pc := 19) K (lv' := [(4, .int (nI 0)), (3, .ref (w.2.2 + (b + 2 + 11 * t))), (0, .ref (w.2.2 + b)), (1, .int (nI t)), (2, .int key)]) d_B_fieldOwnerFor_19 (by decide) rfl ?_
    refine x_lv [0, 1, 2, 3, 4] rfl ?_
    rw [show fof M.1 b t key = foz M.1 b (b + 2 + 11 * t) (fol M.1 b (b + 2 + 11 * t) 0 (cI M.1 (b + 2 + 11 * t))) from if_pos ho10]
    exact lp_B_fieldOwnerFor l w M b hB o hR hb hs t ht key _ K (cI M.1 (b + 2 + 11 * t) + 1) 0 (by omega) (by omega) (by rw [Nat.sub_zero])
  · skip
    have hj10 : j10 < 8 := by have := (fnd_lt ho10).2.1; have := (hb t (by omega)).1.2.2; omega
    refine x_ifnull (pc := 13) K d_B_fieldOwnerFor_13 ?_
    refine x_iload_n (pc := 16) K 2 d_B_fieldOwnerFor_16 rfl ?_
    exact x_iret (pc := 17) K (by unfold fof; rw [if_neg (by rw [ho10]; exact fun q => nomatch q)]) rfl d_B_fieldOwnerFor_17
def cns (x t : Int32) : Prop := ¬ (x >>> (t &&& 31)) &&& 1 = 0
def wfl (M : fl_M) (b : Nat) (key set : Int32) : Nat → Nat → fl_M
  | _, 0 => M
  | t, k + 1 => wfl (if ¬ (set >>> (nI t &&& 31)) &&& 1 = 0 then wI M (b + 134) t (fof M.1 b t key) else M) b key set (t + 1) k
theorem wfl_2 {b : Nat} {key set : Int32} : ∀ (k i : Nat) (M : fl_M), (wfl M b key set i k).2 = M.2 := by
  intro k
  induction k with
  | zero => intro i M; rfl
  | succ k ih => intro i M; rw [wfl, ih]; split <;> rfl
theorem bec_2 {b b2 : Nat} : ∀ (k i : Nat) (M : fl_M), (bec M b b2 i k).2 = M.2 := by
  intro k
  induction k with
  | zero => intro i M; rfl
  | succ k ih => intro i M; rw [bec, ih, tBec_2]
theorem bOk_f {M : fl_M} {b t : Nat} {v : Int32} (h : bOk M.1 b) : bOk (wI M (b + 134) t v).1 b := bOk_congr (fun u hu k _ _ => rdI_ne (Or.inl (by omega))) (fun u hu k => rdI_ne (Or.inl (by omega))) h
theorem bSk_f {M : fl_M} {b t : Nat} {v : Int32} (h : bSk M.1 b) : bSk (wI M (b + 134) t v).1 b := bSk_congr (fun u hu => rdI_ne (Or.inl (by omega))) h
set_option maxHeartbeats 4000000 in
set_option maxRecDepth 100000 in
theorem lp_B_whereIsField (l : Launch) (w : fl_W) (M : fl_M) (b : Nat) (hB : zSh b = zsB) (o : Nat) (f : Nat) (hf12 : f < 12) (key set : Int32) (Y : fl_M) {p9 : Program} {e9 : Env} {s9 : State} {m9 : MethodId} {ag9 : Array Value} {bl9 : List Frame} {mt9 : Method} {c9 : Code} (K : XC p9 s9 m9 ag9 mt9 c9 b_B_whereIsField 5 (some .int) w_B_whereIsField "CompatibilityJudge$Baseline" w) : ∀ (k : Nat) (i : Nat) (X : fl_M), i ≤ f + 1 → f + 1 + 1 ≤ i + k → zRf o X.2 → bOk X.1 b → bSk X.1 b → wfl X b key set i (f + 1 - i) = Y → XW p9 l e9 (rm_B_whereIsField) s9 m9 ag9 bl9 mt9 c9 5 0 0 (MQ bl9 (CQ w zN (some (.int (Y.1 (b + 134) f))) Y) ag9 s9 0 0 (fun q : Nat => w.2.2 ≤ q)) w zN X 17 [(4, .int (nI i)), (3, .int set), (0, .ref (w.2.2 + b)), (1, .int (nI f)), (2, .int key)] [] := by
  intro k
  induction k with
  | zero =>
    intro i X hi hk
    exact absurd hk (by omega)
  | succ k ih =>
    intro i X hi hk hR hb hs hf
    refine x_iload (pc := 17) K 0 d_B_whereIsField_17 rfl ?_
    refine x_iload_n (pc := 19) K 3 d_B_whereIsField_19 rfl ?_
    refine x_icmp_gt (pc := 20) K (tgt := 52) d_B_whereIsField_20 (by decide) (fun c20 => ?_) (fun c20 => ?_)
    · skip
      have hic : i = f + 1 := by have := (nI_ltI (by omega) (by omega)).mp c20; omega
      rw [hic, Nat.sub_self] at hf
      refine x_aload_n (pc := 52) K 2 d_B_whereIsField_52 rfl ?_
      refine x_getr (pc := 53) K (n := b) (n' := b + 134) (k := 1) (zlt hB) hB rfl (hR.Bf hB) rfl (by decide) (fun _ q => zmem (uw_B _ q)) (zmem lk_B_18) d_B_whereIsField_53 ?_
      refine x_iload_n (pc := 56) K 3 d_B_whereIsField_56 rfl ?_
      refine x_iald (pc := 57) K (n := b + 134) (j := f) rfl (by omega) (zlt (shBf hB)) (shBf hB) rfl (by decide) d_B_whereIsField_57 ?_
      exact x_iret (pc := 58) K (by rw [← hf]; rfl) (by rw [← hf]; rfl) d_B_whereIsField_58
    · skip
      have hic : i < f + 1 := by have := Nat.not_lt.mp (fun q => c20 ((nI_ltI (a := f) (b := i) (by omega) (by omega)).mpr q)); omega
      rw [show f + 1 - i = (f + 1 - (i + 1)) + 1 by omega, wfl] at hf
      have h12 : i < 12 := by omega
      refine x_iload_n (pc := 23) K 1 d_B_whereIsField_23 rfl ?_
      refine x_iload (pc := 24) K 0 d_B_whereIsField_24 rfl ?_
      refine x_callSN (pc := 26) K (As := [.int set, .int (nI i)]) (rest := []) (c_J_contains l w X set (nI i)) (zcwSN K.ts K.S.2.1.2.2.1 sm_J_contains ii_J co_J_contains pd_J_contains ⟨rfl, rfl⟩ ⟨by decide, by decide⟩) rfl rfl (Nat.le_of_ble_eq_true rfl) ⟨Nat.zero_le _, Nat.zero_le _⟩ d_B_whereIsField_26 ?_
      refine x_ifeqB (pc := 29) K (tgt := 46) d_B_whereIsField_29 (by decide) (fun c29 => ?_) (fun c29 => ?_)
      · skip
        rw [if_neg c29] at hf
        refine x_iinc (pc := 46) K (v := nI (i + 1)) (lv' := [(4, .int (nI (i + 1))), (3, .int set), (0, .ref (w.2.2 + b)), (1, .int (nI f)), (2, .int key)]) 0 d_B_whereIsField_46 rfl (nI_1 _) (by decide) rfl ?_
        refine x_goto (pc := 49) K (tgt := 17) d_B_whereIsField_49 (by decide) ?_
        refine x_lv [0, 1, 2, 3, 4] rfl ?_
        exact ih (i + 1) _ (by omega) (by omega) hR hb hs hf
      · skip
        rw [if_pos c29] at hf
        refine x_aload_n (pc := 32) K 2 d_B_whereIsField_32 rfl ?_
        refine x_getr (pc := 33) K (n := b) (n' := b + 134) (k := 1) (zlt hB) hB rfl (hR.Bf hB) rfl (by decide) (fun _ q => zmem (uw_B _ q)) (zmem lk_B_18) d_B_whereIsField_33 ?_
        refine x_iload (pc := 36) K 0 d_B_whereIsField_36 rfl ?_
        refine x_aload_n (pc := 38) K 2 d_B_whereIsField_38 rfl ?_
        refine x_iload (pc := 39) K 0 d_B_whereIsField_39 rfl ?_
        refine x_iload_n (pc := 41) K 4 d_B_whereIsField_41 rfl ?_
        refine x_callV (pc := 42) K (As := [.int (nI i), .int key]) (rest := [.int (nI i), .ref (w.2.2 + (b + 134))]) (c_B_fieldOwnerFor l w X b hB o hR hb hs i h12 key) (zcwV K.ts lk_B_81 im_B_fieldOwnerFor se_B_fieldOwnerFor ii_B co_B_fieldOwnerFor pd_B_fieldOwnerFor ⟨rfl, rfl⟩ ⟨by decide, by decide⟩) (zlt hB) hB rfl rfl rfl (Nat.le_of_ble_eq_true rfl) ⟨Nat.zero_le _, Nat.zero_le _⟩ d_B_whereIsField_42 ?_
        refine x_iast (pc := 45) K (n := b + 134) (j := i) (x := fof X.1 b i key) rfl (by omega) (zlt (shBf hB)) (shBf hB) rfl (by decide) d_B_whereIsField_45 ?_
        refine x_iinc (pc := 46) K (v := nI (i + 1)) (lv' := [(4, .int (nI (i + 1))), (3, .int set), (0, .ref (w.2.2 + b)), (1, .int (nI f)), (2, .int key)]) 0 d_B_whereIsField_46 rfl (nI_1 _) (by decide) rfl ?_
        refine x_goto (pc := 49) K (tgt := 17) d_B_whereIsField_49 (by decide) ?_
        refine x_lv [0, 1, 2, 3, 4] rfl ?_
        exact ih (i + 1) _ (by omega) (by omega) hR (bOk_f hb) (bSk_f hs) hf
abbrev wfS (μ : Nat → Nat → Int32) (b f : Nat) : Int32 := μ (b + 2 + 11 * f) 9 ||| 1 <<< (nI f &&& 31)
abbrev wfM (M : fl_M) (b f : Nat) (key : Int32) : fl_M := wfl M b key (wfS M.1 b f) 0 (f + 1)
set_option maxHeartbeats 4000000 in
set_option maxRecDepth 100000 in
theorem c_B_whereIsField (l : Launch) (w : fl_W) (M : fl_M) (b : Nat) (hB : zSh b = zsB) (o : Nat) (hR : zRf o M.2) (hb : bOk M.1 b) (hs : bSk M.1 b) (f : Nat) (hf12 : f < 12) (key : Int32) : CT l y_B_whereIsField w_B_whereIsField rm_B_whereIsField w zN [.ref (w.2.2 + b), .int (nI f), .int key] M (some (.int ((wfM M b f key).1 (b + 134) f))) (wfM M b f key) := by
  refine CT.of (cc := b_B_whereIsField) (own := "CompatibilityJudge$Baseline") (by decide) rfl rfl (Nat.le_of_ble_eq_true rfl) ?_
  intro p9 e9 s9 m9 ag9 bl9 mt9 c9 K
  show XW p9 l e9 (rm_B_whereIsField) s9 m9 ag9 bl9 mt9 c9 5 0 0 (MQ bl9 (CQ w zN (some (.int ((wfM M b f key).1 (b + 134) f))) (wfM M b f key)) ag9 s9 0 0 (fun q : Nat => w.2.2 ≤ q)) w zN M 0 [(0, .ref (w.2.2 + b)), (1, .int (nI f)), (2, .int key)] []
  refine x_aload_n (pc := 0) K 0 d_B_whereIsField_0 rfl ?_
  refine x_getr (pc := 1) K (n := b) (n' := b + 1) (k := 0) (zlt hB) hB rfl (hR.Ba hB) rfl (by decide) (fun _ q => zmem (uw_B _ q)) (zmem lk_B_11) d_B_whereIsField_1 ?_
  refine x_iload_n (pc := 4) K 1 d_B_whereIsField_4 rfl ?_
  refine x_aald (pc := 5) K (n := b + 1) (n' := b + 2 + 11 * f) (j := f) rfl (by omega) (hR.Bt hB (by omega)) (zlt (shBa hB)) (shBa hB) rfl (by decide) d_B_whereIsField_5 ?_
  refine x_geti (pc := 6) K (n := b + 2 + 11 * f) (k := 9) (zlt (shBt hB (by omega))) (shBt hB (by omega)) rfl rfl (by decide) (fun _ q => zmem (uw_T _ q)) (zmem lk_B_48) d_B_whereIsField_6 ?_
  refine x_iconst (pc := 9) K (v := 1) d_B_whereIsField_9 (by decide) ?_
  refine x_iload_n (pc := 10) K 1 d_B_whereIsField_10 rfl ?_
  refine x_ishl (pc := 11) K d_B_whereIsField_11 ?_
  refine x_ior (pc := 12) K d_B_whereIsField_12 ?_
  refine x_istore_n (pc := 13) K (lv' := [(3, .int ((M.1 (b + 2 + 11 * f) 9) ||| (1 <<< ((nI f) &&& 31)))), (0, .ref (w.2.2 + b)), (1, .int (nI f)), (2, .int key)]) d_B_whereIsField_13 (by decide) rfl ?_
  refine x_iconst (pc := 14) K (v := nI 0) d_B_whereIsField_14 (by decide) ?_
  refine x_istore (pc := 15) K (lv' := [(4, .int (nI 0)), (3, .int ((M.1 (b + 2 + 11 * f) 9) ||| (1 <<< ((nI f) &&& 31)))), (0, .ref (w.2.2 + b)), (1, .int (nI f)), (2, .int key)]) d_B_whereIsField_15 (by decide) rfl ?_
  refine x_lv [0, 1, 2, 3, 4] rfl ?_
  exact lp_B_whereIsField l w M b hB o f hf12 key _ _ K (f + 2) 0 M (by omega) (by omega) hR hb hs (by rw [Nat.sub_zero])
/-- of the interfaces of the set, from t on: the first method that is neither static, private nor abstract; else the first abstract one -/
def wil (μ : Nat → Nat → Int32) (b : Nat) (key set : Int32) : Nat → Nat → Int32 → Int32
  | _, 0, a => a
  | t, k + 1, a =>
    if (¬ (set >>> (nI t &&& 31)) &&& 1 = 0) ∧ μ (b + 2 + 11 * t) 1 = 1 then
      (match tOwn μ (b + 2 + 11 * t) 1 key with
      | none => wil μ b key set (t + 1) k a
      | some j => if (¬ μ (b + 2 + 11 * t + 3 + j) 2 &&& 4 = 0) ∨ μ (b + 2 + 11 * t + 3 + j) 2 &&& 3 = 0 then wil μ b key set (t + 1) k a
        else if ¬ μ (b + 2 + 11 * t + 3 + j) 2 &&& 16 = 0 then wil μ b key set (t + 1) k (if a = 12 then nI t else a)
        else nI t)
    else wil μ b key set (t + 1) k a
set_option maxHeartbeats 4000000 in
set_option maxRecDepth 100000 in
theorem lp_B_whereIsInterfaceMethod (l : Launch) (w : fl_W) (M : fl_M) (b : Nat) (hB : zSh b = zsB) (o : Nat) (hR : zRf o M.2) (hb : bOk M.1 b) (key set : Int32) (F : Int32) {p9 : Program} {e9 : Env} {s9 : State} {m9 : MethodId} {ag9 : Array Value} {bl9 : List Frame} {mt9 : Method} {c9 : Code} (K : XC p9 s9 m9 ag9 mt9 c9 b_B_whereIsInterfaceMethod 6 (some .int) w_B_whereIsInterfaceMethod "CompatibilityJudge$Baseline" w) : ∀ (k : Nat) (i : Nat) (a : Int32), i ≤ 12 → 12 + 1 ≤ i + k → wil M.1 b key set i (12 - i) a = F → XW p9 l e9 (rm_B_whereIsInterfaceMethod) s9 m9 ag9 bl9 mt9 c9 6 0 0 (MQ bl9 (CQ w zN (some (.int F)) M) ag9 s9 0 0 (fun q : Nat => w.2.2 ≤ q)) w zN M 6 [(4, .int (nI i)), (3, .int a), (0, .ref (w.2.2 + b)), (1, .int set), (2, .int key)] [] := by
  intro k
  induction k with
  | zero =>
    intro i a hi hk
    exact absurd hk (by omega)
  | succ k ih =>
    intro i a hi hk hf
    refine x_iload (pc := 6) K 0 d_B_whereIsInterfaceMethod_6 rfl ?_
    refine x_bipush (pc := 8) K (v := nI 12) d_B_whereIsInterfaceMethod_8 (by decide) ?_
    refine x_icmp_ge (pc := 10) K (tgt := 106) d_B_whereIsInterfaceMethod_10 (by decide) (fun c10 => ?_) (fun c10 => ?_)
    · skip
      have hic : i = 12 := by have := (nI_leI (a := 12) (by omega) (by omega)).mp c10; omega
      rw [hic, Nat.sub_self] at hf
      refine x_iload_n (pc := 106) K 1 d_B_whereIsInterfaceMethod_106 rfl ?_
      exact x_iret (pc := 107) K (by subst hf; rfl) (rfl) d_B_whereIsInterfaceMethod_107
    · skip
      have hic : i < 12 := Nat.not_le.mp (fun q => c10 (nI_le (a := 12) q (by omega)))
      rw [show 12 - i = (12 - (i + 1)) + 1 by omega, wil] at hf
      refine x_iload_n (pc := 13) K 3 d_B_whereIsInterfaceMethod_13 rfl ?_
      refine x_iload (pc := 14) K 0 d_B_whereIsInterfaceMethod_14 rfl ?_
      refine x_callSN (pc := 16) K (As := [.int set, .int (nI i)]) (rest := []) (c_J_contains l w M set (nI i)) (zcwSN K.ts K.S.2.1.2.2.1 sm_J_contains ii_J co_J_contains pd_J_contains ⟨rfl, rfl⟩ ⟨by decide, by decide⟩) rfl rfl (Nat.le_of_ble_eq_true rfl) ⟨Nat.zero_le _, Nat.zero_le _⟩ d_B_whereIsInterfaceMethod_16 ?_
      refine x_ifeqB (pc := 19) K (tgt := 100) d_B_whereIsInterfaceMethod_19 (by decide) (fun c19 => ?_) (fun c19 => ?_)
      · skip
        rw [if_neg (fun q => c19 q.1)] at hf
        refine x_iinc (pc := 100) K (v := nI (i + 1)) (lv' := [(4, .int (nI (i + 1))), (3, .int a), (0, .ref (w.2.2 + b)), (1, .int set), (2, .int key)]) 0 d_B_whereIsInterfaceMethod_100 rfl (nI_1 _) (by decide) rfl ?_
        refine x_goto (pc := 103) K (tgt := 6) d_B_whereIsInterfaceMethod_103 (by decide) ?_
        refine x_lv [0, 1, 2, 3, 4] rfl ?_
        exact ih (i + 1) _ (by omega) (by omega) hf
      · skip
        refine x_aload_n (pc := 22) K 2 d_B_whereIsInterfaceMethod_22 rfl ?_
        refine x_getr (pc := 23) K (n := b) (n' := b + 1) (k := 0) (zlt hB) hB rfl (hR.Ba hB) rfl (by decide) (fun _ q => zmem (uw_B _ q)) (zmem lk_B_11) d_B_whereIsInterfaceMethod_23 ?_
        refine x_iload (pc := 26) K 0 d_B_whereIsInterfaceMethod_26 rfl ?_
        refine x_aald (pc := 28) K (n := b + 1) (n' := b + 2 + 11 * i) (j := i) rfl (by omega) (hR.Bt hB (by omega)) (zlt (shBa hB)) (shBa hB) rfl (by decide) d_B_whereIsInterfaceMethod_28 ?_
        refine x_geti (pc := 29) K (n := b + 2 + 11 * i) (k := 1) (zlt (shBt hB (by omega))) (shBt hB (by omega)) rfl rfl (by decide) (fun _ q => zmem (uw_T _ q)) (zmem lk_B_64) d_B_whereIsInterfaceMethod_29 ?_
        refine x_iconst (pc := 32) K (v := 1) d_B_whereIsInterfaceMethod_32 (by decide) ?_
        refine x_icmp_eq (pc := 33) K (tgt := 39) d_B_whereIsInterfaceMethod_33 (by decide) (fun c33 => ?_) (fun c33 => ?_)
        · skip
          rw [if_pos ⟨c19, c33⟩] at hf
          refine x_aload_n (pc := 39) K 2 d_B_whereIsInterfaceMethod_39 rfl ?_
          refine x_getr (pc := 40) K (n := b) (n' := b + 1) (k := 0) (zlt hB) hB rfl (hR.Ba hB) rfl (by decide) (fun _ q => zmem (uw_B _ q)) (zmem lk_B_11) d_B_whereIsInterfaceMethod_40 ?_
          refine x_iload (pc := 43) K 0 d_B_whereIsInterfaceMethod_43 rfl ?_
          refine x_aald (pc := 45) K (n := b + 1) (n' := b + 2 + 11 * i) (j := i) rfl (by omega) (hR.Bt hB (by omega)) (zlt (shBa hB)) (shBa hB) rfl (by decide) d_B_whereIsInterfaceMethod_45 ?_
          refine x_iconst (pc := 46) K (v := 1) d_B_whereIsInterfaceMethod_46 (by decide) ?_
          refine x_iload_n (pc := 47) K 4 d_B_whereIsInterfaceMethod_47 rfl ?_
          refine x_callV (pc := 48) K (As := [.int 1, .int key]) (rest := []) (c_T_own l w M (b + 2 + 11 * i) (shBt hB (by omega)) o hR (hb i (by omega)).1 1 key) (zcwV K.ts lk_B_74 im_T_own se_T_own ii_T co_T_own pd_T_own ⟨rfl, rfl⟩ ⟨by decide, by decide⟩) (zlt (shBt hB (by omega))) (shBt hB (by omega)) rfl rfl rfl (Nat.le_of_ble_eq_true rfl) ⟨Nat.zero_le _, Nat.zero_le _⟩ d_B_whereIsInterfaceMethod_48 ?_
          refine x_opt (n := b + 2 + 11 * i) (F := tOwn M.1 (b + 2 + 11 * i) 1 key) (fun ho48 => ?_) (fun j48 ho48 => ?_)
          · skip
            rw [ho48] at hf
            refine x_astoreN (pc := 51) K (lv' := [(5, .null), (4, .int (nI i)), (3, .int a), (0, .ref (w.2.2 + b)), (1, .int set), (2, .int key)]) d_B_whereIsInterfaceMethod_51 (by decide) rfl ?_
            refine x_aloadN (pc := 53) K 0 d_B_whereIsInterfaceMethod_53 rfl ?_
            refine x_ifnullN (pc := 55) K (tgt := 100) d_B_whereIsInterfaceMethod_55 (by decide) ?_
            refine x_iinc (pc := 100) K (v := nI (i + 1)) (lv' := [(4, .int (nI (i + 1))), (5, .null), (3, .int a), (0, .ref (w.2.2 + b)), (1, .int set), (2, .int key)]) 1 d_B_whereIsInterfaceMethod_100 rfl (nI_1 _) (by decide) rfl ?_
            refine x_goto (pc := 103) K (tgt := 6) d_B_whereIsInterfaceMethod_103 (by decide) ?_
            refine x_lv [0, 2, 3, 4, 5] rfl ?_
            exact ih (i + 1) _ (by omega) (by omega) hf
          · skip
            have hj48 : j48 < 8 := by have := (fnd_lt ho48).2.1; have := (hb i (by omega)).1.2.2; omega
            rw [ho48] at hf
            dsimp only at hf
            refine x_astore (pc := 51) K (lv' := [(5, .ref (w.2.2 + ((b + 2 + 11 * i) + 3 + j48))), (4, .int (nI i)), (3, .int a), (0, .ref (w.2.2 + b)), (1, .int set), (2, .int key)]) d_B_whereIsInterfaceMethod_51 (by decide) rfl ?_
            refine x_aload (pc := 53) K 0 d_B_whereIsInterfaceMethod_53 rfl ?_
            refine x_ifnull (pc := 55) K d_B_whereIsInterfaceMethod_55 ?_
            refine x_aload (pc := 58) K 0 d_B_whereIsInterfaceMethod_58 rfl ?_
            refine x_iconst (pc := 60) K (v := 4) d_B_whereIsInterfaceMethod_60 (by decide) ?_
            refine x_callV (pc := 61) K (As := [.int 4]) (rest := []) (c_M_hasAny l w M 4 ((b + 2 + 11 * i) + 3 + j48) (shTm (shBt hB (by omega)) hj48)) (zcwV K.ts lk_B_87 im_M_hasAny se_M_hasAny ii_M co_M_hasAny pd_M_hasAny ⟨rfl, rfl⟩ ⟨by decide, by decide⟩) (zlt (shTm (shBt hB (by omega)) hj48)) (shTm (shBt hB (by omega)) hj48) rfl rfl rfl (Nat.le_of_ble_eq_true rfl) ⟨Nat.zero_le _, Nat.zero_le _⟩ d_B_whereIsInterfaceMethod_61 ?_
            refine x_ifneB (pc := 64) K (tgt := 100) d_B_whereIsInterfaceMethod_64 (by decide) (fun c64 => ?_) (fun c64 => ?_)
            · skip
              rw [if_pos (Or.inl c64)] at hf
              refine x_iinc (pc := 100) K (v := nI (i + 1)) (lv' := [(4, .int (nI (i + 1))), (5, .ref (w.2.2 + ((b + 2 + 11 * i) + 3 + j48))), (3, .int a), (0, .ref (w.2.2 + b)), (1, .int set), (2, .int key)]) 1 d_B_whereIsInterfaceMethod_100 rfl (nI_1 _) (by decide) rfl ?_
              refine x_goto (pc := 103) K (tgt := 6) d_B_whereIsInterfaceMethod_103 (by decide) ?_
              refine x_lv [0, 2, 3, 4, 5] rfl ?_
              exact ih (i + 1) _ (by omega) (by omega) hf
            · skip
              refine x_aload (pc := 67) K 0 d_B_whereIsInterfaceMethod_67 rfl ?_
              refine x_callV (pc := 69) K (As := []) (rest := []) (c_M_access l w M ((b + 2 + 11 * i) + 3 + j48) (shTm (shBt hB (by omega)) hj48)) (zcwV K.ts lk_B_92 im_M_access se_M_access ii_M co_M_access pd_M_access ⟨rfl, rfl⟩ ⟨by decide, by decide⟩) (zlt (shTm (shBt hB (by omega)) hj48)) (shTm (shBt hB (by omega)) hj48) rfl rfl rfl (Nat.le_of_ble_eq_true rfl) ⟨Nat.zero_le _, Nat.zero_le _⟩ d_B_whereIsInterfaceMethod_69 ?_
              refine x_if_ne (pc := 72) K (tgt := 78) d_B_whereIsInterfaceMethod_72 (by decide) (fun c72 => ?_) (fun c72 => ?_)
              · skip
                rw [if_neg (fun q => q.elim c64 c72)] at hf
                refine x_aload (pc := 78) K 0 d_B_whereIsInterfaceMethod_78 rfl ?_
                refine x_bipush (pc := 80) K (v := 16) d_B_whereIsInterfaceMethod_80 (by decide) ?_
                refine x_callV (pc := 82) K (As := [.int 16]) (rest := []) (c_M_hasAny l w M 16 ((b + 2 + 11 * i) + 3 + j48) (shTm (shBt hB (by omega)) hj48)) (zcwV K.ts lk_B_87 im_M_hasAny se_M_hasAny ii_M co_M_hasAny pd_M_hasAny ⟨rfl, rfl⟩ ⟨by decide, by decide⟩) (zlt (shTm (shBt hB (by omega)) hj48)) (shTm (shBt hB (by omega)) hj48) rfl rfl rfl (Nat.le_of_ble_eq_true rfl) ⟨Nat.zero_le _, Nat.zero_le _⟩ d_B_whereIsInterfaceMethod_82 ?_
                refine x_ifneB (pc := 85) K (tgt := 91) d_B_whereIsInterfaceMethod_85 (by decide) (fun c85 => ?_) (fun c85 => ?_)
                · skip
                  rw [if_pos c85] at hf
                  refine x_iload_n (pc := 91) K 2 d_B_whereIsInterfaceMethod_91 rfl ?_
                  refine x_bipush (pc := 92) K (v := 12) d_B_whereIsInterfaceMethod_92 (by decide) ?_
                  refine x_icmp_ne (pc := 94) K (tgt := 100) d_B_whereIsInterfaceMethod_94 (by decide) (fun c94 => ?_) (fun c94 => ?_)
                  · skip
                    rw [if_neg c94] at hf
                    refine x_iinc (pc := 100) K (v := nI (i + 1)) (lv' := [(4, .int (nI (i + 1))), (5, .ref (w.2.2 + ((b + 2 + 11 * i) + 3 + j48))), (3, .int a), (0, .ref (w.2.2 + b)), (1, .int set), (2, .int key)]) 1 d_B_whereIsInterfaceMethod_100 rfl (nI_1 _) (by decide) rfl ?_
                    refine x_goto (pc := 103) K (tgt := 6) d_B_whereIsInterfaceMethod_103 (by decide) ?_
                    refine x_lv [0, 2, 3, 4, 5] rfl ?_
                    exact ih (i + 1) _ (by omega) (by omega) hf
                  · skip
                    rw [if_pos c94] at hf
                    refine x_iload (pc := 97) K 1 d_B_whereIsInterfaceMethod_97 rfl ?_
                    refine x_istore_n (pc := 99) K (lv' := [(3, .int (nI i)), (5, .ref (w.2.2 + ((b + 2 + 11 * i) + 3 + j48))), (4, .int (nI i)), (0, .ref (w.2.2 + b)), (1, .int set), (2, .int key)]) d_B_whereIsInterfaceMethod_99 (by decide) rfl ?_
                    refine x_iinc (pc := 100) K (v := nI (i + 1)) (lv' := [(4, .int (nI (i + 1))), (3, .int (nI i)), (5, .ref (w.2.2 + ((b + 2 + 11 * i) + 3 + j48))), (0, .ref (w.2.2 + b)), (1, .int set), (2, .int key)]) 2 d_B_whereIsInterfaceMethod_100 rfl (nI_1 _) (by decide) rfl ?_
                    refine x_goto (pc := 103) K (tgt := 6) d_B_whereIsInterfaceMethod_103 (by decide) ?_
                    refine x_lv [0, 1, 3, 4, 5] rfl ?_
                    exact ih (i + 1) _ (by omega) (by omega) hf
                · skip
                  rw [if_neg c85] at hf
                  refine x_iload (pc := 88) K 1 d_B_whereIsInterfaceMethod_88 rfl ?_
                  exact x_iret (pc := 90) K (by subst hf; rfl) (rfl) d_B_whereIsInterfaceMethod_90
              · skip
                rw [if_pos (Or.inr c72)] at hf
                refine x_goto (pc := 75) K (tgt := 100) d_B_whereIsInterfaceMethod_75 (by decide) ?_
                refine x_iinc (pc := 100) K (v := nI (i + 1)) (lv' := [(4, .int (nI (i + 1))), (5, .ref (w.2.2 + ((b + 2 + 11 * i) + 3 + j48))), (3, .int a), (0, .ref (w.2.2 + b)), (1, .int set), (2, .int key)]) 1 d_B_whereIsInterfaceMethod_100 rfl (nI_1 _) (by decide) rfl ?_
                refine x_goto (pc := 103) K (tgt := 6) d_B_whereIsInterfaceMethod_103 (by decide) ?_
                refine x_lv [0, 2, 3, 4, 5] rfl ?_
                exact ih (i + 1) _ (by omega) (by omega) hf
        · skip
          rw [if_neg (fun q => c33 q.2)] at hf
          refine x_goto (pc := 36) K (tgt := 100) d_B_whereIsInterfaceMethod_36 (by decide) ?_
          refine x_iinc (pc := 100) K (v := nI (i + 1)) (lv' := [(4, .int (nI (i + 1))), (3, .int a), (0, .ref (w.2.2 + b)), (1, .int set), (2, .int key)]) 0 d_B_whereIsInterfaceMethod_100 rfl (nI_1 _) (by decide) rfl ?_
          refine x_goto (pc := 103) K (tgt := 6) d_B_whereIsInterfaceMethod_103 (by decide) ?_
          refine x_lv [0, 1, 2, 3, 4] rfl ?_
          exact ih (i + 1) _ (by omega) (by omega) hf
set_option maxHeartbeats 4000000 in
set_option maxRecDepth 100000 in
theorem c_B_whereIsInterfaceMethod (l : Launch) (w : fl_W) (M : fl_M) (b : Nat) (hB : zSh b = zsB) (o : Nat) (hR : zRf o M.2) (hb : bOk M.1 b) (set key : Int32) : CT l y_B_whereIsInterfaceMethod w_B_whereIsInterfaceMethod rm_B_whereIsInterfaceMethod w zN [.ref (w.2.2 + b), .int set, .int key] M (some (.int (wil M.1 b key set 0 12 12))) M := by
  refine CT.of (cc := b_B_whereIsInterfaceMethod) (own := "CompatibilityJudge$Baseline") (by decide) rfl rfl (Nat.le_of_ble_eq_true rfl) ?_
  intro p9 e9 s9 m9 ag9 bl9 mt9 c9 K
  show XW p9 l e9 (rm_B_whereIsInterfaceMethod) s9 m9 ag9 bl9 mt9 c9 6 0 0 (MQ bl9 (CQ w zN (some (.int (wil M.1 b key set 0 12 12))) M) ag9 s9 0 0 (fun q : Nat => w.2.2 ≤ q)) w zN M 0 [(0, .ref (w.2.2 + b)), (1, .int set), (2, .int key)] []
  refine x_bipush (pc := 0) K (v := 12) d_B_whereIsInterfaceMethod_0 (by decide) ?_
  refine x_istore_n (pc := 2) K (lv' := [(3, .int 12), (0, .ref (w.2.2 + b)), (1, .int set), (2, .int key)]) d_B_whereIsInterfaceMethod_2 (by decide) rfl ?_
  refine x_iconst (pc := 3) K (v := nI 0) d_B_whereIsInterfaceMethod_3 (by decide) ?_
  refine x_istore (pc := 4) K (lv' := [(4, .int (nI 0)), (3, .int 12), (0, .ref (w.2.2 + b)), (1, .int set), (2, .int key)]) d_B_whereIsInterfaceMethod_4 (by decide) rfl ?_
  refine x_lv [0, 1, 2, 3, 4] rfl ?_
  exact lp_B_whereIsInterfaceMethod l w M b hB o hR hb key set _ K 13 0 12 (by omega) (by omega) rfl
/-- up the superclasses -/
def wml (μ : Nat → Nat → Int32) (b : Nat) (key : Int32) : Nat → Int32 → Option Int32
  | 0, _ => none
  | k + 1, x => if x = -1 then none else if tOwn μ (tn b x) 1 key = none then wml μ b key k (μ (tn b x) 8) else some x
def wmz (μ : Nat → Nat → Int32) (b f : Nat) (key : Int32) (F : Option Int32) : Int32 := match F with
  | some v => v
  | none => wil μ b key (μ (b + 2 + 11 * f) 9) 0 12 12
abbrev wim (μ : Nat → Nat → Int32) (b f : Nat) (key : Int32) : Int32 := wmz μ b f key (wml μ b key 12 (nI f))
set_option maxHeartbeats 4000000 in
set_option maxRecDepth 100000 in
theorem lp_B_whereIsMethod (l : Launch) (w : fl_W) (M : fl_M) (b : Nat) (hB : zSh b = zsB) (o : Nat) (hR : zRf o M.2) (hb : bOk M.1 b) (hs : bSk M.1 b) (f : Nat) (hf12 : f < 12) (key : Int32) (F : Option Int32) {p9 : Program} {e9 : Env} {s9 : State} {m9 : MethodId} {ag9 : Array Value} {bl9 : List Frame} {mt9 : Method} {c9 : Code} (K : XC p9 s9 m9 ag9 mt9 c9 b_B_whereIsMethod 5 (some .int) w_B_whereIsMethod "CompatibilityJudge$Baseline" w) : ∀ (k : Nat) (i : Nat) (x : Int32), i ≤ 12 → 12 + 1 ≤ i + k → (x = -1 ∨ inL 12 x) → wml M.1 b key (12 - i) x = F → XW p9 l e9 (rm_B_whereIsMethod) s9 m9 ag9 bl9 mt9 c9 5 0 0 (MQ bl9 (CQ w zN (some (.int (wmz M.1 b f key F))) M) ag9 s9 0 0 (fun q : Nat => w.2.2 ≤ q)) w zN M 5 [(4, .int (nI i)), (3, .int x), (0, .ref (w.2.2 + b)), (1, .int (nI f)), (2, .int key)] [] := by
  intro k
  induction k with
  | zero =>
    intro i x hi hk
    exact absurd hk (by omega)
  | succ k ih =>
    intro i x hi hk hx hf
    refine x_iload (pc := 5) K 0 d_B_whereIsMethod_5 rfl ?_
    refine x_bipush (pc := 7) K (v := nI 12) d_B_whereIsMethod_7 (by decide) ?_
    refine x_icmp_ge (pc := 9) K (tgt := 49) d_B_whereIsMethod_9 (by decide) (fun c9 => ?_) (fun c9 => ?_)
    · skip
      have hic : i = 12 := by have := (nI_leI (a := 12) (by omega) (by omega)).mp c9; omega
      rw [hic, Nat.sub_self] at hf
      refine x_aload_n (pc := 49) K 2 d_B_whereIsMethod_49 rfl ?_
      refine x_aload_n (pc := 50) K 2 d_B_whereIsMethod_50 rfl ?_
      refine x_getr (pc := 51) K (n := b) (n' := b + 1) (k := 0) (zlt hB) hB rfl (hR.Ba hB) rfl (by decide) (fun _ q => zmem (uw_B _ q)) (zmem lk_B_11) d_B_whereIsMethod_51 ?_
      refine x_iload_n (pc := 54) K 3 d_B_whereIsMethod_54 rfl ?_
      refine x_aald (pc := 55) K (n := b + 1) (n' := b + 2 + 11 * f) (j := f) rfl (by omega) (hR.Bt hB (by omega)) (zlt (shBa hB)) (shBa hB) rfl (by decide) d_B_whereIsMethod_55 ?_
      refine x_geti (pc := 56) K (n := b + 2 + 11 * f) (k := 9) (zlt (shBt hB (by omega))) (shBt hB (by omega)) rfl rfl (by decide) (fun _ q => zmem (uw_T _ q)) (zmem lk_B_48) d_B_whereIsMethod_56 ?_
      refine x_iload_n (pc := 59) K 4 d_B_whereIsMethod_59 rfl ?_
      refine x_callV (pc := 60) K (As := [.int (M.1 (b + 2 + 11 * f) 9), .int key]) (rest := []) (c_B_whereIsInterfaceMethod l w M b hB o hR hb (M.1 (b + 2 + 11 * f) 9) key) (zcwV K.ts lk_B_84 im_B_whereIsInterfaceMethod se_B_whereIsInterfaceMethod ii_B co_B_whereIsInterfaceMethod pd_B_whereIsInterfaceMethod ⟨rfl, rfl⟩ ⟨by decide, by decide⟩) (zlt hB) hB rfl rfl rfl (Nat.le_of_ble_eq_true rfl) ⟨Nat.zero_le _, Nat.zero_le _⟩ d_B_whereIsMethod_60 ?_
      exact x_iret (pc := 63) K (by subst hf; rfl) (rfl) d_B_whereIsMethod_63
    · skip
      have hic : i < 12 := Nat.not_le.mp (fun q => c9 (nI_le (a := 12) q (by omega)))
      rw [show 12 - i = (12 - (i + 1)) + 1 by omega, wml] at hf
      refine x_iload_n (pc := 12) K 1 d_B_whereIsMethod_12 rfl ?_
      refine x_iconst (pc := 13) K (v := (-1)) d_B_whereIsMethod_13 (by decide) ?_
      refine x_icmp_eq (pc := 14) K (tgt := 49) d_B_whereIsMethod_14 (by decide) (fun c14 => ?_) (fun c14 => ?_)
      · skip
        rw [if_pos c14] at hf
        refine x_aload_n (pc := 49) K 2 d_B_whereIsMethod_49 rfl ?_
        refine x_aload_n (pc := 50) K 2 d_B_whereIsMethod_50 rfl ?_
        refine x_getr (pc := 51) K (n := b) (n' := b + 1) (k := 0) (zlt hB) hB rfl (hR.Ba hB) rfl (by decide) (fun _ q => zmem (uw_B _ q)) (zmem lk_B_11) d_B_whereIsMethod_51 ?_
        refine x_iload_n (pc := 54) K 3 d_B_whereIsMethod_54 rfl ?_
        refine x_aald (pc := 55) K (n := b + 1) (n' := b + 2 + 11 * f) (j := f) rfl (by omega) (hR.Bt hB (by omega)) (zlt (shBa hB)) (shBa hB) rfl (by decide) d_B_whereIsMethod_55 ?_
        refine x_geti (pc := 56) K (n := b + 2 + 11 * f) (k := 9) (zlt (shBt hB (by omega))) (shBt hB (by omega)) rfl rfl (by decide) (fun _ q => zmem (uw_T _ q)) (zmem lk_B_48) d_B_whereIsMethod_56 ?_
        refine x_iload_n (pc := 59) K 4 d_B_whereIsMethod_59 rfl ?_
        refine x_callV (pc := 60) K (As := [.int (M.1 (b + 2 + 11 * f) 9), .int key]) (rest := []) (c_B_whereIsInterfaceMethod l w M b hB o hR hb (M.1 (b + 2 + 11 * f) 9) key) (zcwV K.ts lk_B_84 im_B_whereIsInterfaceMethod se_B_whereIsInterfaceMethod ii_B co_B_whereIsInterfaceMethod pd_B_whereIsInterfaceMethod ⟨rfl, rfl⟩ ⟨by decide, by decide⟩) (zlt hB) hB rfl rfl rfl (Nat.le_of_ble_eq_true rfl) ⟨Nat.zero_le _, Nat.zero_le _⟩ d_B_whereIsMethod_60 ?_
        exact x_iret (pc := 63) K (by subst hf; rfl) (rfl) d_B_whereIsMethod_63
      · skip
        rw [if_neg c14] at hf
        have hx9 := hx.resolve_left c14
        refine x_aload_n (pc := 17) K 2 d_B_whereIsMethod_17 rfl ?_
        refine x_getr (pc := 18) K (n := b) (n' := b + 1) (k := 0) (zlt hB) hB rfl (hR.Ba hB) rfl (by decide) (fun _ q => zmem (uw_B _ q)) (zmem lk_B_11) d_B_whereIsMethod_18 ?_
        refine x_iload_n (pc := 21) K 1 d_B_whereIsMethod_21 rfl ?_
        refine x_aald (pc := 22) K (n := b + 1) (n' := b + 2 + 11 * (ix x)) (j := ix x) hx9.1 hx9.2 (hR.Bt hB hx9.2) (zlt (shBa hB)) (shBa hB) rfl (by decide) d_B_whereIsMethod_22 ?_
        refine x_iconst (pc := 23) K (v := 1) d_B_whereIsMethod_23 (by decide) ?_
        refine x_iload_n (pc := 24) K 4 d_B_whereIsMethod_24 rfl ?_
        refine x_callV (pc := 25) K (As := [.int 1, .int key]) (rest := []) (c_T_own l w M (b + 2 + 11 * (ix x)) (shBt hB hx9.2) o hR (hb (ix x) hx9.2).1 1 key) (zcwV K.ts lk_B_74 im_T_own se_T_own ii_T co_T_own pd_T_own ⟨rfl, rfl⟩ ⟨by decide, by decide⟩) (zlt (shBt hB hx9.2)) (shBt hB hx9.2) rfl rfl rfl (Nat.le_of_ble_eq_true rfl) ⟨Nat.zero_le _, Nat.zero_le _⟩ d_B_whereIsMethod_25 ?_
        refine x_opt (n := b + 2 + 11 * (ix x)) (F := tOwn M.1 (b + 2 + 11 * (ix x)) 1 key) (fun ho25 => ?_) (fun j25 ho25 => ?_)
        · skip
          rw [if_pos ho25] at hf
          refine x_ifnullN (pc := 28) K (tgt := 33) d_B_whereIsMethod_28 (by decide) ?_
          refine x_aload_n (pc := 33) K 2 d_B_whereIsMethod_33 rfl ?_
          refine x_getr (pc := 34) K (n := b) (n' := b + 1) (k := 0) (zlt hB) hB rfl (hR.Ba hB) rfl (by decide) (fun _ q => zmem (uw_B _ q)) (zmem lk_B_11) d_B_whereIsMethod_34 ?_
          refine x_iload_n (pc := 37) K 1 d_B_whereIsMethod_37 rfl ?_
          refine x_aald (pc := 38) K (n := b + 1) (n' := b + 2 + 11 * (ix x)) (j := ix x) hx9.1 hx9.2 (hR.Bt hB hx9.2) (zlt (shBa hB)) (shBa hB) rfl (by decide) d_B_whereIsMethod_38 ?_
          refine x_geti (pc := 39) K (n := b + 2 + 11 * (ix x)) (k := 8) (zlt (shBt hB hx9.2)) (shBt hB hx9.2) rfl rfl (by decide) (fun _ q => zmem (uw_T _ q)) (zmem lk_B_41) d_B_whereIsMethod_39 ?_
          refine x_istore_n (pc := 42) K (lv' := [(3, .int (M.1 (b + 2 + 11 * (ix x)) 8)), (4, .int (nI i)), (0, .ref (w.2.2 + b)), (1, .int (nI f)), (2, .int key)]) d_B_whereIsMethod_42 (by decide) rfl ?_
          refine x_iinc (pc := 43) K (v := nI (i + 1)) (lv' := [(4, .int (nI (i + 1))), (3, .int (M.1 (b + 2 + 11 * (ix x)) 8)), (0, .ref (w.2.2 + b)), (1, .int (nI f)), (2, .int key)]) 1 d_B_whereIsMethod_43 rfl (nI_1 _) (by decide) rfl ?_
          refine x_goto (pc := 46) K (tgt := 5) d_B_whereIsMethod_46 (by decide) ?_
          refine x_lv [0, 1, 2, 3, 4] rfl ?_
          exact ih (i + 1) _ (by omega) (by omega) ((hs _ hx9.2).imp id (fun q => inL_le q (Nat.le_of_lt hx9.2))) hf
        · skip
          have hj25 : j25 < 8 := by have := (fnd_lt ho25).2.1; have := (hb (ix x) hx9.2).1.2.2; omega
          rw [if_neg (by rw [ho25]; exact fun q => nomatch q)] at hf
          refine x_ifnull (pc := 28) K d_B_whereIsMethod_28 ?_
          refine x_iload_n (pc := 31) K 1 d_B_whereIsMethod_31 rfl ?_
          exact x_iret (pc := 32) K (by subst hf; rfl) (rfl) d_B_whereIsMethod_32
set_option maxHeartbeats 4000000 in
set_option maxRecDepth 100000 in
theorem c_B_whereIsMethod (l : Launch) (w : fl_W) (M : fl_M) (b : Nat) (hB : zSh b = zsB) (o : Nat) (hR : zRf o M.2) (hb : bOk M.1 b) (hs : bSk M.1 b) (f : Nat) (hf12 : f < 12) (key : Int32) : CT l y_B_whereIsMethod w_B_whereIsMethod rm_B_whereIsMethod w zN [.ref (w.2.2 + b), .int (nI f), .int key] M (some (.int (wim M.1 b f key))) M := by
  refine CT.of (cc := b_B_whereIsMethod) (own := "CompatibilityJudge$Baseline") (by decide) rfl rfl (Nat.le_of_ble_eq_true rfl) ?_
  intro p9 e9 s9 m9 ag9 bl9 mt9 c9 K
  show XW p9 l e9 (rm_B_whereIsMethod) s9 m9 ag9 bl9 mt9 c9 5 0 0 (MQ bl9 (CQ w zN (some (.int (wim M.1 b f key))) M) ag9 s9 0 0 (fun q : Nat => w.2.2 ≤ q)) w zN M 0 [(0, .ref (w.2.2 + b)), (1, .int (nI f)), (2, .int key)] []
  refine x_iload_n (pc := 0) K 1 d_B_whereIsMethod_0 rfl ?_
  refine x_istore_n (pc := 1) K (lv' := [(3, .int (nI f)), (0, .ref (w.2.2 + b)), (1, .int (nI f)), (2, .int key)]) d_B_whereIsMethod_1 (by decide) rfl ?_
  refine x_iconst (pc := 2) K (v := nI 0) d_B_whereIsMethod_2 (by decide) ?_
  refine x_istore (pc := 3) K (lv' := [(4, .int (nI 0)), (3, .int (nI f)), (0, .ref (w.2.2 + b)), (1, .int (nI f)), (2, .int key)]) d_B_whereIsMethod_3 (by decide) rfl ?_
  refine x_lv [0, 1, 2, 3, 4] rfl ?_
  exact lp_B_whereIsMethod l w M b hB o hR hb hs f hf12 key _ K 13 0 _ (by omega) (by omega) (Or.inr (inL_nI (by omega) hf12)) rfl
def whr (M : fl_M) (b f : Nat) (k key : Int32) : Int32 := if M.1 (b + 2 + 11 * f) 0 = 0 then 12 else if k = 0 then (wfM M b f key).1 (b + 134) f else if k = 1 then wim M.1 b f key else if tOwn M.1 (b + 2 + 11 * f) k key = none then 12 else nI f
def whM (M : fl_M) (b f : Nat) (k key : Int32) : fl_M := if M.1 (b + 2 + 11 * f) 0 = 0 then M else if k = 0 then wfM M b f key else M
set_option maxHeartbeats 4000000 in
set_option maxRecDepth 100000 in
theorem c_B_whereIs (l : Launch) (w : fl_W) (M : fl_M) (b : Nat) (hB : zSh b = zsB) (o : Nat) (hR : zRf o M.2) (hb : bOk M.1 b) (hs : bSk M.1 b) (f : Nat) (hf12 : f < 12) (k key : Int32) : CT l y_B_whereIs w_B_whereIs rm_B_whereIs w zN [.ref (w.2.2 + b), .int (nI f), .int k, .int key] M (some (.int (whr M b f k key))) (whM M b f k key) := by
  refine CT.of (cc := b_B_whereIs) (own := "CompatibilityJudge$Baseline") (by decide) rfl rfl (Nat.le_of_ble_eq_true rfl) ?_
  intro p9 e9 s9 m9 ag9 bl9 mt9 c9 K
  show XW p9 l e9 (rm_B_whereIs) s9 m9 ag9 bl9 mt9 c9 4 0 0 (MQ bl9 (CQ w zN (some (.int (whr M b f k key))) (whM M b f k key)) ag9 s9 0 0 (fun q : Nat => w.2.2 ≤ q)) w zN M 0 [(0, .ref (w.2.2 + b)), (1, .int (nI f)), (2, .int k), (3, .int key)] []
  refine x_aload_n (pc := 0) K 0 d_B_whereIs_0 rfl ?_
  refine x_getr (pc := 1) K (n := b) (n' := b + 1) (k := 0) (zlt hB) hB rfl (hR.Ba hB) rfl (by decide) (fun _ q => zmem (uw_B _ q)) (zmem lk_B_11) d_B_whereIs_1 ?_
  refine x_iload_n (pc := 4) K 1 d_B_whereIs_4 rfl ?_
  refine x_aald (pc := 5) K (n := b + 1) (n' := b + 2 + 11 * f) (j := f) rfl (by omega) (hR.Bt hB (by omega)) (zlt (shBa hB)) (shBa hB) rfl (by decide) d_B_whereIs_5 ?_
  refine x_geti (pc := 6) K (n := b + 2 + 11 * f) (k := 0) (zlt (shBt hB (by omega))) (shBt hB (by omega)) rfl rfl (by decide) (fun _ q => zmem (uw_T _ q)) (zmem lk_B_26) d_B_whereIs_6 ?_
  refine x_if_ne (pc := 9) K (tgt := 15) d_B_whereIs_9 (by decide) (fun c9 => ?_) (fun c9 => ?_)
  · skip
    refine x_iload_n (pc := 15) K 2 d_B_whereIs_15 rfl ?_
    refine x_if_ne (pc := 16) K (tgt := 26) d_B_whereIs_16 (by decide) (fun c16 => ?_) (fun c16 => ?_)
    · skip
      refine x_iload_n (pc := 26) K 2 d_B_whereIs_26 rfl ?_
      refine x_iconst (pc := 27) K (v := 1) d_B_whereIs_27 (by decide) ?_
      refine x_icmp_ne (pc := 28) K (tgt := 38) d_B_whereIs_28 (by decide) (fun c28 => ?_) (fun c28 => ?_)
      · skip
        refine x_aload_n (pc := 38) K 0 d_B_whereIs_38 rfl ?_
        refine x_getr (pc := 39) K (n := b) (n' := b + 1) (k := 0) (zlt hB) hB rfl (hR.Ba hB) rfl (by decide) (fun _ q => zmem (uw_B _ q)) (zmem lk_B_11) d_B_whereIs_39 ?_
        refine x_iload_n (pc := 42) K 1 d_B_whereIs_42 rfl ?_
        refine x_aald (pc := 43) K (n := b + 1) (n' := b + 2 + 11 * f) (j := f) rfl (by omega) (hR.Bt hB (by omega)) (zlt (shBa hB)) (shBa hB) rfl (by decide) d_B_whereIs_43 ?_
        refine x_iload_n (pc := 44) K 2 d_B_whereIs_44 rfl ?_
        refine x_iload_n (pc := 45) K 3 d_B_whereIs_45 rfl ?_
        refine x_callV (pc := 46) K (As := [.int k, .int key]) (rest := []) (c_T_own l w M (b + 2 + 11 * f) (shBt hB (by omega)) o hR (hb f (by omega)).1 k key) (zcwV K.ts lk_B_74 im_T_own se_T_own ii_T co_T_own pd_T_own ⟨rfl, rfl⟩ ⟨by decide, by decide⟩) (zlt (shBt hB (by omega))) (shBt hB (by omega)) rfl rfl rfl (Nat.le_of_ble_eq_true rfl) ⟨Nat.zero_le _, Nat.zero_le _⟩ d_B_whereIs_46 ?_
        refine x_opt (n := b + 2 + 11 * f) (F := tOwn M.1 (b + 2 + 11 * f) k key) (fun ho46 => ?_) (fun j46 ho46 => ?_)
        · skip
          refine x_ifnullN (pc := 49) K (tgt := 56) d_B_whereIs_49 (by decide) ?_
          refine x_bipush (pc := 56) K (v := 12) d_B_whereIs_56 (by decide) ?_
          exact x_iret (pc := 58) K (by unfold whr; rw [if_neg c9, if_neg c16, if_neg c28, if_pos ho46]) (by unfold whM; rw [if_neg c9, if_neg c16]) d_B_whereIs_58
        · skip
          have hj46 : j46 < 8 := by have := (fnd_lt ho46).2.1; have := (hb f (by omega)).1.2.2; omega
          refine x_ifnull (pc := 49) K d_B_whereIs_49 ?_
          refine x_iload_n (pc := 52) K 1 d_B_whereIs_52 rfl ?_
          refine x_goto (pc := 53) K (tgt := 58) d_B_whereIs_53 (by decide) ?_
          exact x_iret (pc := 58) K (by unfold whr; rw [if_neg c9, if_neg c16, if_neg c28, if_neg (by rw [ho46]; exact fun q => nomatch q)]) (by unfold whM; rw [if_neg c9, if_neg c16]) d_B_whereIs_58
      · skip
        refine x_aload_n (pc := 31) K 0 d_B_whereIs_31 rfl ?_
        refine x_iload_n (pc := 32) K 1 d_B_whereIs_32 rfl ?_
        refine x_iload_n (pc := 33) K 3 d_B_whereIs_33 rfl ?_
        refine x_callV (pc := 34) K (As := [.int (nI f), .int key]) (rest := []) (c_B_whereIsMethod l w M b hB o hR hb hs f hf12 key) (zcwV K.ts lk_B_71 im_B_whereIsMethod se_B_whereIsMethod ii_B co_B_whereIsMethod pd_B_whereIsMethod ⟨rfl, rfl⟩ ⟨by decide, by decide⟩) (zlt hB) hB rfl rfl rfl (Nat.le_of_ble_eq_true rfl) ⟨Nat.zero_le _, Nat.zero_le _⟩ d_B_whereIs_34 ?_
        exact x_iret (pc := 37) K (by unfold whr; rw [if_neg c9, if_neg c16, if_pos c28]) (by unfold whM; rw [if_neg c9, if_neg c16]) d_B_whereIs_37
    · skip
      refine x_aload_n (pc := 19) K 0 d_B_whereIs_19 rfl ?_
      refine x_iload_n (pc := 20) K 1 d_B_whereIs_20 rfl ?_
      refine x_iload_n (pc := 21) K 3 d_B_whereIs_21 rfl ?_
      refine x_callV (pc := 22) K (As := [.int (nI f), .int key]) (rest := []) (c_B_whereIsField l w M b hB o hR hb hs f hf12 key) (zcwV K.ts lk_B_67 im_B_whereIsField se_B_whereIsField ii_B co_B_whereIsField pd_B_whereIsField ⟨rfl, rfl⟩ ⟨by decide, by decide⟩) (zlt hB) hB rfl rfl rfl (Nat.le_of_ble_eq_true rfl) ⟨Nat.zero_le _, Nat.zero_le _⟩ d_B_whereIs_22 ?_
      exact x_iret (pc := 25) K (by unfold whr; rw [if_neg c9, if_pos c16]) (by unfold whM; rw [if_neg c9, if_pos c16]) d_B_whereIs_25
  · skip
    refine x_bipush (pc := 12) K (v := 12) d_B_whereIs_12 (by decide) ?_
    exact x_iret (pc := 14) K (by unfold whr; rw [if_pos c9]) (by unfold whM; rw [if_pos c9]) d_B_whereIs_14
end
section
/-- how many findings are listed -/
abbrev cz (μ : Nat → Nat → Int32) : Nat := ix (μ 272 3)
def zOk (μ : Nat → Nat → Int32) : Prop := μ 272 3 = nI (cz μ) ∧ cz μ ≤ 636
def cAdd (M : fl_M) (r t d : Int32) : fl_M := if cz M.1 < 636 then wI (wI (wI (wI M 273 (cz M.1) r) 274 (cz M.1) t) 275 (cz M.1) d) 272 3 (nI (cz M.1 + 1)) else M
theorem cAdd_2 {M : fl_M} {r t d : Int32} : (cAdd M r t d).2 = M.2 := by unfold cAdd; split <;> rfl
theorem cAdd_rd {M : fl_M} {r t d : Int32} {a k : Nat} (h : a < 272 ∨ 275 < a) : (cAdd M r t d).1 a k = M.1 a k := by
  unfold cAdd
  split
  · rw [rdI_ne (Or.inl (by omega)), rdI_ne (Or.inl (by omega)), rdI_ne (Or.inl (by omega)), rdI_ne (Or.inl (by omega))]
  · rfl
theorem cAdd_z {M : fl_M} {r t d : Int32} (h : zOk M.1) : zOk (cAdd M r t d).1 := by
  unfold cAdd
  split
  · rename_i h9
    have h9 : ix (M.1 272 3) < 636 := h9
    unfold zOk cz
    rw [rdI_eq, ix_nI (by omega)]
    exact ⟨rfl, by omega⟩
  · exact h
set_option maxHeartbeats 4000000 in
set_option maxRecDepth 100000 in
theorem c_C_add (l : Launch) (w : fl_W) (M : fl_M) (o : Nat) (hR : zRf o M.2) (hz : zOk M.1) (r t d : Int32) : CT l y_C_add w_C_add rm_C_add w zN [.ref (w.2.2 + 272), .int r, .int t, .int d] M none (cAdd M r t d) := by
  refine CT.of (cc := b_C_add) (own := "CompatibilityJudge$Comparison") (by decide) rfl rfl (Nat.le_of_ble_eq_true rfl) ?_
  intro p9 e9 s9 m9 ag9 bl9 mt9 c9 K
  have h6 := hz.2
  show XW p9 l e9 (rm_C_add) s9 m9 ag9 bl9 mt9 c9 4 0 0 (MQ bl9 (CQ w zN none (cAdd M r t d)) ag9 s9 0 0 (fun q : Nat => w.2.2 ≤ q)) w zN M 0 [(0, .ref (w.2.2 + 272)), (1, .int r), (2, .int t), (3, .int d)] []
  refine x_aload_n (pc := 0) K 0 d_C_add_0 rfl ?_
  refine x_geti (pc := 1) K (n := 272) (k := 3) (zlt shC) shC rfl rfl (by decide) (fun _ q => zmem (uw_C _ q)) (zmem lk_C_31) d_C_add_1 ?_
  refine x_eqi (y := nI (cz M.1)) (hz.1) ?_
  refine x_sipush (pc := 4) K (v := nI 636) d_C_add_4 (by decide) ?_
  refine x_icmp_ge (pc := 7) K (tgt := 50) d_C_add_7 (by decide) (fun c7 => ?_) (fun c7 => ?_)
  · skip
    have hic : ¬ cz M.1 < 636 := fun q => absurd (show nI 636 ≤ nI (cz M.1) from c7) (nI_ge q (by omega))
    exact x_vret (pc := 50) K rfl ((if_neg hic).symm) d_C_add_50
  · skip
    have hic : cz M.1 < 636 := Nat.not_le.mp (fun q => c7 (show nI 636 ≤ nI (cz M.1) from nI_le q (by omega)))
    refine x_aload_n (pc := 10) K 0 d_C_add_10 rfl ?_
    refine x_getr (pc := 11) K (n := 272) (n' := 273) (k := 0) (zlt shC) shC rfl hR.c273 rfl (by decide) (fun _ q => zmem (uw_C _ q)) (zmem lk_C_9) d_C_add_11 ?_
    refine x_aload_n (pc := 14) K 0 d_C_add_14 rfl ?_
    refine x_geti (pc := 15) K (n := 272) (k := 3) (zlt shC) shC rfl rfl (by decide) (fun _ q => zmem (uw_C _ q)) (zmem lk_C_31) d_C_add_15 ?_
    refine x_eqi (y := nI (cz M.1)) (hz.1) ?_
    refine x_iload_n (pc := 18) K 1 d_C_add_18 rfl ?_
    refine x_iast (pc := 19) K (n := 273) (j := (cz M.1)) (x := r) rfl (by omega) (zlt sh273) sh273 rfl (by decide) d_C_add_19 ?_
    refine x_aload_n (pc := 20) K 0 d_C_add_20 rfl ?_
    refine x_getr (pc := 21) K (n := 272) (n' := 274) (k := 1) (zlt shC) shC rfl hR.c274 rfl (by decide) (fun _ q => zmem (uw_C _ q)) (zmem lk_C_15) d_C_add_21 ?_
    refine x_aload_n (pc := 24) K 0 d_C_add_24 rfl ?_
    refine x_geti (pc := 25) K (n := 272) (k := 3) (zlt shC) shC rfl rfl (by decide) (fun _ q => zmem (uw_C _ q)) (zmem lk_C_31) d_C_add_25 ?_
    refine x_eqi (y := nI (cz M.1)) (by rw [rdI_ne (Or.inl (by decide))]; exact hz.1) ?_
    refine x_iload_n (pc := 28) K 2 d_C_add_28 rfl ?_
    refine x_iast (pc := 29) K (n := 274) (j := (cz M.1)) (x := t) rfl (by omega) (zlt sh274) sh274 rfl (by decide) d_C_add_29 ?_
    refine x_aload_n (pc := 30) K 0 d_C_add_30 rfl ?_
    refine x_getr (pc := 31) K (n := 272) (n' := 275) (k := 2) (zlt shC) shC rfl hR.c275 rfl (by decide) (fun _ q => zmem (uw_C _ q)) (zmem lk_C_18) d_C_add_31 ?_
    refine x_aload_n (pc := 34) K 0 d_C_add_34 rfl ?_
    refine x_geti (pc := 35) K (n := 272) (k := 3) (zlt shC) shC rfl rfl (by decide) (fun _ q => zmem (uw_C _ q)) (zmem lk_C_31) d_C_add_35 ?_
    refine x_eqi (y := nI (cz M.1)) (by rw [rdI_ne (Or.inl (by decide)), rdI_ne (Or.inl (by decide))]; exact hz.1) ?_
    refine x_iload_n (pc := 38) K 3 d_C_add_38 rfl ?_
    refine x_iast (pc := 39) K (n := 275) (j := (cz M.1)) (x := d) rfl (by omega) (zlt sh275) sh275 rfl (by decide) d_C_add_39 ?_
    refine x_aload_n (pc := 40) K 0 d_C_add_40 rfl ?_
    refine x_dup (pc := 41) K d_C_add_41 rfl ?_
    refine x_geti (pc := 42) K (n := 272) (k := 3) (zlt shC) shC rfl rfl (by decide) (fun _ q => zmem (uw_C _ q)) (zmem lk_C_31) d_C_add_42 ?_
    refine x_eqi (y := nI (cz M.1)) (by rw [rdI_ne (Or.inl (by decide)), rdI_ne (Or.inl (by decide)), rdI_ne (Or.inl (by decide))]; exact hz.1) ?_
    refine x_iconst (pc := 45) K (v := 1) d_C_add_45 (by decide) ?_
    refine x_iadd (pc := 46) K d_C_add_46 ?_
    refine x_eqi (y := nI (cz M.1 + 1)) (nI_1 _) ?_
    refine x_puti (pc := 47) K (n := 272) (k := 3) (x := nI (cz M.1 + 1)) uY_C tk_C nm_C (zlt shC) shC rfl rfl (by decide) (fun _ q => zmem (uw_C _ q)) (zmem lk_C_31) rfl rfl rfl d_C_add_47 ?_
    exact x_vret (pc := 50) K rfl ((if_pos hic).symm) d_C_add_50
/-- rule r of 6 .. 11, the old member a, the new one b -/
def brO (μ : Nat → Nat → Int32) (r n1 a b : Nat) : Prop :=
  if r = 6 then (μ b 2 &&& 3) < (μ a 2 &&& 3)
  else if r = 7 then ¬ bI (¬ μ a 2 &&& 4 = 0) = bI (¬ μ b 2 &&& 4 = 0)
  else if r = 8 then μ a 0 = 0 ∧ (¬ ¬ μ a 2 &&& 8 = 0) ∧ ¬ μ b 2 &&& 8 = 0
  else if r = 9 then ¬ μ a 3 = 0 ∧ ¬ (¬ μ a 3 = 0 ∧ ¬ μ b 3 = 0 ∧ μ a 4 = μ b 4)
  else if r = 10 then μ a 0 = 1 ∧ (¬ ¬ μ a 2 &&& 16 = 0) ∧ ¬ μ b 2 &&& 16 = 0
  else if r = 11 then μ a 0 = 1 ∧ (¬ ¬ μ a 2 &&& 12 = 0) ∧ (¬ ¬ μ n1 2 &&& 4 = 0) ∧ ¬ μ b 2 &&& 8 = 0
  else False
theorem brO_dec (μ : Nat → Nat → Int32) (r n1 a b : Nat) : brO μ r n1 a b ∨ ¬ brO μ r n1 a b := Classical.em _
set_option maxHeartbeats 4000000 in
set_option maxRecDepth 100000 in
theorem c_C_breaksAsOldN (l : Launch) (w : fl_W) (M : fl_M) (n1 a : Nat) (hT : zSh n1 = zsT) (hA : zSh a = zsM) (r : Int32) : CT l y_C_breaksAsOld w_C_breaksAsOld rm_C_breaksAsOld w zN [.int r, .ref (w.2.2 + n1), .ref (w.2.2 + a), .null] M (some (.int (bI (r = 5)))) M := by
  refine CT.of (cc := b_C_breaksAsOld) (own := "CompatibilityJudge$Comparison") (by decide) rfl rfl (Nat.le_of_ble_eq_true rfl) ?_
  intro p9 e9 s9 m9 ag9 bl9 mt9 c9 K
  show XW p9 l e9 (rm_C_breaksAsOld) s9 m9 ag9 bl9 mt9 c9 4 0 0 (MQ bl9 (CQ w zN (some (.int (bI (r = 5)))) M) ag9 s9 0 0 (fun q : Nat => w.2.2 ≤ q)) w zN M 0 [(0, .int r), (1, .ref (w.2.2 + n1)), (2, .ref (w.2.2 + a)), (3, .null)] []
  refine x_aload_nN (pc := 0) K 3 d_C_breaksAsOld_0 rfl ?_
  refine x_ifnonnullN (pc := 1) K d_C_breaksAsOld_1 ?_
  refine x_iload_n (pc := 4) K 0 d_C_breaksAsOld_4 rfl ?_
  refine x_iconst (pc := 5) K (v := 5) d_C_breaksAsOld_5 (by decide) ?_
  refine x_icmp_ne (pc := 6) K (tgt := 13) d_C_breaksAsOld_6 (by decide) (fun c6 => ?_) (fun c6 => ?_)
  · skip
    refine x_iconst (pc := 13) K (v := 0) d_C_breaksAsOld_13 (by decide) ?_
    exact x_zret (pc := 14) K (rF (by simp_all)) rfl rfl d_C_breaksAsOld_14
  · skip
    refine x_iconst (pc := 9) K (v := 1) d_C_breaksAsOld_9 (by decide) ?_
    refine x_goto (pc := 10) K (tgt := 14) d_C_breaksAsOld_10 (by decide) ?_
    exact x_zret (pc := 14) K (rT (by simp_all)) rfl rfl d_C_breaksAsOld_14
set_option maxHeartbeats 4000000 in
set_option maxRecDepth 100000 in
theorem c_C_breaksAsOld5 (l : Launch) (w : fl_W) (M : fl_M) (n1 a b : Nat) (hT : zSh n1 = zsT) (hA : zSh a = zsM) (hB : zSh b = zsM)  : CT l y_C_breaksAsOld w_C_breaksAsOld rm_C_breaksAsOld w zN [.int (nI 5), .ref (w.2.2 + n1), .ref (w.2.2 + a), .ref (w.2.2 + b)] M (some (.int (bI (False)))) M := by
  refine CT.of (cc := b_C_breaksAsOld) (own := "CompatibilityJudge$Comparison") (by decide) rfl rfl (Nat.le_of_ble_eq_true rfl) ?_
  intro p9 e9 s9 m9 ag9 bl9 mt9 c9 K
  show XW p9 l e9 (rm_C_breaksAsOld) s9 m9 ag9 bl9 mt9 c9 4 0 0 (MQ bl9 (CQ w zN (some (.int (bI (False)))) M) ag9 s9 0 0 (fun q : Nat => w.2.2 ≤ q)) w zN M 0 [(0, .int (nI 5)), (1, .ref (w.2.2 + n1)), (2, .ref (w.2.2 + a)), (3, .ref (w.2.2 + b))] []
  refine x_aload_n (pc := 0) K 3 d_C_breaksAsOld_0 rfl ?_
  refine x_ifnonnull (pc := 1) K (tgt := 15) d_C_breaksAsOld_1 (by decide) ?_
  refine x_iload_n (pc := 15) K 0 d_C_breaksAsOld_15 rfl ?_
  refine x_tableOut (pc := 16) K (tgt := 216) d_C_breaksAsOld_16 (by decide) (by decide) ?_
  refine x_iconst (pc := 216) K (v := 0) d_C_breaksAsOld_216 (by decide) ?_
  exact x_zret (pc := 217) K (rF (by first | (simp_all; done) | grind)) rfl rfl d_C_breaksAsOld_217
set_option maxHeartbeats 4000000 in
set_option maxRecDepth 100000 in
theorem c_C_breaksAsOld6 (l : Launch) (w : fl_W) (M : fl_M) (n1 a b : Nat) (hT : zSh n1 = zsT) (hA : zSh a = zsM) (hB : zSh b = zsM)  : CT l y_C_breaksAsOld w_C_breaksAsOld rm_C_breaksAsOld w zN [.int (nI 6), .ref (w.2.2 + n1), .ref (w.2.2 + a), .ref (w.2.2 + b)] M (some (.int (bI ((M.1 b 2 &&& 3) < (M.1 a 2 &&& 3))))) M := by
  refine CT.of (cc := b_C_breaksAsOld) (own := "CompatibilityJudge$Comparison") (by decide) rfl rfl (Nat.le_of_ble_eq_true rfl) ?_
  intro p9 e9 s9 m9 ag9 bl9 mt9 c9 K
  show XW p9 l e9 (rm_C_breaksAsOld) s9 m9 ag9 bl9 mt9 c9 4 0 0 (MQ bl9 (CQ w zN (some (.int (bI ((M.1 b 2 &&& 3) < (M.1 a 2 &&& 3))))) M) ag9 s9 0 0 (fun q : Nat => w.2.2 ≤ q)) w zN M 0 [(0, .int (nI 6)), (1, .ref (w.2.2 + n1)), (2, .ref (w.2.2 + a)), (3, .ref (w.2.2 + b))] []
  refine x_aload_n (pc := 0) K 3 d_C_breaksAsOld_0 rfl ?_
  refine x_ifnonnull (pc := 1) K (tgt := 15) d_C_breaksAsOld_1 (by decide) ?_
  refine x_iload_n (pc := 15) K 0 d_C_breaksAsOld_15 rfl ?_
  refine x_tableIn (pc := 16) K (tgt := 56) d_C_breaksAsOld_16 (by decide) (by decide) (off := 40) (by decide) (by decide) ?_
  refine x_aload_n (pc := 56) K 3 d_C_breaksAsOld_56 rfl ?_
  refine x_callV (pc := 57) K (As := []) (rest := []) (c_M_access l w M b hB) (zcwV K.ts lk_C_112 im_M_access se_M_access ii_M co_M_access pd_M_access ⟨rfl, rfl⟩ ⟨by decide, by decide⟩) (zlt hB) hB rfl rfl rfl (Nat.le_of_ble_eq_true rfl) ⟨Nat.zero_le _, Nat.zero_le _⟩ d_C_breaksAsOld_57 ?_
  refine x_aload_n (pc := 60) K 2 d_C_breaksAsOld_60 rfl ?_
  refine x_callV (pc := 61) K (As := []) (rest := [.int (M.1 b 2 &&& 3)]) (c_M_access l w M a hA) (zcwV K.ts lk_C_112 im_M_access se_M_access ii_M co_M_access pd_M_access ⟨rfl, rfl⟩ ⟨by decide, by decide⟩) (zlt hA) hA rfl rfl rfl (Nat.le_of_ble_eq_true rfl) ⟨Nat.zero_le _, Nat.zero_le _⟩ d_C_breaksAsOld_61 ?_
  refine x_icmp_ge (pc := 64) K (tgt := 71) d_C_breaksAsOld_64 (by decide) (fun c64 => ?_) (fun c64 => ?_)
  · skip
    refine x_iconst (pc := 71) K (v := 0) d_C_breaksAsOld_71 (by decide) ?_
    exact x_zret (pc := 72) K (rF (by first | (simp_all; done) | grind)) rfl rfl d_C_breaksAsOld_72
  · skip
    refine x_iconst (pc := 67) K (v := 1) d_C_breaksAsOld_67 (by decide) ?_
    refine x_goto (pc := 68) K (tgt := 72) d_C_breaksAsOld_68 (by decide) ?_
    exact x_zret (pc := 72) K (rT (by first | (simp_all; done) | grind)) rfl rfl d_C_breaksAsOld_72
set_option maxHeartbeats 4000000 in
set_option maxRecDepth 100000 in
theorem c_C_breaksAsOld7 (l : Launch) (w : fl_W) (M : fl_M) (n1 a b : Nat) (hT : zSh n1 = zsT) (hA : zSh a = zsM) (hB : zSh b = zsM)  : CT l y_C_breaksAsOld w_C_breaksAsOld rm_C_breaksAsOld w zN [.int (nI 7), .ref (w.2.2 + n1), .ref (w.2.2 + a), .ref (w.2.2 + b)] M (some (.int (bI (¬ bI (¬ M.1 a 2 &&& 4 = 0) = bI (¬ M.1 b 2 &&& 4 = 0))))) M := by
  refine CT.of (cc := b_C_breaksAsOld) (own := "CompatibilityJudge$Comparison") (by decide) rfl rfl (Nat.le_of_ble_eq_true rfl) ?_
  intro p9 e9 s9 m9 ag9 bl9 mt9 c9 K
  show XW p9 l e9 (rm_C_breaksAsOld) s9 m9 ag9 bl9 mt9 c9 4 0 0 (MQ bl9 (CQ w zN (some (.int (bI (¬ bI (¬ M.1 a 2 &&& 4 = 0) = bI (¬ M.1 b 2 &&& 4 = 0))))) M) ag9 s9 0 0 (fun q : Nat => w.2.2 ≤ q)) w zN M 0 [(0, .int (nI 7)), (1, .ref (w.2.2 + n1)), (2, .ref (w.2.2 + a)), (3, .ref (w.2.2 + b))] []
  refine x_aload_n (pc := 0) K 3 d_C_breaksAsOld_0 rfl ?_
  refine x_ifnonnull (pc := 1) K (tgt := 15) d_C_breaksAsOld_1 (by decide) ?_
  refine x_iload_n (pc := 15) K 0 d_C_breaksAsOld_15 rfl ?_
  refine x_tableIn (pc := 16) K (tgt := 73) d_C_breaksAsOld_16 (by decide) (by decide) (off := 57) (by decide) (by decide) ?_
  refine x_aload_n (pc := 73) K 2 d_C_breaksAsOld_73 rfl ?_
  refine x_iconst (pc := 74) K (v := 4) d_C_breaksAsOld_74 (by decide) ?_
  refine x_callV (pc := 75) K (As := [.int 4]) (rest := []) (c_M_hasAny l w M 4 a hA) (zcwV K.ts lk_C_116 im_M_hasAny se_M_hasAny ii_M co_M_hasAny pd_M_hasAny ⟨rfl, rfl⟩ ⟨by decide, by decide⟩) (zlt hA) hA rfl rfl rfl (Nat.le_of_ble_eq_true rfl) ⟨Nat.zero_le _, Nat.zero_le _⟩ d_C_breaksAsOld_75 ?_
  refine x_aload_n (pc := 78) K 3 d_C_breaksAsOld_78 rfl ?_
  refine x_iconst (pc := 79) K (v := 4) d_C_breaksAsOld_79 (by decide) ?_
  refine x_callV (pc := 80) K (As := [.int 4]) (rest := [.int (bI (¬ M.1 a 2 &&& 4 = 0))]) (c_M_hasAny l w M 4 b hB) (zcwV K.ts lk_C_116 im_M_hasAny se_M_hasAny ii_M co_M_hasAny pd_M_hasAny ⟨rfl, rfl⟩ ⟨by decide, by decide⟩) (zlt hB) hB rfl rfl rfl (Nat.le_of_ble_eq_true rfl) ⟨Nat.zero_le _, Nat.zero_le _⟩ d_C_breaksAsOld_80 ?_
  refine x_icmp_eq (pc := 83) K (tgt := 90) d_C_breaksAsOld_83 (by decide) (fun c83 => ?_) (fun c83 => ?_)
  · skip
    refine x_iconst (pc := 90) K (v := 0) d_C_breaksAsOld_90 (by decide) ?_
    exact x_zret (pc := 91) K (rF (by first | (simp_all; done) | grind)) rfl rfl d_C_breaksAsOld_91
  · skip
    refine x_iconst (pc := 86) K (v := 1) d_C_breaksAsOld_86 (by decide) ?_
    refine x_goto (pc := 87) K (tgt := 91) d_C_breaksAsOld_87 (by decide) ?_
    exact x_zret (pc := 91) K (rT (by first | (simp_all; done) | grind)) rfl rfl d_C_breaksAsOld_91
set_option maxHeartbeats 4000000 in
set_option maxRecDepth 100000 in
theorem c_C_breaksAsOld8 (l : Launch) (w : fl_W) (M : fl_M) (n1 a b : Nat) (hT : zSh n1 = zsT) (hA : zSh a = zsM) (hB : zSh b = zsM)  : CT l y_C_breaksAsOld w_C_breaksAsOld rm_C_breaksAsOld w zN [.int (nI 8), .ref (w.2.2 + n1), .ref (w.2.2 + a), .ref (w.2.2 + b)] M (some (.int (bI (M.1 a 0 = 0 ∧ (¬ ¬ M.1 a 2 &&& 8 = 0) ∧ ¬ M.1 b 2 &&& 8 = 0)))) M := by
  refine CT.of (cc := b_C_breaksAsOld) (own := "CompatibilityJudge$Comparison") (by decide) rfl rfl (Nat.le_of_ble_eq_true rfl) ?_
  intro p9 e9 s9 m9 ag9 bl9 mt9 c9 K
  show XW p9 l e9 (rm_C_breaksAsOld) s9 m9 ag9 bl9 mt9 c9 4 0 0 (MQ bl9 (CQ w zN (some (.int (bI (M.1 a 0 = 0 ∧ (¬ ¬ M.1 a 2 &&& 8 = 0) ∧ ¬ M.1 b 2 &&& 8 = 0)))) M) ag9 s9 0 0 (fun q : Nat => w.2.2 ≤ q)) w zN M 0 [(0, .int (nI 8)), (1, .ref (w.2.2 + n1)), (2, .ref (w.2.2 + a)), (3, .ref (w.2.2 + b))] []
  refine x_aload_n (pc := 0) K 3 d_C_breaksAsOld_0 rfl ?_
  refine x_ifnonnull (pc := 1) K (tgt := 15) d_C_breaksAsOld_1 (by decide) ?_
  refine x_iload_n (pc := 15) K 0 d_C_breaksAsOld_15 rfl ?_
  refine x_tableIn (pc := 16) K (tgt := 92) d_C_breaksAsOld_16 (by decide) (by decide) (off := 76) (by decide) (by decide) ?_
  refine x_aload_n (pc := 92) K 2 d_C_breaksAsOld_92 rfl ?_
  refine x_geti (pc := 93) K (n := a) (k := 0) (zlt hA) hA rfl rfl (by decide) (fun _ q => zmem (uw_M _ q)) (zmem lk_C_96) d_C_breaksAsOld_93 ?_
  refine x_if_ne (pc := 96) K (tgt := 121) d_C_breaksAsOld_96 (by decide) (fun c96 => ?_) (fun c96 => ?_)
  · skip
    refine x_iconst (pc := 121) K (v := 0) d_C_breaksAsOld_121 (by decide) ?_
    exact x_zret (pc := 122) K (rF (by first | (simp_all; done) | grind)) rfl rfl d_C_breaksAsOld_122
  · skip
    refine x_aload_n (pc := 99) K 2 d_C_breaksAsOld_99 rfl ?_
    refine x_bipush (pc := 100) K (v := 8) d_C_breaksAsOld_100 (by decide) ?_
    refine x_callV (pc := 102) K (As := [.int 8]) (rest := []) (c_M_hasAny l w M 8 a hA) (zcwV K.ts lk_C_116 im_M_hasAny se_M_hasAny ii_M co_M_hasAny pd_M_hasAny ⟨rfl, rfl⟩ ⟨by decide, by decide⟩) (zlt hA) hA rfl rfl rfl (Nat.le_of_ble_eq_true rfl) ⟨Nat.zero_le _, Nat.zero_le _⟩ d_C_breaksAsOld_102 ?_
    refine x_ifneB (pc := 105) K (tgt := 121) d_C_breaksAsOld_105 (by decide) (fun c105 => ?_) (fun c105 => ?_)
    · skip
      refine x_iconst (pc := 121) K (v := 0) d_C_breaksAsOld_121 (by decide) ?_
      exact x_zret (pc := 122) K (rF (by first | (simp_all; done) | grind)) rfl rfl d_C_breaksAsOld_122
    · skip
      refine x_aload_n (pc := 108) K 3 d_C_breaksAsOld_108 rfl ?_
      refine x_bipush (pc := 109) K (v := 8) d_C_breaksAsOld_109 (by decide) ?_
      refine x_callV (pc := 111) K (As := [.int 8]) (rest := []) (c_M_hasAny l w M 8 b hB) (zcwV K.ts lk_C_116 im_M_hasAny se_M_hasAny ii_M co_M_hasAny pd_M_hasAny ⟨rfl, rfl⟩ ⟨by decide, by decide⟩) (zlt hB) hB rfl rfl rfl (Nat.le_of_ble_eq_true rfl) ⟨Nat.zero_le _, Nat.zero_le _⟩ d_C_breaksAsOld_111 ?_
      refine x_ifeqB (pc := 114) K (tgt := 121) d_C_breaksAsOld_114 (by decide) (fun c114 => ?_) (fun c114 => ?_)
      · skip
        refine x_iconst (pc := 121) K (v := 0) d_C_breaksAsOld_121 (by decide) ?_
        exact x_zret (pc := 122) K (rF (by first | (simp_all; done) | grind)) rfl rfl d_C_breaksAsOld_122
      · skip
        refine x_iconst (pc := 117) K (v := 1) d_C_breaksAsOld_117 (by decide) ?_
        refine x_goto (pc := 118) K (tgt := 122) d_C_breaksAsOld_118 (by decide) ?_
        exact x_zret (pc := 122) K (rT (by first | (simp_all; done) | grind)) rfl rfl d_C_breaksAsOld_122
set_option maxHeartbeats 4000000 in
set_option maxRecDepth 100000 in
theorem c_C_breaksAsOld9 (l : Launch) (w : fl_W) (M : fl_M) (n1 a b : Nat) (hT : zSh n1 = zsT) (hA : zSh a = zsM) (hB : zSh b = zsM)  : CT l y_C_breaksAsOld w_C_breaksAsOld rm_C_breaksAsOld w zN [.int (nI 9), .ref (w.2.2 + n1), .ref (w.2.2 + a), .ref (w.2.2 + b)] M (some (.int (bI (¬ M.1 a 3 = 0 ∧ ¬ (¬ M.1 a 3 = 0 ∧ ¬ M.1 b 3 = 0 ∧ M.1 a 4 = M.1 b 4))))) M := by
  refine CT.of (cc := b_C_breaksAsOld) (own := "CompatibilityJudge$Comparison") (by decide) rfl rfl (Nat.le_of_ble_eq_true rfl) ?_
  intro p9 e9 s9 m9 ag9 bl9 mt9 c9 K
  show XW p9 l e9 (rm_C_breaksAsOld) s9 m9 ag9 bl9 mt9 c9 4 0 0 (MQ bl9 (CQ w zN (some (.int (bI (¬ M.1 a 3 = 0 ∧ ¬ (¬ M.1 a 3 = 0 ∧ ¬ M.1 b 3 = 0 ∧ M.1 a 4 = M.1 b 4))))) M) ag9 s9 0 0 (fun q : Nat => w.2.2 ≤ q)) w zN M 0 [(0, .int (nI 9)), (1, .ref (w.2.2 + n1)), (2, .ref (w.2.2 + a)), (3, .ref (w.2.2 + b))] []
  refine x_aload_n (pc := 0) K 3 d_C_breaksAsOld_0 rfl ?_
  refine x_ifnonnull (pc := 1) K (tgt := 15) d_C_breaksAsOld_1 (by decide) ?_
  refine x_iload_n (pc := 15) K 0 d_C_breaksAsOld_15 rfl ?_
  refine x_tableIn (pc := 16) K (tgt := 123) d_C_breaksAsOld_16 (by decide) (by decide) (off := 107) (by decide) (by decide) ?_
  refine x_aload_n (pc := 123) K 2 d_C_breaksAsOld_123 rfl ?_
  refine x_geti (pc := 124) K (n := a) (k := 3) (zlt hA) hA rfl rfl (by decide) (fun _ q => zmem (uw_M _ q)) (zmem lk_C_117) d_C_breaksAsOld_124 ?_
  refine x_if_eq (pc := 127) K (tgt := 142) d_C_breaksAsOld_127 (by decide) (fun c127 => ?_) (fun c127 => ?_)
  · skip
    refine x_iconst (pc := 142) K (v := 0) d_C_breaksAsOld_142 (by decide) ?_
    exact x_zret (pc := 143) K (rF (by first | (simp_all; done) | grind)) rfl rfl d_C_breaksAsOld_143
  · skip
    refine x_aload_n (pc := 130) K 2 d_C_breaksAsOld_130 rfl ?_
    refine x_aload_n (pc := 131) K 3 d_C_breaksAsOld_131 rfl ?_
    refine x_callV (pc := 132) K (As := [.ref (w.2.2 + b)]) (rest := []) (c_M_hasConstantOf l w M b hB a hA) (zcwV K.ts lk_C_120 im_M_hasConstantOf se_M_hasConstantOf ii_M co_M_hasConstantOf pd_M_hasConstantOf ⟨rfl, rfl⟩ ⟨by decide, by decide⟩) (zlt hA) hA rfl rfl rfl (Nat.le_of_ble_eq_true rfl) ⟨Nat.zero_le _, Nat.zero_le _⟩ d_C_breaksAsOld_132 ?_
    refine x_ifneB (pc := 135) K (tgt := 142) d_C_breaksAsOld_135 (by decide) (fun c135 => ?_) (fun c135 => ?_)
    · skip
      refine x_iconst (pc := 142) K (v := 0) d_C_breaksAsOld_142 (by decide) ?_
      exact x_zret (pc := 143) K (rF (by first | (simp_all; done) | grind)) rfl rfl d_C_breaksAsOld_143
    · skip
      refine x_iconst (pc := 138) K (v := 1) d_C_breaksAsOld_138 (by decide) ?_
      refine x_goto (pc := 139) K (tgt := 143) d_C_breaksAsOld_139 (by decide) ?_
      exact x_zret (pc := 143) K (rT (by first | (simp_all; done) | grind)) rfl rfl d_C_breaksAsOld_143
set_option maxHeartbeats 4000000 in
set_option maxRecDepth 100000 in
theorem c_C_breaksAsOld10 (l : Launch) (w : fl_W) (M : fl_M) (n1 a b : Nat) (hT : zSh n1 = zsT) (hA : zSh a = zsM) (hB : zSh b = zsM)  : CT l y_C_breaksAsOld w_C_breaksAsOld rm_C_breaksAsOld w zN [.int (nI 10), .ref (w.2.2 + n1), .ref (w.2.2 + a), .ref (w.2.2 + b)] M (some (.int (bI (M.1 a 0 = 1 ∧ (¬ ¬ M.1 a 2 &&& 16 = 0) ∧ ¬ M.1 b 2 &&& 16 = 0)))) M := by
  refine CT.of (cc := b_C_breaksAsOld) (own := "CompatibilityJudge$Comparison") (by decide) rfl rfl (Nat.le_of_ble_eq_true rfl) ?_
  intro p9 e9 s9 m9 ag9 bl9 mt9 c9 K
  show XW p9 l e9 (rm_C_breaksAsOld) s9 m9 ag9 bl9 mt9 c9 4 0 0 (MQ bl9 (CQ w zN (some (.int (bI (M.1 a 0 = 1 ∧ (¬ ¬ M.1 a 2 &&& 16 = 0) ∧ ¬ M.1 b 2 &&& 16 = 0)))) M) ag9 s9 0 0 (fun q : Nat => w.2.2 ≤ q)) w zN M 0 [(0, .int (nI 10)), (1, .ref (w.2.2 + n1)), (2, .ref (w.2.2 + a)), (3, .ref (w.2.2 + b))] []
  refine x_aload_n (pc := 0) K 3 d_C_breaksAsOld_0 rfl ?_
  refine x_ifnonnull (pc := 1) K (tgt := 15) d_C_breaksAsOld_1 (by decide) ?_
  refine x_iload_n (pc := 15) K 0 d_C_breaksAsOld_15 rfl ?_
  refine x_tableIn (pc := 16) K (tgt := 144) d_C_breaksAsOld_16 (by decide) (by decide) (off := 128) (by decide) (by decide) ?_
  refine x_aload_n (pc := 144) K 2 d_C_breaksAsOld_144 rfl ?_
  refine x_geti (pc := 145) K (n := a) (k := 0) (zlt hA) hA rfl rfl (by decide) (fun _ q => zmem (uw_M _ q)) (zmem lk_C_96) d_C_breaksAsOld_145 ?_
  refine x_iconst (pc := 148) K (v := 1) d_C_breaksAsOld_148 (by decide) ?_
  refine x_icmp_ne (pc := 149) K (tgt := 174) d_C_breaksAsOld_149 (by decide) (fun c149 => ?_) (fun c149 => ?_)
  · skip
    refine x_iconst (pc := 174) K (v := 0) d_C_breaksAsOld_174 (by decide) ?_
    exact x_zret (pc := 175) K (rF (by first | (simp_all; done) | grind)) rfl rfl d_C_breaksAsOld_175
  · skip
    refine x_aload_n (pc := 152) K 2 d_C_breaksAsOld_152 rfl ?_
    refine x_bipush (pc := 153) K (v := 16) d_C_breaksAsOld_153 (by decide) ?_
    refine x_callV (pc := 155) K (As := [.int 16]) (rest := []) (c_M_hasAny l w M 16 a hA) (zcwV K.ts lk_C_116 im_M_hasAny se_M_hasAny ii_M co_M_hasAny pd_M_hasAny ⟨rfl, rfl⟩ ⟨by decide, by decide⟩) (zlt hA) hA rfl rfl rfl (Nat.le_of_ble_eq_true rfl) ⟨Nat.zero_le _, Nat.zero_le _⟩ d_C_breaksAsOld_155 ?_
    refine x_ifneB (pc := 158) K (tgt := 174) d_C_breaksAsOld_158 (by decide) (fun c158 => ?_) (fun c158 => ?_)
    · skip
      refine x_iconst (pc := 174) K (v := 0) d_C_breaksAsOld_174 (by decide) ?_
      exact x_zret (pc := 175) K (rF (by first | (simp_all; done) | grind)) rfl rfl d_C_breaksAsOld_175
    · skip
      refine x_aload_n (pc := 161) K 3 d_C_breaksAsOld_161 rfl ?_
      refine x_bipush (pc := 162) K (v := 16) d_C_breaksAsOld_162 (by decide) ?_
      refine x_callV (pc := 164) K (As := [.int 16]) (rest := []) (c_M_hasAny l w M 16 b hB) (zcwV K.ts lk_C_116 im_M_hasAny se_M_hasAny ii_M co_M_hasAny pd_M_hasAny ⟨rfl, rfl⟩ ⟨by decide, by decide⟩) (zlt hB) hB rfl rfl rfl (Nat.le_of_ble_eq_true rfl) ⟨Nat.zero_le _, Nat.zero_le _⟩ d_C_breaksAsOld_164 ?_
      refine x_ifeqB (pc := 167) K (tgt := 174) d_C_breaksAsOld_167 (by decide) (fun c167 => ?_) (fun c167 => ?_)
      · skip
        refine x_iconst (pc := 174) K (v := 0) d_C_breaksAsOld_174 (by decide) ?_
        exact x_zret (pc := 175) K (rF (by first | (simp_all; done) | grind)) rfl rfl d_C_breaksAsOld_175
      · skip
        refine x_iconst (pc := 170) K (v := 1) d_C_breaksAsOld_170 (by decide) ?_
        refine x_goto (pc := 171) K (tgt := 175) d_C_breaksAsOld_171 (by decide) ?_
        exact x_zret (pc := 175) K (rT (by first | (simp_all; done) | grind)) rfl rfl d_C_breaksAsOld_175
set_option maxHeartbeats 4000000 in
set_option maxRecDepth 100000 in
theorem c_C_breaksAsOld11 (l : Launch) (w : fl_W) (M : fl_M) (n1 a b : Nat) (hT : zSh n1 = zsT) (hA : zSh a = zsM) (hB : zSh b = zsM)  : CT l y_C_breaksAsOld w_C_breaksAsOld rm_C_breaksAsOld w zN [.int (nI 11), .ref (w.2.2 + n1), .ref (w.2.2 + a), .ref (w.2.2 + b)] M (some (.int (bI (M.1 a 0 = 1 ∧ (¬ ¬ M.1 a 2 &&& 12 = 0) ∧ (¬ ¬ M.1 n1 2 &&& 4 = 0) ∧ ¬ M.1 b 2 &&& 8 = 0)))) M := by
  refine CT.of (cc := b_C_breaksAsOld) (own := "CompatibilityJudge$Comparison") (by decide) rfl rfl (Nat.le_of_ble_eq_true rfl) ?_
  intro p9 e9 s9 m9 ag9 bl9 mt9 c9 K
  show XW p9 l e9 (rm_C_breaksAsOld) s9 m9 ag9 bl9 mt9 c9 4 0 0 (MQ bl9 (CQ w zN (some (.int (bI (M.1 a 0 = 1 ∧ (¬ ¬ M.1 a 2 &&& 12 = 0) ∧ (¬ ¬ M.1 n1 2 &&& 4 = 0) ∧ ¬ M.1 b 2 &&& 8 = 0)))) M) ag9 s9 0 0 (fun q : Nat => w.2.2 ≤ q)) w zN M 0 [(0, .int (nI 11)), (1, .ref (w.2.2 + n1)), (2, .ref (w.2.2 + a)), (3, .ref (w.2.2 + b))] []
  refine x_aload_n (pc := 0) K 3 d_C_breaksAsOld_0 rfl ?_
  refine x_ifnonnull (pc := 1) K (tgt := 15) d_C_breaksAsOld_1 (by decide) ?_
  refine x_iload_n (pc := 15) K 0 d_C_breaksAsOld_15 rfl ?_
  refine x_tableIn (pc := 16) K (tgt := 176) d_C_breaksAsOld_16 (by decide) (by decide) (off := 160) (by decide) (by decide) ?_
  refine x_aload_n (pc := 176) K 2 d_C_breaksAsOld_176 rfl ?_
  refine x_geti (pc := 177) K (n := a) (k := 0) (zlt hA) hA rfl rfl (by decide) (fun _ q => zmem (uw_M _ q)) (zmem lk_C_96) d_C_breaksAsOld_177 ?_
  refine x_iconst (pc := 180) K (v := 1) d_C_breaksAsOld_180 (by decide) ?_
  refine x_icmp_ne (pc := 181) K (tgt := 214) d_C_breaksAsOld_181 (by decide) (fun c181 => ?_) (fun c181 => ?_)
  · skip
    refine x_iconst (pc := 214) K (v := 0) d_C_breaksAsOld_214 (by decide) ?_
    exact x_zret (pc := 215) K (rF (by first | (simp_all; done) | grind)) rfl rfl d_C_breaksAsOld_215
  · skip
    refine x_aload_n (pc := 184) K 2 d_C_breaksAsOld_184 rfl ?_
    refine x_bipush (pc := 185) K (v := 12) d_C_breaksAsOld_185 (by decide) ?_
    refine x_callV (pc := 187) K (As := [.int 12]) (rest := []) (c_M_hasAny l w M 12 a hA) (zcwV K.ts lk_C_116 im_M_hasAny se_M_hasAny ii_M co_M_hasAny pd_M_hasAny ⟨rfl, rfl⟩ ⟨by decide, by decide⟩) (zlt hA) hA rfl rfl rfl (Nat.le_of_ble_eq_true rfl) ⟨Nat.zero_le _, Nat.zero_le _⟩ d_C_breaksAsOld_187 ?_
    refine x_ifneB (pc := 190) K (tgt := 214) d_C_breaksAsOld_190 (by decide) (fun c190 => ?_) (fun c190 => ?_)
    · skip
      refine x_iconst (pc := 214) K (v := 0) d_C_breaksAsOld_214 (by decide) ?_
      exact x_zret (pc := 215) K (rF (by first | (simp_all; done) | grind)) rfl rfl d_C_breaksAsOld_215
    · skip
      refine x_aload_n (pc := 193) K 1 d_C_breaksAsOld_193 rfl ?_
      refine x_iconst (pc := 194) K (v := 4) d_C_breaksAsOld_194 (by decide) ?_
      refine x_callV (pc := 195) K (As := [.int 4]) (rest := []) (c_T_hasAny l w M 4 n1 hT) (zcwV K.ts lk_C_72 im_T_hasAny se_T_hasAny ii_T co_T_hasAny pd_T_hasAny ⟨rfl, rfl⟩ ⟨by decide, by decide⟩) (zlt hT) hT rfl rfl rfl (Nat.le_of_ble_eq_true rfl) ⟨Nat.zero_le _, Nat.zero_le _⟩ d_C_breaksAsOld_195 ?_
      refine x_ifneB (pc := 198) K (tgt := 214) d_C_breaksAsOld_198 (by decide) (fun c198 => ?_) (fun c198 => ?_)
      · skip
        refine x_iconst (pc := 214) K (v := 0) d_C_breaksAsOld_214 (by decide) ?_
        exact x_zret (pc := 215) K (rF (by first | (simp_all; done) | grind)) rfl rfl d_C_breaksAsOld_215
      · skip
        refine x_aload_n (pc := 201) K 3 d_C_breaksAsOld_201 rfl ?_
        refine x_bipush (pc := 202) K (v := 8) d_C_breaksAsOld_202 (by decide) ?_
        refine x_callV (pc := 204) K (As := [.int 8]) (rest := []) (c_M_hasAny l w M 8 b hB) (zcwV K.ts lk_C_116 im_M_hasAny se_M_hasAny ii_M co_M_hasAny pd_M_hasAny ⟨rfl, rfl⟩ ⟨by decide, by decide⟩) (zlt hB) hB rfl rfl rfl (Nat.le_of_ble_eq_true rfl) ⟨Nat.zero_le _, Nat.zero_le _⟩ d_C_breaksAsOld_204 ?_
        refine x_ifeqB (pc := 207) K (tgt := 214) d_C_breaksAsOld_207 (by decide) (fun c207 => ?_) (fun c207 => ?_)
        · skip
          refine x_iconst (pc := 214) K (v := 0) d_C_breaksAsOld_214 (by decide) ?_
          exact x_zret (pc := 215) K (rF (by first | (simp_all; done) | grind)) rfl rfl d_C_breaksAsOld_215
        · skip
          refine x_iconst (pc := 210) K (v := 1) d_C_breaksAsOld_210 (by decide) ?_
          refine x_goto (pc := 211) K (tgt := 215) d_C_breaksAsOld_211 (by decide) ?_
          exact x_zret (pc := 215) K (rT (by first | (simp_all; done) | grind)) rfl rfl d_C_breaksAsOld_215
theorem c_C_breaksAsOld (l : Launch) (w : fl_W) (M : fl_M) (n1 a b : Nat) (hT : zSh n1 = zsT) (hA : zSh a = zsM) (hB : zSh b = zsM) (r : Nat) (h5 : 5 ≤ r) (h11 : r ≤ 11) : ∃ P : Prop, ∃ _ : Decidable P, (P ↔ brO M.1 r n1 a b) ∧ CT l y_C_breaksAsOld w_C_breaksAsOld rm_C_breaksAsOld w zN [.int (nI r), .ref (w.2.2 + n1), .ref (w.2.2 + a), .ref (w.2.2 + b)] M (some (.int (bI P))) M := by
  rcases (show r = 5 ∨ r = 6 ∨ r = 7 ∨ r = 8 ∨ r = 9 ∨ r = 10 ∨ r = 11 by omega) with rfl | rfl | rfl | rfl | rfl | rfl | rfl
  · exact ⟨_, inferInstance, by simp [brO], c_C_breaksAsOld5 l w M n1 a b hT hA hB⟩
  · exact ⟨_, inferInstance, by simp [brO], c_C_breaksAsOld6 l w M n1 a b hT hA hB⟩
  · exact ⟨_, inferInstance, by simp [brO], c_C_breaksAsOld7 l w M n1 a b hT hA hB⟩
  · exact ⟨_, inferInstance, by simp [brO], c_C_breaksAsOld8 l w M n1 a b hT hA hB⟩
  · exact ⟨_, inferInstance, by simp [brO], c_C_breaksAsOld9 l w M n1 a b hT hA hB⟩
  · exact ⟨_, inferInstance, by simp [brO], c_C_breaksAsOld10 l w M n1 a b hT hA hB⟩
  · exact ⟨_, inferInstance, by simp [brO], c_C_breaksAsOld11 l w M n1 a b hT hA hB⟩
abbrev brN (μ : Nat → Nat → Int32) (r : Int32) (a b : Nat) : Prop := ¬ r = 13 ∧ ¬ μ a 0 = 2 ∧ (¬ (μ b 2 &&& 3) < 2) ∧ ((μ a 2 &&& 3) < (μ b 2 &&& 3) ∨ ¬ bI (¬ μ a 2 &&& 4 = 0) = bI (¬ μ b 2 &&& 4 = 0))
abbrev brZ (μ : Nat → Nat → Int32) (r : Int32) (a : Nat) : Prop := r = 13 ∧ μ a 0 = 1 ∧ ¬ μ a 2 &&& 16 = 0
set_option maxHeartbeats 4000000 in
set_option maxRecDepth 100000 in
theorem c_C_breaksAsNewN (l : Launch) (w : fl_W) (M : fl_M) (a : Nat) (hA : zSh a = zsM) (r : Int32) : CT l y_C_breaksAsNew w_C_breaksAsNew rm_C_breaksAsNew w zN [.int r, .ref (w.2.2 + a), .null] M (some (.int (bI (brZ M.1 r a)))) M := by
  refine CT.of (cc := b_C_breaksAsNew) (own := "CompatibilityJudge$Comparison") (by decide) rfl rfl (Nat.le_of_ble_eq_true rfl) ?_
  intro p9 e9 s9 m9 ag9 bl9 mt9 c9 K
  show XW p9 l e9 (rm_C_breaksAsNew) s9 m9 ag9 bl9 mt9 c9 3 0 0 (MQ bl9 (CQ w zN (some (.int (bI (brZ M.1 r a)))) M) ag9 s9 0 0 (fun q : Nat => w.2.2 ≤ q)) w zN M 0 [(0, .int r), (1, .ref (w.2.2 + a)), (2, .null)] []
  refine x_iload_n (pc := 0) K 0 d_C_breaksAsNew_0 rfl ?_
  refine x_bipush (pc := 1) K (v := 13) d_C_breaksAsNew_1 (by decide) ?_
  refine x_icmp_ne (pc := 3) K (tgt := 33) d_C_breaksAsNew_3 (by decide) (fun c3 => ?_) (fun c3 => ?_)
  · skip
    refine x_aload_n (pc := 33) K 1 d_C_breaksAsNew_33 rfl ?_
    refine x_geti (pc := 34) K (n := a) (k := 0) (zlt hA) hA rfl rfl (by decide) (fun _ q => zmem (uw_M _ q)) (zmem lk_C_96) d_C_breaksAsNew_34 ?_
    refine x_iconst (pc := 37) K (v := 2) d_C_breaksAsNew_37 (by decide) ?_
    refine x_icmp_eq (pc := 38) K (tgt := 80) d_C_breaksAsNew_38 (by decide) (fun c38 => ?_) (fun c38 => ?_)
    · skip
      refine x_iconst (pc := 80) K (v := 0) d_C_breaksAsNew_80 (by decide) ?_
      exact x_zret (pc := 81) K (rF (by first | (simp_all [brZ]; done) | grind)) rfl rfl d_C_breaksAsNew_81
    · skip
      refine x_aload_nN (pc := 41) K 2 d_C_breaksAsNew_41 rfl ?_
      refine x_ifnullN (pc := 42) K (tgt := 80) d_C_breaksAsNew_42 (by decide) ?_
      refine x_iconst (pc := 80) K (v := 0) d_C_breaksAsNew_80 (by decide) ?_
      exact x_zret (pc := 81) K (rF (by first | (simp_all [brZ]; done) | grind)) rfl rfl d_C_breaksAsNew_81
  · skip
    refine x_aload_n (pc := 6) K 1 d_C_breaksAsNew_6 rfl ?_
    refine x_geti (pc := 7) K (n := a) (k := 0) (zlt hA) hA rfl rfl (by decide) (fun _ q => zmem (uw_M _ q)) (zmem lk_C_96) d_C_breaksAsNew_7 ?_
    refine x_iconst (pc := 10) K (v := 1) d_C_breaksAsNew_10 (by decide) ?_
    refine x_icmp_ne (pc := 11) K (tgt := 31) d_C_breaksAsNew_11 (by decide) (fun c11 => ?_) (fun c11 => ?_)
    · skip
      refine x_iconst (pc := 31) K (v := 0) d_C_breaksAsNew_31 (by decide) ?_
      exact x_zret (pc := 32) K (rF (by first | (simp_all [brZ]; done) | grind)) rfl rfl d_C_breaksAsNew_32
    · skip
      refine x_aload_n (pc := 14) K 1 d_C_breaksAsNew_14 rfl ?_
      refine x_bipush (pc := 15) K (v := 16) d_C_breaksAsNew_15 (by decide) ?_
      refine x_callV (pc := 17) K (As := [.int 16]) (rest := []) (c_M_hasAny l w M 16 a hA) (zcwV K.ts lk_C_116 im_M_hasAny se_M_hasAny ii_M co_M_hasAny pd_M_hasAny ⟨rfl, rfl⟩ ⟨by decide, by decide⟩) (zlt hA) hA rfl rfl rfl (Nat.le_of_ble_eq_true rfl) ⟨Nat.zero_le _, Nat.zero_le _⟩ d_C_breaksAsNew_17 ?_
      refine x_ifeqB (pc := 20) K (tgt := 31) d_C_breaksAsNew_20 (by decide) (fun c20 => ?_) (fun c20 => ?_)
      · skip
        refine x_iconst (pc := 31) K (v := 0) d_C_breaksAsNew_31 (by decide) ?_
        exact x_zret (pc := 32) K (rF (by first | (simp_all [brZ]; done) | grind)) rfl rfl d_C_breaksAsNew_32
      · skip
        refine x_aload_nN (pc := 23) K 2 d_C_breaksAsNew_23 rfl ?_
        refine x_ifnonnullN (pc := 24) K d_C_breaksAsNew_24 ?_
        refine x_iconst (pc := 27) K (v := 1) d_C_breaksAsNew_27 (by decide) ?_
        refine x_goto (pc := 28) K (tgt := 32) d_C_breaksAsNew_28 (by decide) ?_
        exact x_zret (pc := 32) K (rT (by first | (simp_all [brZ]; done) | grind)) rfl rfl d_C_breaksAsNew_32
set_option maxHeartbeats 4000000 in
set_option maxRecDepth 100000 in
theorem c_C_breaksAsNew (l : Launch) (w : fl_W) (M : fl_M) (a b : Nat) (hA : zSh a = zsM) (hB : zSh b = zsM) (r : Int32) : CT l y_C_breaksAsNew w_C_breaksAsNew rm_C_breaksAsNew w zN [.int r, .ref (w.2.2 + a), .ref (w.2.2 + b)] M (some (.int (bI (brN M.1 r a b)))) M := by
  refine CT.of (cc := b_C_breaksAsNew) (own := "CompatibilityJudge$Comparison") (by decide) rfl rfl (Nat.le_of_ble_eq_true rfl) ?_
  intro p9 e9 s9 m9 ag9 bl9 mt9 c9 K
  show XW p9 l e9 (rm_C_breaksAsNew) s9 m9 ag9 bl9 mt9 c9 3 0 0 (MQ bl9 (CQ w zN (some (.int (bI (brN M.1 r a b)))) M) ag9 s9 0 0 (fun q : Nat => w.2.2 ≤ q)) w zN M 0 [(0, .int r), (1, .ref (w.2.2 + a)), (2, .ref (w.2.2 + b))] []
  refine x_iload_n (pc := 0) K 0 d_C_breaksAsNew_0 rfl ?_
  refine x_bipush (pc := 1) K (v := 13) d_C_breaksAsNew_1 (by decide) ?_
  refine x_icmp_ne (pc := 3) K (tgt := 33) d_C_breaksAsNew_3 (by decide) (fun c3 => ?_) (fun c3 => ?_)
  · skip
    refine x_aload_n (pc := 33) K 1 d_C_breaksAsNew_33 rfl ?_
    refine x_geti (pc := 34) K (n := a) (k := 0) (zlt hA) hA rfl rfl (by decide) (fun _ q => zmem (uw_M _ q)) (zmem lk_C_96) d_C_breaksAsNew_34 ?_
    refine x_iconst (pc := 37) K (v := 2) d_C_breaksAsNew_37 (by decide) ?_
    refine x_icmp_eq (pc := 38) K (tgt := 80) d_C_breaksAsNew_38 (by decide) (fun c38 => ?_) (fun c38 => ?_)
    · skip
      refine x_iconst (pc := 80) K (v := 0) d_C_breaksAsNew_80 (by decide) ?_
      exact x_zret (pc := 81) K (rF (by first | (simp_all [brN]; done) | grind)) rfl rfl d_C_breaksAsNew_81
    · skip
      refine x_aload_n (pc := 41) K 2 d_C_breaksAsNew_41 rfl ?_
      refine x_ifnull (pc := 42) K d_C_breaksAsNew_42 ?_
      refine x_aload_n (pc := 45) K 2 d_C_breaksAsNew_45 rfl ?_
      refine x_callV (pc := 46) K (As := []) (rest := []) (c_M_isOpen l w M b hB) (zcwV K.ts lk_C_89 im_M_isOpen se_M_isOpen ii_M co_M_isOpen pd_M_isOpen ⟨rfl, rfl⟩ ⟨by decide, by decide⟩) (zlt hB) hB rfl rfl rfl (Nat.le_of_ble_eq_true rfl) ⟨Nat.zero_le _, Nat.zero_le _⟩ d_C_breaksAsNew_46 ?_
      refine x_ifeqB (pc := 49) K (tgt := 80) d_C_breaksAsNew_49 (by decide) (fun c49 => ?_) (fun c49 => ?_)
      · skip
        refine x_iconst (pc := 80) K (v := 0) d_C_breaksAsNew_80 (by decide) ?_
        exact x_zret (pc := 81) K (rF (by first | (simp_all [brN]; done) | grind)) rfl rfl d_C_breaksAsNew_81
      · skip
        refine x_aload_n (pc := 52) K 1 d_C_breaksAsNew_52 rfl ?_
        refine x_callV (pc := 53) K (As := []) (rest := []) (c_M_access l w M a hA) (zcwV K.ts lk_C_112 im_M_access se_M_access ii_M co_M_access pd_M_access ⟨rfl, rfl⟩ ⟨by decide, by decide⟩) (zlt hA) hA rfl rfl rfl (Nat.le_of_ble_eq_true rfl) ⟨Nat.zero_le _, Nat.zero_le _⟩ d_C_breaksAsNew_53 ?_
        refine x_aload_n (pc := 56) K 2 d_C_breaksAsNew_56 rfl ?_
        refine x_callV (pc := 57) K (As := []) (rest := [.int (M.1 a 2 &&& 3)]) (c_M_access l w M b hB) (zcwV K.ts lk_C_112 im_M_access se_M_access ii_M co_M_access pd_M_access ⟨rfl, rfl⟩ ⟨by decide, by decide⟩) (zlt hB) hB rfl rfl rfl (Nat.le_of_ble_eq_true rfl) ⟨Nat.zero_le _, Nat.zero_le _⟩ d_C_breaksAsNew_57 ?_
        refine x_icmp_lt (pc := 60) K (tgt := 76) d_C_breaksAsNew_60 (by decide) (fun c60 => ?_) (fun c60 => ?_)
        · skip
          refine x_iconst (pc := 76) K (v := 1) d_C_breaksAsNew_76 (by decide) ?_
          refine x_goto (pc := 77) K (tgt := 81) d_C_breaksAsNew_77 (by decide) ?_
          exact x_zret (pc := 81) K (rT (by first | (simp_all [brN]; done) | grind)) rfl rfl d_C_breaksAsNew_81
        · skip
          refine x_aload_n (pc := 63) K 1 d_C_breaksAsNew_63 rfl ?_
          refine x_iconst (pc := 64) K (v := 4) d_C_breaksAsNew_64 (by decide) ?_
          refine x_callV (pc := 65) K (As := [.int 4]) (rest := []) (c_M_hasAny l w M 4 a hA) (zcwV K.ts lk_C_116 im_M_hasAny se_M_hasAny ii_M co_M_hasAny pd_M_hasAny ⟨rfl, rfl⟩ ⟨by decide, by decide⟩) (zlt hA) hA rfl rfl rfl (Nat.le_of_ble_eq_true rfl) ⟨Nat.zero_le _, Nat.zero_le _⟩ d_C_breaksAsNew_65 ?_
          refine x_aload_n (pc := 68) K 2 d_C_breaksAsNew_68 rfl ?_
          refine x_iconst (pc := 69) K (v := 4) d_C_breaksAsNew_69 (by decide) ?_
          refine x_callV (pc := 70) K (As := [.int 4]) (rest := [.int (bI (¬ M.1 a 2 &&& 4 = 0))]) (c_M_hasAny l w M 4 b hB) (zcwV K.ts lk_C_116 im_M_hasAny se_M_hasAny ii_M co_M_hasAny pd_M_hasAny ⟨rfl, rfl⟩ ⟨by decide, by decide⟩) (zlt hB) hB rfl rfl rfl (Nat.le_of_ble_eq_true rfl) ⟨Nat.zero_le _, Nat.zero_le _⟩ d_C_breaksAsNew_70 ?_
          refine x_icmp_eq (pc := 73) K (tgt := 80) d_C_breaksAsNew_73 (by decide) (fun c73 => ?_) (fun c73 => ?_)
          · skip
            refine x_iconst (pc := 80) K (v := 0) d_C_breaksAsNew_80 (by decide) ?_
            exact x_zret (pc := 81) K (rF (by first | (simp_all [brN]; done) | grind)) rfl rfl d_C_breaksAsNew_81
          · skip
            refine x_iconst (pc := 76) K (v := 1) d_C_breaksAsNew_76 (by decide) ?_
            refine x_goto (pc := 77) K (tgt := 81) d_C_breaksAsNew_77 (by decide) ?_
            exact x_zret (pc := 81) K (rT (by first | (simp_all [brN]; done) | grind)) rfl rfl d_C_breaksAsNew_81
  · skip
    refine x_aload_n (pc := 6) K 1 d_C_breaksAsNew_6 rfl ?_
    refine x_geti (pc := 7) K (n := a) (k := 0) (zlt hA) hA rfl rfl (by decide) (fun _ q => zmem (uw_M _ q)) (zmem lk_C_96) d_C_breaksAsNew_7 ?_
    refine x_iconst (pc := 10) K (v := 1) d_C_breaksAsNew_10 (by decide) ?_
    refine x_icmp_ne (pc := 11) K (tgt := 31) d_C_breaksAsNew_11 (by decide) (fun c11 => ?_) (fun c11 => ?_)
    · skip
      refine x_iconst (pc := 31) K (v := 0) d_C_breaksAsNew_31 (by decide) ?_
      exact x_zret (pc := 32) K (rF (by first | (simp_all [brN]; done) | grind)) rfl rfl d_C_breaksAsNew_32
    · skip
      refine x_aload_n (pc := 14) K 1 d_C_breaksAsNew_14 rfl ?_
      refine x_bipush (pc := 15) K (v := 16) d_C_breaksAsNew_15 (by decide) ?_
      refine x_callV (pc := 17) K (As := [.int 16]) (rest := []) (c_M_hasAny l w M 16 a hA) (zcwV K.ts lk_C_116 im_M_hasAny se_M_hasAny ii_M co_M_hasAny pd_M_hasAny ⟨rfl, rfl⟩ ⟨by decide, by decide⟩) (zlt hA) hA rfl rfl rfl (Nat.le_of_ble_eq_true rfl) ⟨Nat.zero_le _, Nat.zero_le _⟩ d_C_breaksAsNew_17 ?_
      refine x_ifeqB (pc := 20) K (tgt := 31) d_C_breaksAsNew_20 (by decide) (fun c20 => ?_) (fun c20 => ?_)
      · skip
        refine x_iconst (pc := 31) K (v := 0) d_C_breaksAsNew_31 (by decide) ?_
        exact x_zret (pc := 32) K (rF (by first | (simp_all [brN]; done) | grind)) rfl rfl d_C_breaksAsNew_32
      · skip
        refine x_aload_n (pc := 23) K 2 d_C_breaksAsNew_23 rfl ?_
        refine x_ifnonnull (pc := 24) K (tgt := 31) d_C_breaksAsNew_24 (by decide) ?_
        refine x_iconst (pc := 31) K (v := 0) d_C_breaksAsNew_31 (by decide) ?_
        exact x_zret (pc := 32) K (rF (by first | (simp_all [brN]; done) | grind)) rfl rfl d_C_breaksAsNew_32
/-- the field owners are types or none -/
def foOk (μ : Nat → Nat → Int32) (b : Nat) : Prop := ∀ t, t < 12 → (μ (b + 134) t = 12 ∨ inL 12 (μ (b + 134) t))
def bAll (μ : Nat → Nat → Int32) (b : Nat) : Prop := bOk μ b ∧ bSk μ b ∧ foOk μ b
/-- what holds while b1 is compared with b2 -/
def cOk (o b1 b2 : Nat) (M : fl_M) : Prop := zRf o M.2 ∧ bAll M.1 b1 ∧ bAll M.1 b2 ∧ zOk M.1
theorem bAll_congr {μ μ' : Nat → Nat → Int32} {b : Nat} (hB : zSh b = zsB) (e : ∀ a k, a < 272 → μ' a k = μ a k) (h : bAll μ b) : bAll μ' b := by
  have hb := shB2 hB
  refine ⟨bOk_congr (fun t ht k _ _ => e _ _ (by omega)) (fun t ht k => e _ _ (by omega)) h.1, bSk_congr (fun t ht => e _ _ (by omega)) h.2.1, fun t ht => ?_⟩
  rw [e _ _ (by omega)]
  exact h.2.2 t ht
theorem cOk_add {o b1 b2 : Nat} {M : fl_M} {r t d : Int32} (h1 : zSh b1 = zsB) (h2 : zSh b2 = zsB) (h : cOk o b1 b2 M) : cOk o b1 b2 (cAdd M r t d) :=
  ⟨by rw [cAdd_2]; exact h.1, bAll_congr h1 (fun a k ha => cAdd_rd (Or.inl ha)) h.2.1, bAll_congr h2 (fun a k ha => cAdd_rd (Or.inl ha)) h.2.2.1, cAdd_z h.2.2.2⟩
theorem zRf_p {o k : Nat} {r : Nat → Nat → Option Nat} {v : Option Nat} (h : zRf o r) : zRf o (fl_u r 276 k v) := by
  obtain ⟨h0, ⟨a1, a2, a3, a4, a5⟩, hb, ht, ⟨c1, c2, c3, c4⟩, hr, hr2⟩ := h
  have e : ∀ a j, a ≠ 276 → fl_u r 276 k v a j = r a j := fun a j ha => congrFun (fl_u_row ha) j
  refine ⟨h0, ⟨?_, ?_, ?_, ?_, ?_⟩, ?_, ?_, ⟨?_, ?_, ?_, ?_⟩, ?_, ?_⟩
  · rw [e _ _ (by decide)]; exact a1
  · rw [e _ _ (by decide)]; exact a2
  · rw [e _ _ (by decide)]; exact a3
  · rw [e _ _ (by decide)]; exact a4
  · rw [e _ _ (by decide)]; exact a5
  · intro b hB
    have := shB2 hB
    refine ⟨?_, ?_, fun t ht => ?_⟩
    · rw [e _ _ (by omega)]; exact (hb b hB).1
    · rw [e _ _ (by omega)]; exact (hb b hB).2.1
    · rw [e _ _ (by omega)]; exact (hb b hB).2.2 t ht
  · intro n hT
    have h1 : n ≠ 276 := fun q => by rw [q] at hT; exact absurd hT (by decide +kernel)
    have h2 : n + 2 ≠ 276 := fun q => by rw [show n = 274 by omega] at hT; exact absurd hT (by decide +kernel)
    refine ⟨?_, ?_, fun i hi => ?_⟩
    · rw [e _ _ h1]; exact (ht n hT).1
    · rw [e _ _ h1]; exact (ht n hT).2.1
    · rw [e _ _ h2]; exact (ht n hT).2.2 i hi
  · rw [e _ _ (by decide)]; exact c1
  · rw [e _ _ (by decide)]; exact c2
  · rw [e _ _ (by decide)]; exact c3
  · rw [e _ _ (by decide)]; exact c4
  · intro j hj; rw [e _ _ (by decide)]; exact hr j hj
  · rw [e _ _ (by decide)]; exact hr2
theorem cOk_p {o b1 b2 k : Nat} {M : fl_M} {v : Option Nat} (h : cOk o b1 b2 M) : cOk o b1 b2 (wR M 276 k v) := ⟨zRf_p h.1, h.2⟩
/-- looking up changes field owners alone -/
theorem wfl_rd {b : Nat} {key set : Int32} {a j : Nat} (h : a ≠ b + 134) : ∀ (k i : Nat) (M : fl_M), (wfl M b key set i k).1 a j = M.1 a j := by
  intro k
  induction k with
  | zero => intro i M; rfl
  | succ k ih =>
    intro i M
    rw [wfl, ih]
    split
    · exact rdI_ne (Or.inl h)
    · rfl
theorem whM_rd {M : fl_M} {b f a j : Nat} {k key : Int32} (h : a ≠ b + 134) : (whM M b f k key).1 a j = M.1 a j := by
  unfold whM
  split
  · rfl
  · split
    · exact wfl_rd h _ _ _
    · rfl
theorem whM_2 {M : fl_M} {b f : Nat} {k key : Int32} : (whM M b f k key).2 = M.2 := by
  unfold whM
  split
  · rfl
  · split
    · exact wfl_2 _ _ _
    · rfl
theorem fol_in {μ : Nat → Nat → Int32} {b n : Nat} (hf : foOk μ b) : ∀ (k i : Nat) (v : Int32), (∀ j, j < i + k → inL 12 (μ (n + 1) j)) → fol μ b n i k = some v → inL 12 v := by
  intro k
  induction k with
  | zero => intro i v _ h; cases h
  | succ k ih =>
    intro i v h1 h
    rw [fol] at h
    split at h
    · rename_i q
      cases h
      exact (hf _ (h1 i (by omega)).2).resolve_left q.2
    · exact ih (i + 1) v (fun j hj => h1 j (by omega)) h
theorem fof_in {μ : Nat → Nat → Int32} {b t : Nat} {key : Int32} (h : bAll μ b) (ht : t < 12) : fof μ b t key = 12 ∨ inL 12 (fof μ b t key) := by
  unfold fof
  split
  · unfold foz
    split
    · rename_i v hv
      exact Or.inr (fol_in h.2.2 _ _ v (fun j hj => inL_le ((h.1 t ht).2.2.1 j (by omega)) (by omega)) hv)
    · split
      · exact Or.inl rfl
      · rename_i q
        exact h.2.2 _ (Nat.lt_of_lt_of_le ((h.2.1 t ht).resolve_left q).2 (by omega))
  · exact Or.inr (inL_nI (by omega) ht)
theorem bAll_fo {M : fl_M} {b t : Nat} {v : Int32} (h : bAll M.1 b) (hv : v = 12 ∨ inL 12 v) : bAll (wI M (b + 134) t v).1 b := by
  refine ⟨bOk_f h.1, bSk_f h.2.1, fun u hu => ?_⟩
  by_cases q : u = t
  · subst q; rw [rdI_eq]; exact hv
  · rw [rdI_ne (Or.inr q)]; exact h.2.2 u hu
theorem wfl_all {b : Nat} {key set : Int32} : ∀ (k i : Nat) (M : fl_M), i + k ≤ 12 → bAll M.1 b → bAll (wfl M b key set i k).1 b := by
  intro k
  induction k with
  | zero => intro i M _ h; exact h
  | succ k ih =>
    intro i M h1 h
    rw [wfl]
    split
    · exact ih _ _ (by omega) (bAll_fo h (fof_in h (by omega)))
    · exact ih _ _ (by omega) h
theorem whM_all {M : fl_M} {b f : Nat} {k key : Int32} (hf : f < 12) (h : bAll M.1 b) : bAll (whM M b f k key).1 b := by
  unfold whM
  split
  · exact h
  · split
    · exact wfl_all _ _ _ (by omega) h
    · exact h
theorem whM_oth {M : fl_M} {b b' f : Nat} {k key : Int32} (hB : zSh b = zsB) (hB' : zSh b' = zsB) (hne : b ≠ b') (h : bAll M.1 b') : bAll (whM M b f k key).1 b' := by
  have e : ∀ a j, a ≠ b + 134 → (whM M b f k key).1 a j = M.1 a j := fun a j ha => whM_rd ha
  have h1 := shB2 hB
  have h2 := shB2 hB'
  refine ⟨bOk_congr (fun t ht k _ _ => e _ _ (by omega)) (fun t ht k => e _ _ (by omega)) h.1, bSk_congr (fun t ht => e _ _ (by omega)) h.2.1, fun t ht => ?_⟩
  rw [e _ _ (by omega)]
  exact h.2.2 t ht
theorem cOk_wh {o b1 b2 b f : Nat} {M : fl_M} {k key : Int32} (h1 : zSh b1 = zsB) (h2 : zSh b2 = zsB) (hne : b1 ≠ b2) (hb : b = b1 ∨ b = b2) (hf : f < 12) (h : cOk o b1 b2 M) : cOk o b1 b2 (whM M b f k key) := by
  refine ⟨by rw [whM_2]; exact h.1, ?_, ?_, ?_⟩
  · rcases hb with rfl | rfl
    · exact whM_all hf h.2.1
    · exact whM_oth h2 h1 (Ne.symm hne) h.2.1
  · rcases hb with rfl | rfl
    · exact whM_oth h1 h2 hne h.2.2.1
    · exact whM_all hf h.2.2.1
  · have q : b + 134 ≠ 272 := by have := shB2 h1; have := shB2 h2; omega
    unfold zOk cz
    rw [whM_rd (Ne.symm q)]
    exact h.2.2.2
theorem wil_in {μ : Nat → Nat → Int32} {b : Nat} {key set : Int32} : ∀ (k t : Nat) (a : Int32), t + k ≤ 12 → (a = 12 ∨ inL 12 a) → (wil μ b key set t k a = 12 ∨ inL 12 (wil μ b key set t k a)) := by
  intro k
  induction k with
  | zero => intro t a _ h; exact h
  | succ k ih =>
    intro t a h1 h
    rw [wil]
    split
    · split
      · exact ih _ _ (by omega) h
      · split
        · exact ih _ _ (by omega) h
        · split
          · refine ih _ _ (by omega) ?_
            split
            · exact Or.inr (inL_nI (by omega) (by omega))
            · exact h
          · exact Or.inr (inL_nI (by omega) (by omega))
    · exact ih _ _ (by omega) h
theorem wml_in {μ : Nat → Nat → Int32} {b : Nat} {key : Int32} (hs : bSk μ b) : ∀ (k : Nat) (x v : Int32), (x = -1 ∨ inL 12 x) → wml μ b key k x = some v → inL 12 v := by
  intro k
  induction k with
  | zero => intro x v _ h; cases h
  | succ k ih =>
    intro x v hx h
    rw [wml] at h
    split at h
    · cases h
    · rename_i q
      have hx := hx.resolve_left q
      split at h
      · exact ih _ _ ((hs _ hx.2).imp id (fun z => inL_le z (Nat.le_of_lt hx.2))) h
      · cases h; exact hx
theorem whr_in {M : fl_M} {b f : Nat} {k key : Int32} (hf : f < 12) (h : bAll M.1 b) : whr M b f k key = 12 ∨ inL 12 (whr M b f k key) := by
  unfold whr
  split
  · exact Or.inl rfl
  · split
    · exact (wfl_all (set := wfS M.1 b f) (key := key) (f + 1) 0 M (by omega) h).2.2 f hf
    · split
      · unfold wim wmz
        split
        · rename_i v hv
          exact Or.inr (wml_in h.2.1 _ _ _ (Or.inr (inL_nI (by omega) hf)) hv)
        · exact wil_in _ _ _ (by omega) (Or.inl rfl)
      · split
        · exact Or.inl rfl
        · exact Or.inr (inL_nI (by omega) hf)
def jhA (M : fl_M) (n1 n2 : Nat) (f r t : Int32) : fl_M := if (¬ ¬ M.1 n1 2 &&& f = 0) ∧ ¬ M.1 n2 2 &&& f = 0 then cAdd M r t (-1) else M
def jhl (M : fl_M) (lost t : Int32) : Nat → Nat → fl_M
  | _, 0 => M
  | i, k + 1 => jhl (if ¬ (lost >>> (nI i &&& 31)) &&& 1 = 0 then cAdd M 4 t (nI i) else M) lost t (i + 1) k
def jhB (M : fl_M) (n1 n2 : Nat) (t : Int32) : fl_M := jhl M (M.1 n1 9 &&& (M.1 n2 9 ^^^ (-1))) t 0 12
def jh (M : fl_M) (n1 n2 : Nat) (t : Int32) : fl_M := jhB (jhA (jhA M n1 n2 2 2 t) n1 n2 4 3 t) n1 n2 t
set_option maxHeartbeats 4000000 in
set_option maxRecDepth 100000 in
theorem lp_C_judgeHeader (l : Launch) (w : fl_W) (M : fl_M) (b1 b2 : Nat) (h1 : zSh b1 = zsB) (h2 : zSh b2 = zsB) (o : Nat) (n1 n2 : Nat) (hT : zSh n1 = zsT) (hT2 : zSh n2 = zsT) (t : Nat) (lost : Int32) (Y : fl_M) {p9 : Program} {e9 : Env} {s9 : State} {m9 : MethodId} {ag9 : Array Value} {bl9 : List Frame} {mt9 : Method} {c9 : Code} (K : XC p9 s9 m9 ag9 mt9 c9 b_C_judgeHeader 6 none w_C_judgeHeader "CompatibilityJudge$Comparison" w) : ∀ (k : Nat) (i : Nat) (X : fl_M), i ≤ 12 → 12 + 1 ≤ i + k → cOk o b1 b2 X → jhl X lost (nI t) i (12 - i) = Y → XW p9 l e9 (rm_C_judgeHeader) s9 m9 ag9 bl9 mt9 c9 6 0 0 (MQ bl9 (CQ w zN none Y) ag9 s9 0 0 (fun q : Nat => w.2.2 ≤ q)) w zN X 62 [(5, .int (nI i)), (4, .int lost), (0, .ref (w.2.2 + 272)), (1, .ref (w.2.2 + n1)), (2, .ref (w.2.2 + n2)), (3, .int (nI t))] [] := by
  intro k
  induction k with
  | zero =>
    intro i X hi hk
    exact absurd hk (by omega)
  | succ k ih =>
    intro i X hi hk hX hf
    refine x_iload (pc := 62) K 0 d_C_judgeHeader_62 rfl ?_
    refine x_bipush (pc := 64) K (v := nI 12) d_C_judgeHeader_64 (by decide) ?_
    refine x_icmp_ge (pc := 66) K (tgt := 93) d_C_judgeHeader_66 (by decide) (fun c66 => ?_) (fun c66 => ?_)
    · skip
      have hic : i = 12 := by have := (nI_leI (a := 12) (by omega) (by omega)).mp c66; omega
      rw [hic, Nat.sub_self] at hf
      exact x_vret (pc := 93) K rfl (by subst hf; rfl) d_C_judgeHeader_93
    · skip
      have hic : i < 12 := Nat.not_le.mp (fun q => c66 (nI_le (a := 12) q (by omega)))
      rw [show 12 - i = (12 - (i + 1)) + 1 by omega, jhl] at hf
      refine x_iload (pc := 69) K 1 d_C_judgeHeader_69 rfl ?_
      refine x_iload (pc := 71) K 0 d_C_judgeHeader_71 rfl ?_
      refine x_callSN (pc := 73) K (As := [.int lost, .int (nI i)]) (rest := []) (c_J_contains l w X lost (nI i)) (zcwSN K.ts K.S.2.1.2.2.2 sm_J_contains ii_J co_J_contains pd_J_contains ⟨rfl, rfl⟩ ⟨by decide, by decide⟩) rfl rfl (Nat.le_of_ble_eq_true rfl) ⟨Nat.zero_le _, Nat.zero_le _⟩ d_C_judgeHeader_73 ?_
      refine x_ifeqB (pc := 76) K (tgt := 87) d_C_judgeHeader_76 (by decide) (fun c76 => ?_) (fun c76 => ?_)
      · skip
        rw [if_neg c76] at hf
        refine x_iinc (pc := 87) K (v := nI (i + 1)) (lv' := [(5, .int (nI (i + 1))), (4, .int lost), (0, .ref (w.2.2 + 272)), (1, .ref (w.2.2 + n1)), (2, .ref (w.2.2 + n2)), (3, .int (nI t))]) 0 d_C_judgeHeader_87 rfl (nI_1 _) (by decide) rfl ?_
        refine x_goto (pc := 90) K (tgt := 62) d_C_judgeHeader_90 (by decide) ?_
        refine x_lv [0, 1, 2, 3, 4, 5] rfl ?_
        exact ih (i + 1) _ (by omega) (by omega) hX hf
      · skip
        rw [if_pos c76] at hf
        refine x_aload_n (pc := 79) K 2 d_C_judgeHeader_79 rfl ?_
        refine x_iconst (pc := 80) K (v := 4) d_C_judgeHeader_80 (by decide) ?_
        refine x_iload_n (pc := 81) K 5 d_C_judgeHeader_81 rfl ?_
        refine x_iload (pc := 82) K 0 d_C_judgeHeader_82 rfl ?_
        refine x_callVv (pc := 84) K (As := [.int 4, .int (nI t), .int (nI i)]) (rest := []) (c_C_add l w X o hX.1 hX.2.2.2 4 (nI t) (nI i)) (zcwV K.ts lk_C_50 im_C_add se_C_add ii_C co_C_add pd_C_add ⟨rfl, rfl⟩ ⟨by decide, by decide⟩) (zlt shC) shC rfl rfl rfl (Nat.le_of_ble_eq_true rfl) ⟨Nat.zero_le _, Nat.zero_le _⟩ d_C_judgeHeader_84 ?_
        refine x_iinc (pc := 87) K (v := nI (i + 1)) (lv' := [(5, .int (nI (i + 1))), (4, .int lost), (0, .ref (w.2.2 + 272)), (1, .ref (w.2.2 + n1)), (2, .ref (w.2.2 + n2)), (3, .int (nI t))]) 0 d_C_judgeHeader_87 rfl (nI_1 _) (by decide) rfl ?_
        refine x_goto (pc := 90) K (tgt := 62) d_C_judgeHeader_90 (by decide) ?_
        refine x_lv [0, 1, 2, 3, 4, 5] rfl ?_
        exact ih (i + 1) _ (by omega) (by omega) (cOk_add h1 h2 hX) hf
set_option maxHeartbeats 4000000 in
set_option maxRecDepth 100000 in
theorem c_C_judgeHeader (l : Launch) (w : fl_W) (M : fl_M) (b1 b2 : Nat) (h1 : zSh b1 = zsB) (h2 : zSh b2 = zsB) (o : Nat) (n1 n2 : Nat) (hT : zSh n1 = zsT) (hT2 : zSh n2 = zsT) (t : Nat) (hM : cOk o b1 b2 M) : CT l y_C_judgeHeader w_C_judgeHeader rm_C_judgeHeader w zN [.ref (w.2.2 + 272), .ref (w.2.2 + n1), .ref (w.2.2 + n2), .int (nI t)] M none (jh M n1 n2 (nI t)) := by
  refine CT.of (cc := b_C_judgeHeader) (own := "CompatibilityJudge$Comparison") (by decide) rfl rfl (Nat.le_of_ble_eq_true rfl) ?_
  intro p9 e9 s9 m9 ag9 bl9 mt9 c9 K
  show XW p9 l e9 (rm_C_judgeHeader) s9 m9 ag9 bl9 mt9 c9 6 0 0 (MQ bl9 (CQ w zN none (jh M n1 n2 (nI t))) ag9 s9 0 0 (fun q : Nat => w.2.2 ≤ q)) w zN M 0 [(0, .ref (w.2.2 + 272)), (1, .ref (w.2.2 + n1)), (2, .ref (w.2.2 + n2)), (3, .int (nI t))] []
  refine x_aload_n (pc := 0) K 1 d_C_judgeHeader_0 rfl ?_
  refine x_iconst (pc := 1) K (v := 2) d_C_judgeHeader_1 (by decide) ?_
  refine x_callV (pc := 2) K (As := [.int 2]) (rest := []) (c_T_hasAny l w M 2 n1 hT) (zcwV K.ts lk_C_72 im_T_hasAny se_T_hasAny ii_T co_T_hasAny pd_T_hasAny ⟨rfl, rfl⟩ ⟨by decide, by decide⟩) (zlt hT) hT rfl rfl rfl (Nat.le_of_ble_eq_true rfl) ⟨Nat.zero_le _, Nat.zero_le _⟩ d_C_judgeHeader_2 ?_
  refine x_ifneB (pc := 5) K (tgt := 23) d_C_judgeHeader_5 (by decide) (fun c5 => ?_) (fun c5 => ?_)
  · skip
    refine x_aload_n (pc := 23) K 1 d_C_judgeHeader_23 rfl ?_
    refine x_iconst (pc := 24) K (v := 4) d_C_judgeHeader_24 (by decide) ?_
    refine x_callV (pc := 25) K (As := [.int 4]) (rest := []) (c_T_hasAny l w M 4 n1 hT) (zcwV K.ts lk_C_72 im_T_hasAny se_T_hasAny ii_T co_T_hasAny pd_T_hasAny ⟨rfl, rfl⟩ ⟨by decide, by decide⟩) (zlt hT) hT rfl rfl rfl (Nat.le_of_ble_eq_true rfl) ⟨Nat.zero_le _, Nat.zero_le _⟩ d_C_judgeHeader_25 ?_
    refine x_ifneB (pc := 28) K (tgt := 46) d_C_judgeHeader_28 (by decide) (fun c28 => ?_) (fun c28 => ?_)
    · skip
      refine x_aload_n (pc := 46) K 1 d_C_judgeHeader_46 rfl ?_
      refine x_geti (pc := 47) K (n := n1) (k := 9) (zlt hT) hT rfl rfl (by decide) (fun _ q => zmem (uw_T _ q)) (zmem lk_C_76) d_C_judgeHeader_47 ?_
      refine x_aload_n (pc := 50) K 2 d_C_judgeHeader_50 rfl ?_
      refine x_geti (pc := 51) K (n := n2) (k := 9) (zlt hT2) hT2 rfl rfl (by decide) (fun _ q => zmem (uw_T _ q)) (zmem lk_C_76) d_C_judgeHeader_51 ?_
      refine x_iconst (pc := 54) K (v := (-1)) d_C_judgeHeader_54 (by decide) ?_
      refine x_ixor (pc := 55) K d_C_judgeHeader_55 ?_
      refine x_iand (pc := 56) K d_C_judgeHeader_56 ?_
      refine x_istore (pc := 57) K (lv' := [(4, .int ((M.1 n1 9) &&& ((M.1 n2 9) ^^^ (-1)))), (0, .ref (w.2.2 + 272)), (1, .ref (w.2.2 + n1)), (2, .ref (w.2.2 + n2)), (3, .int (nI t))]) d_C_judgeHeader_57 (by decide) rfl ?_
      refine x_iconst (pc := 59) K (v := nI 0) d_C_judgeHeader_59 (by decide) ?_
      refine x_istore (pc := 60) K (lv' := [(5, .int (nI 0)), (4, .int ((M.1 n1 9) &&& ((M.1 n2 9) ^^^ (-1)))), (0, .ref (w.2.2 + 272)), (1, .ref (w.2.2 + n1)), (2, .ref (w.2.2 + n2)), (3, .int (nI t))]) d_C_judgeHeader_60 (by decide) rfl ?_
      refine x_lv [0, 1, 2, 3, 4, 5] rfl ?_
      have e1 : jhA M n1 n2 2 2 (nI t) = M := if_neg (fun q => q.1 c5)
      have e2 : jhA (M) n1 n2 4 3 (nI t) = M := if_neg (fun q => q.1 c28)
      exact lp_C_judgeHeader l w M b1 b2 h1 h2 o n1 n2 hT hT2 t _ _ K 13 0 _ (by omega) (by omega) hM (by unfold jh; rw [e1, e2]; rfl)
    · skip
      refine x_aload_n (pc := 31) K 2 d_C_judgeHeader_31 rfl ?_
      refine x_iconst (pc := 32) K (v := 4) d_C_judgeHeader_32 (by decide) ?_
      refine x_callV (pc := 33) K (As := [.int 4]) (rest := []) (c_T_hasAny l w M 4 n2 hT2) (zcwV K.ts lk_C_72 im_T_hasAny se_T_hasAny ii_T co_T_hasAny pd_T_hasAny ⟨rfl, rfl⟩ ⟨by decide, by decide⟩) (zlt hT2) hT2 rfl rfl rfl (Nat.le_of_ble_eq_true rfl) ⟨Nat.zero_le _, Nat.zero_le _⟩ d_C_judgeHeader_33 ?_
      refine x_ifeqB (pc := 36) K (tgt := 46) d_C_judgeHeader_36 (by decide) (fun c36 => ?_) (fun c36 => ?_)
      · skip
        refine x_aload_n (pc := 46) K 1 d_C_judgeHeader_46 rfl ?_
        refine x_geti (pc := 47) K (n := n1) (k := 9) (zlt hT) hT rfl rfl (by decide) (fun _ q => zmem (uw_T _ q)) (zmem lk_C_76) d_C_judgeHeader_47 ?_
        refine x_aload_n (pc := 50) K 2 d_C_judgeHeader_50 rfl ?_
        refine x_geti (pc := 51) K (n := n2) (k := 9) (zlt hT2) hT2 rfl rfl (by decide) (fun _ q => zmem (uw_T _ q)) (zmem lk_C_76) d_C_judgeHeader_51 ?_
        refine x_iconst (pc := 54) K (v := (-1)) d_C_judgeHeader_54 (by decide) ?_
        refine x_ixor (pc := 55) K d_C_judgeHeader_55 ?_
        refine x_iand (pc := 56) K d_C_judgeHeader_56 ?_
        refine x_istore (pc := 57) K (lv' := [(4, .int ((M.1 n1 9) &&& ((M.1 n2 9) ^^^ (-1)))), (0, .ref (w.2.2 + 272)), (1, .ref (w.2.2 + n1)), (2, .ref (w.2.2 + n2)), (3, .int (nI t))]) d_C_judgeHeader_57 (by decide) rfl ?_
        refine x_iconst (pc := 59) K (v := nI 0) d_C_judgeHeader_59 (by decide) ?_
        refine x_istore (pc := 60) K (lv' := [(5, .int (nI 0)), (4, .int ((M.1 n1 9) &&& ((M.1 n2 9) ^^^ (-1)))), (0, .ref (w.2.2 + 272)), (1, .ref (w.2.2 + n1)), (2, .ref (w.2.2 + n2)), (3, .int (nI t))]) d_C_judgeHeader_60 (by decide) rfl ?_
        refine x_lv [0, 1, 2, 3, 4, 5] rfl ?_
        have e1 : jhA M n1 n2 2 2 (nI t) = M := if_neg (fun q => q.1 c5)
        have e2 : jhA (M) n1 n2 4 3 (nI t) = M := if_neg (fun q => c36 q.2)
        exact lp_C_judgeHeader l w M b1 b2 h1 h2 o n1 n2 hT hT2 t _ _ K 13 0 _ (by omega) (by omega) hM (by unfold jh; rw [e1, e2]; rfl)
      · skip
        refine x_aload_n (pc := 39) K 0 d_C_judgeHeader_39 rfl ?_
        refine x_iconst (pc := 40) K (v := 3) d_C_judgeHeader_40 (by decide) ?_
        refine x_iload_n (pc := 41) K 3 d_C_judgeHeader_41 rfl ?_
        refine x_iconst (pc := 42) K (v := (-1)) d_C_judgeHeader_42 (by decide) ?_
        refine x_callVv (pc := 43) K (As := [.int 3, .int (nI t), .int (-1)]) (rest := []) (c_C_add l w M o hM.1 hM.2.2.2 3 (nI t) (-1)) (zcwV K.ts lk_C_50 im_C_add se_C_add ii_C co_C_add pd_C_add ⟨rfl, rfl⟩ ⟨by decide, by decide⟩) (zlt shC) shC rfl rfl rfl (Nat.le_of_ble_eq_true rfl) ⟨Nat.zero_le _, Nat.zero_le _⟩ d_C_judgeHeader_43 ?_
        refine x_aload_n (pc := 46) K 1 d_C_judgeHeader_46 rfl ?_
        refine x_geti (pc := 47) K (n := n1) (k := 9) (zlt hT) hT rfl rfl (by decide) (fun _ q => zmem (uw_T _ q)) (zmem lk_C_76) d_C_judgeHeader_47 ?_
        refine x_aload_n (pc := 50) K 2 d_C_judgeHeader_50 rfl ?_
        refine x_geti (pc := 51) K (n := n2) (k := 9) (zlt hT2) hT2 rfl rfl (by decide) (fun _ q => zmem (uw_T _ q)) (zmem lk_C_76) d_C_judgeHeader_51 ?_
        refine x_iconst (pc := 54) K (v := (-1)) d_C_judgeHeader_54 (by decide) ?_
        refine x_ixor (pc := 55) K d_C_judgeHeader_55 ?_
        refine x_iand (pc := 56) K d_C_judgeHeader_56 ?_
        refine x_istore (pc := 57) K (lv' := [(4, .int (((cAdd M 3 (nI t) (-1)).1 n1 9) &&& (((cAdd M 3 (nI t) (-1)).1 n2 9) ^^^ (-1)))), (0, .ref (w.2.2 + 272)), (1, .ref (w.2.2 + n1)), (2, .ref (w.2.2 + n2)), (3, .int (nI t))]) d_C_judgeHeader_57 (by decide) rfl ?_
        refine x_iconst (pc := 59) K (v := nI 0) d_C_judgeHeader_59 (by decide) ?_
        refine x_istore (pc := 60) K (lv' := [(5, .int (nI 0)), (4, .int (((cAdd M 3 (nI t) (-1)).1 n1 9) &&& (((cAdd M 3 (nI t) (-1)).1 n2 9) ^^^ (-1)))), (0, .ref (w.2.2 + 272)), (1, .ref (w.2.2 + n1)), (2, .ref (w.2.2 + n2)), (3, .int (nI t))]) d_C_judgeHeader_60 (by decide) rfl ?_
        refine x_lv [0, 1, 2, 3, 4, 5] rfl ?_
        have e1 : jhA M n1 n2 2 2 (nI t) = M := if_neg (fun q => q.1 c5)
        have e2 : jhA (M) n1 n2 4 3 (nI t) = cAdd M 3 (nI t) (-1) := if_pos ⟨c28, c36⟩
        exact lp_C_judgeHeader l w M b1 b2 h1 h2 o n1 n2 hT hT2 t _ _ K 13 0 _ (by omega) (by omega) (cOk_add h1 h2 hM) (by unfold jh; rw [e1, e2]; rfl)
  · skip
    refine x_aload_n (pc := 8) K 2 d_C_judgeHeader_8 rfl ?_
    refine x_iconst (pc := 9) K (v := 2) d_C_judgeHeader_9 (by decide) ?_
    refine x_callV (pc := 10) K (As := [.int 2]) (rest := []) (c_T_hasAny l w M 2 n2 hT2) (zcwV K.ts lk_C_72 im_T_hasAny se_T_hasAny ii_T co_T_hasAny pd_T_hasAny ⟨rfl, rfl⟩ ⟨by decide, by decide⟩) (zlt hT2) hT2 rfl rfl rfl (Nat.le_of_ble_eq_true rfl) ⟨Nat.zero_le _, Nat.zero_le _⟩ d_C_judgeHeader_10 ?_
    refine x_ifeqB (pc := 13) K (tgt := 23) d_C_judgeHeader_13 (by decide) (fun c13 => ?_) (fun c13 => ?_)
    · skip
      refine x_aload_n (pc := 23) K 1 d_C_judgeHeader_23 rfl ?_
      refine x_iconst (pc := 24) K (v := 4) d_C_judgeHeader_24 (by decide) ?_
      refine x_callV (pc := 25) K (As := [.int 4]) (rest := []) (c_T_hasAny l w M 4 n1 hT) (zcwV K.ts lk_C_72 im_T_hasAny se_T_hasAny ii_T co_T_hasAny pd_T_hasAny ⟨rfl, rfl⟩ ⟨by decide, by decide⟩) (zlt hT) hT rfl rfl rfl (Nat.le_of_ble_eq_true rfl) ⟨Nat.zero_le _, Nat.zero_le _⟩ d_C_judgeHeader_25 ?_
      refine x_ifneB (pc := 28) K (tgt := 46) d_C_judgeHeader_28 (by decide) (fun c28 => ?_) (fun c28 => ?_)
      · skip
        refine x_aload_n (pc := 46) K 1 d_C_judgeHeader_46 rfl ?_
        refine x_geti (pc := 47) K (n := n1) (k := 9) (zlt hT) hT rfl rfl (by decide) (fun _ q => zmem (uw_T _ q)) (zmem lk_C_76) d_C_judgeHeader_47 ?_
        refine x_aload_n (pc := 50) K 2 d_C_judgeHeader_50 rfl ?_
        refine x_geti (pc := 51) K (n := n2) (k := 9) (zlt hT2) hT2 rfl rfl (by decide) (fun _ q => zmem (uw_T _ q)) (zmem lk_C_76) d_C_judgeHeader_51 ?_
        refine x_iconst (pc := 54) K (v := (-1)) d_C_judgeHeader_54 (by decide) ?_
        refine x_ixor (pc := 55) K d_C_judgeHeader_55 ?_
        refine x_iand (pc := 56) K d_C_judgeHeader_56 ?_
        refine x_istore (pc := 57) K (lv' := [(4, .int ((M.1 n1 9) &&& ((M.1 n2 9) ^^^ (-1)))), (0, .ref (w.2.2 + 272)), (1, .ref (w.2.2 + n1)), (2, .ref (w.2.2 + n2)), (3, .int (nI t))]) d_C_judgeHeader_57 (by decide) rfl ?_
        refine x_iconst (pc := 59) K (v := nI 0) d_C_judgeHeader_59 (by decide) ?_
        refine x_istore (pc := 60) K (lv' := [(5, .int (nI 0)), (4, .int ((M.1 n1 9) &&& ((M.1 n2 9) ^^^ (-1)))), (0, .ref (w.2.2 + 272)), (1, .ref (w.2.2 + n1)), (2, .ref (w.2.2 + n2)), (3, .int (nI t))]) d_C_judgeHeader_60 (by decide) rfl ?_
        refine x_lv [0, 1, 2, 3, 4, 5] rfl ?_
        have e1 : jhA M n1 n2 2 2 (nI t) = M := if_neg (fun q => c13 q.2)
        have e2 : jhA (M) n1 n2 4 3 (nI t) = M := if_neg (fun q => q.1 c28)
        exact lp_C_judgeHeader l w M b1 b2 h1 h2 o n1 n2 hT hT2 t _ _ K 13 0 _ (by omega) (by omega) hM (by unfold jh; rw [e1, e2]; rfl)
      · skip
        refine x_aload_n (pc := 31) K 2 d_C_judgeHeader_31 rfl ?_
        refine x_iconst (pc := 32) K (v := 4) d_C_judgeHeader_32 (by decide) ?_
        refine x_callV (pc := 33) K (As := [.int 4]) (rest := []) (c_T_hasAny l w M 4 n2 hT2) (zcwV K.ts lk_C_72 im_T_hasAny se_T_hasAny ii_T co_T_hasAny pd_T_hasAny ⟨rfl, rfl⟩ ⟨by decide, by decide⟩) (zlt hT2) hT2 rfl rfl rfl (Nat.le_of_ble_eq_true rfl) ⟨Nat.zero_le _, Nat.zero_le _⟩ d_C_judgeHeader_33 ?_
        refine x_ifeqB (pc := 36) K (tgt := 46) d_C_judgeHeader_36 (by decide) (fun c36 => ?_) (fun c36 => ?_)
        · skip
          refine x_aload_n (pc := 46) K 1 d_C_judgeHeader_46 rfl ?_
          refine x_geti (pc := 47) K (n := n1) (k := 9) (zlt hT) hT rfl rfl (by decide) (fun _ q => zmem (uw_T _ q)) (zmem lk_C_76) d_C_judgeHeader_47 ?_
          refine x_aload_n (pc := 50) K 2 d_C_judgeHeader_50 rfl ?_
          refine x_geti (pc := 51) K (n := n2) (k := 9) (zlt hT2) hT2 rfl rfl (by decide) (fun _ q => zmem (uw_T _ q)) (zmem lk_C_76) d_C_judgeHeader_51 ?_
          refine x_iconst (pc := 54) K (v := (-1)) d_C_judgeHeader_54 (by decide) ?_
          refine x_ixor (pc := 55) K d_C_judgeHeader_55 ?_
          refine x_iand (pc := 56) K d_C_judgeHeader_56 ?_
          refine x_istore (pc := 57) K (lv' := [(4, .int ((M.1 n1 9) &&& ((M.1 n2 9) ^^^ (-1)))), (0, .ref (w.2.2 + 272)), (1, .ref (w.2.2 + n1)), (2, .ref (w.2.2 + n2)), (3, .int (nI t))]) d_C_judgeHeader_57 (by decide) rfl ?_
          refine x_iconst (pc := 59) K (v := nI 0) d_C_judgeHeader_59 (by decide) ?_
          refine x_istore (pc := 60) K (lv' := [(5, .int (nI 0)), (4, .int ((M.1 n1 9) &&& ((M.1 n2 9) ^^^ (-1)))), (0, .ref (w.2.2 + 272)), (1, .ref (w.2.2 + n1)), (2, .ref (w.2.2 + n2)), (3, .int (nI t))]) d_C_judgeHeader_60 (by decide) rfl ?_
          refine x_lv [0, 1, 2, 3, 4, 5] rfl ?_
          have e1 : jhA M n1 n2 2 2 (nI t) = M := if_neg (fun q => c13 q.2)
          have e2 : jhA (M) n1 n2 4 3 (nI t) = M := if_neg (fun q => c36 q.2)
          exact lp_C_judgeHeader l w M b1 b2 h1 h2 o n1 n2 hT hT2 t _ _ K 13 0 _ (by omega) (by omega) hM (by unfold jh; rw [e1, e2]; rfl)
        · skip
          refine x_aload_n (pc := 39) K 0 d_C_judgeHeader_39 rfl ?_
          refine x_iconst (pc := 40) K (v := 3) d_C_judgeHeader_40 (by decide) ?_
          refine x_iload_n (pc := 41) K 3 d_C_judgeHeader_41 rfl ?_
          refine x_iconst (pc := 42) K (v := (-1)) d_C_judgeHeader_42 (by decide) ?_
          refine x_callVv (pc := 43) K (As := [.int 3, .int (nI t), .int (-1)]) (rest := []) (c_C_add l w M o hM.1 hM.2.2.2 3 (nI t) (-1)) (zcwV K.ts lk_C_50 im_C_add se_C_add ii_C co_C_add pd_C_add ⟨rfl, rfl⟩ ⟨by decide, by decide⟩) (zlt shC) shC rfl rfl rfl (Nat.le_of_ble_eq_true rfl) ⟨Nat.zero_le _, Nat.zero_le _⟩ d_C_judgeHeader_43 ?_
          refine x_aload_n (pc := 46) K 1 d_C_judgeHeader_46 rfl ?_
          refine x_geti (pc := 47) K (n := n1) (k := 9) (zlt hT) hT rfl rfl (by decide) (fun _ q => zmem (uw_T _ q)) (zmem lk_C_76) d_C_judgeHeader_47 ?_
          refine x_aload_n (pc := 50) K 2 d_C_judgeHeader_50 rfl ?_
          refine x_geti (pc := 51) K (n := n2) (k := 9) (zlt hT2) hT2 rfl rfl (by decide) (fun _ q => zmem (uw_T _ q)) (zmem lk_C_76) d_C_judgeHeader_51 ?_
          refine x_iconst (pc := 54) K (v := (-1)) d_C_judgeHeader_54 (by decide) ?_
          refine x_ixor (pc := 55) K d_C_judgeHeader_55 ?_
          refine x_iand (pc := 56) K d_C_judgeHeader_56 ?_
          refine x_istore (pc := 57) K (lv' := [(4, .int (((cAdd M 3 (nI t) (-1)).1 n1 9) &&& (((cAdd M 3 (nI t) (-1)).1 n2 9) ^^^ (-1)))), (0, .ref (w.2.2 + 272)), (1, .ref (w.2.2 + n1)), (2, .ref (w.2.2 + n2)), (3, .int (nI t))]) d_C_judgeHeader_57 (by decide) rfl ?_
          refine x_iconst (pc := 59) K (v := nI 0) d_C_judgeHeader_59 (by decide) ?_
          refine x_istore (pc := 60) K (lv' := [(5, .int (nI 0)), (4, .int (((cAdd M 3 (nI t) (-1)).1 n1 9) &&& (((cAdd M 3 (nI t) (-1)).1 n2 9) ^^^ (-1)))), (0, .ref (w.2.2 + 272)), (1, .ref (w.2.2 + n1)), (2, .ref (w.2.2 + n2)), (3, .int (nI t))]) d_C_judgeHeader_60 (by decide) rfl ?_
          refine x_lv [0, 1, 2, 3, 4, 5] rfl ?_
          have e1 : jhA M n1 n2 2 2 (nI t) = M := if_neg (fun q => c13 q.2)
          have e2 : jhA (M) n1 n2 4 3 (nI t) = cAdd M 3 (nI t) (-1) := if_pos ⟨c28, c36⟩
          exact lp_C_judgeHeader l w M b1 b2 h1 h2 o n1 n2 hT hT2 t _ _ K 13 0 _ (by omega) (by omega) (cOk_add h1 h2 hM) (by unfold jh; rw [e1, e2]; rfl)
    · skip
      refine x_aload_n (pc := 16) K 0 d_C_judgeHeader_16 rfl ?_
      refine x_iconst (pc := 17) K (v := 2) d_C_judgeHeader_17 (by decide) ?_
      refine x_iload_n (pc := 18) K 3 d_C_judgeHeader_18 rfl ?_
      refine x_iconst (pc := 19) K (v := (-1)) d_C_judgeHeader_19 (by decide) ?_
      refine x_callVv (pc := 20) K (As := [.int 2, .int (nI t), .int (-1)]) (rest := []) (c_C_add l w M o hM.1 hM.2.2.2 2 (nI t) (-1)) (zcwV K.ts lk_C_50 im_C_add se_C_add ii_C co_C_add pd_C_add ⟨rfl, rfl⟩ ⟨by decide, by decide⟩) (zlt shC) shC rfl rfl rfl (Nat.le_of_ble_eq_true rfl) ⟨Nat.zero_le _, Nat.zero_le _⟩ d_C_judgeHeader_20 ?_
      refine x_aload_n (pc := 23) K 1 d_C_judgeHeader_23 rfl ?_
      refine x_iconst (pc := 24) K (v := 4) d_C_judgeHeader_24 (by decide) ?_
      refine x_callV (pc := 25) K (As := [.int 4]) (rest := []) (c_T_hasAny l w (cAdd M 2 (nI t) (-1)) 4 n1 hT) (zcwV K.ts lk_C_72 im_T_hasAny se_T_hasAny ii_T co_T_hasAny pd_T_hasAny ⟨rfl, rfl⟩ ⟨by decide, by decide⟩) (zlt hT) hT rfl rfl rfl (Nat.le_of_ble_eq_true rfl) ⟨Nat.zero_le _, Nat.zero_le _⟩ d_C_judgeHeader_25 ?_
      refine x_ifneB (pc := 28) K (tgt := 46) d_C_judgeHeader_28 (by decide) (fun c28 => ?_) (fun c28 => ?_)
      · skip
        refine x_aload_n (pc := 46) K 1 d_C_judgeHeader_46 rfl ?_
        refine x_geti (pc := 47) K (n := n1) (k := 9) (zlt hT) hT rfl rfl (by decide) (fun _ q => zmem (uw_T _ q)) (zmem lk_C_76) d_C_judgeHeader_47 ?_
        refine x_aload_n (pc := 50) K 2 d_C_judgeHeader_50 rfl ?_
        refine x_geti (pc := 51) K (n := n2) (k := 9) (zlt hT2) hT2 rfl rfl (by decide) (fun _ q => zmem (uw_T _ q)) (zmem lk_C_76) d_C_judgeHeader_51 ?_
        refine x_iconst (pc := 54) K (v := (-1)) d_C_judgeHeader_54 (by decide) ?_
        refine x_ixor (pc := 55) K d_C_judgeHeader_55 ?_
        refine x_iand (pc := 56) K d_C_judgeHeader_56 ?_
        refine x_istore (pc := 57) K (lv' := [(4, .int (((cAdd M 2 (nI t) (-1)).1 n1 9) &&& (((cAdd M 2 (nI t) (-1)).1 n2 9) ^^^ (-1)))), (0, .ref (w.2.2 + 272)), (1, .ref (w.2.2 + n1)), (2, .ref (w.2.2 + n2)), (3, .int (nI t))]) d_C_judgeHeader_57 (by decide) rfl ?_
        refine x_iconst (pc := 59) K (v := nI 0) d_C_judgeHeader_59 (by decide) ?_
        refine x_istore (pc := 60) K (lv' := [(5, .int (nI 0)), (4, .int (((cAdd M 2 (nI t) (-1)).1 n1 9) &&& (((cAdd M 2 (nI t) (-1)).1 n2 9) ^^^ (-1)))), (0, .ref (w.2.2 + 272)), (1, .ref (w.2.2 + n1)), (2, .ref (w.2.2 + n2)), (3, .int (nI t))]) d_C_judgeHeader_60 (by decide) rfl ?_
        refine x_lv [0, 1, 2, 3, 4, 5] rfl ?_
        have e1 : jhA M n1 n2 2 2 (nI t) = cAdd M 2 (nI t) (-1) := if_pos ⟨c5, c13⟩
        have e2 : jhA (cAdd M 2 (nI t) (-1)) n1 n2 4 3 (nI t) = cAdd M 2 (nI t) (-1) := if_neg (fun q => q.1 c28)
        exact lp_C_judgeHeader l w M b1 b2 h1 h2 o n1 n2 hT hT2 t _ _ K 13 0 _ (by omega) (by omega) (cOk_add h1 h2 hM) (by unfold jh; rw [e1, e2]; rfl)
      · skip
        refine x_aload_n (pc := 31) K 2 d_C_judgeHeader_31 rfl ?_
        refine x_iconst (pc := 32) K (v := 4) d_C_judgeHeader_32 (by decide) ?_
        refine x_callV (pc := 33) K (As := [.int 4]) (rest := []) (c_T_hasAny l w (cAdd M 2 (nI t) (-1)) 4 n2 hT2) (zcwV K.ts lk_C_72 im_T_hasAny se_T_hasAny ii_T co_T_hasAny pd_T_hasAny ⟨rfl, rfl⟩ ⟨by decide, by decide⟩) (zlt hT2) hT2 rfl rfl rfl (Nat.le_of_ble_eq_true rfl) ⟨Nat.zero_le _, Nat.zero_le _⟩ d_C_judgeHeader_33 ?_
        refine x_ifeqB (pc := 36) K (tgt := 46) d_C_judgeHeader_36 (by decide) (fun c36 => ?_) (fun c36 => ?_)
        · skip
          refine x_aload_n (pc := 46) K 1 d_C_judgeHeader_46 rfl ?_
          refine x_geti (pc := 47) K (n := n1) (k := 9) (zlt hT) hT rfl rfl (by decide) (fun _ q => zmem (uw_T _ q)) (zmem lk_C_76) d_C_judgeHeader_47 ?_
          refine x_aload_n (pc := 50) K 2 d_C_judgeHeader_50 rfl ?_
          refine x_geti (pc := 51) K (n := n2) (k := 9) (zlt hT2) hT2 rfl rfl (by decide) (fun _ q => zmem (uw_T _ q)) (zmem lk_C_76) d_C_judgeHeader_51 ?_
          refine x_iconst (pc := 54) K (v := (-1)) d_C_judgeHeader_54 (by decide) ?_
          refine x_ixor (pc := 55) K d_C_judgeHeader_55 ?_
          refine x_iand (pc := 56) K d_C_judgeHeader_56 ?_
          refine x_istore (pc := 57) K (lv' := [(4, .int (((cAdd M 2 (nI t) (-1)).1 n1 9) &&& (((cAdd M 2 (nI t) (-1)).1 n2 9) ^^^ (-1)))), (0, .ref (w.2.2 + 272)), (1, .ref (w.2.2 + n1)), (2, .ref (w.2.2 + n2)), (3, .int (nI t))]) d_C_judgeHeader_57 (by decide) rfl ?_
          refine x_iconst (pc := 59) K (v := nI 0) d_C_judgeHeader_59 (by decide) ?_
          refine x_istore (pc := 60) K (lv' := [(5, .int (nI 0)), (4, .int (((cAdd M 2 (nI t) (-1)).1 n1 9) &&& (((cAdd M 2 (nI t) (-1)).1 n2 9) ^^^ (-1)))), (0, .ref (w.2.2 + 272)), (1, .ref (w.2.2 + n1)), (2, .ref (w.2.2 + n2)), (3, .int (nI t))]) d_C_judgeHeader_60 (by decide) rfl ?_
          refine x_lv [0, 1, 2, 3, 4, 5] rfl ?_
          have e1 : jhA M n1 n2 2 2 (nI t) = cAdd M 2 (nI t) (-1) := if_pos ⟨c5, c13⟩
          have e2 : jhA (cAdd M 2 (nI t) (-1)) n1 n2 4 3 (nI t) = cAdd M 2 (nI t) (-1) := if_neg (fun q => c36 q.2)
          exact lp_C_judgeHeader l w M b1 b2 h1 h2 o n1 n2 hT hT2 t _ _ K 13 0 _ (by omega) (by omega) (cOk_add h1 h2 hM) (by unfold jh; rw [e1, e2]; rfl)
        · skip
          refine x_aload_n (pc := 39) K 0 d_C_judgeHeader_39 rfl ?_
          refine x_iconst (pc := 40) K (v := 3) d_C_judgeHeader_40 (by decide) ?_
          refine x_iload_n (pc := 41) K 3 d_C_judgeHeader_41 rfl ?_
          refine x_iconst (pc := 42) K (v := (-1)) d_C_judgeHeader_42 (by decide) ?_
          refine x_callVv (pc := 43) K (As := [.int 3, .int (nI t), .int (-1)]) (rest := []) (c_C_add l w (cAdd M 2 (nI t) (-1)) o (by rw [cAdd_2]; exact hM.1) (cAdd_z hM.2.2.2) 3 (nI t) (-1)) (zcwV K.ts lk_C_50 im_C_add se_C_add ii_C co_C_add pd_C_add ⟨rfl, rfl⟩ ⟨by decide, by decide⟩) (zlt shC) shC rfl rfl rfl (Nat.le_of_ble_eq_true rfl) ⟨Nat.zero_le _, Nat.zero_le _⟩ d_C_judgeHeader_43 ?_
          refine x_aload_n (pc := 46) K 1 d_C_judgeHeader_46 rfl ?_
          refine x_geti (pc := 47) K (n := n1) (k := 9) (zlt hT) hT rfl rfl (by decide) (fun _ q => zmem (uw_T _ q)) (zmem lk_C_76) d_C_judgeHeader_47 ?_
          refine x_aload_n (pc := 50) K 2 d_C_judgeHeader_50 rfl ?_
          refine x_geti (pc := 51) K (n := n2) (k := 9) (zlt hT2) hT2 rfl rfl (by decide) (fun _ q => zmem (uw_T _ q)) (zmem lk_C_76) d_C_judgeHeader_51 ?_
          refine x_iconst (pc := 54) K (v := (-1)) d_C_judgeHeader_54 (by decide) ?_
          refine x_ixor (pc := 55) K d_C_judgeHeader_55 ?_
          refine x_iand (pc := 56) K d_C_judgeHeader_56 ?_
          refine x_istore (pc := 57) K (lv' := [(4, .int (((cAdd (cAdd M 2 (nI t) (-1)) 3 (nI t) (-1)).1 n1 9) &&& (((cAdd (cAdd M 2 (nI t) (-1)) 3 (nI t) (-1)).1 n2 9) ^^^ (-1)))), (0, .ref (w.2.2 + 272)), (1, .ref (w.2.2 + n1)), (2, .ref (w.2.2 + n2)), (3, .int (nI t))]) d_C_judgeHeader_57 (by decide) rfl ?_
          refine x_iconst (pc := 59) K (v := nI 0) d_C_judgeHeader_59 (by decide) ?_
          refine x_istore (pc := 60) K (lv' := [(5, .int (nI 0)), (4, .int (((cAdd (cAdd M 2 (nI t) (-1)) 3 (nI t) (-1)).1 n1 9) &&& (((cAdd (cAdd M 2 (nI t) (-1)) 3 (nI t) (-1)).1 n2 9) ^^^ (-1)))), (0, .ref (w.2.2 + 272)), (1, .ref (w.2.2 + n1)), (2, .ref (w.2.2 + n2)), (3, .int (nI t))]) d_C_judgeHeader_60 (by decide) rfl ?_
          refine x_lv [0, 1, 2, 3, 4, 5] rfl ?_
          have e1 : jhA M n1 n2 2 2 (nI t) = cAdd M 2 (nI t) (-1) := if_pos ⟨c5, c13⟩
          have e2 : jhA (cAdd M 2 (nI t) (-1)) n1 n2 4 3 (nI t) = cAdd (cAdd M 2 (nI t) (-1)) 3 (nI t) (-1) := if_pos ⟨c28, c36⟩
          exact lp_C_judgeHeader l w M b1 b2 h1 h2 o n1 n2 hT hT2 t _ _ K 13 0 _ (by omega) (by omega) (cOk_add h1 h2 (cOk_add h1 h2 hM)) (by unfold jh; rw [e1, e2]; rfl)
end
section
noncomputable def cIf {α : Type} (P : Prop) (a b : α) : α := @ite α P (Classical.propDecidable P) a b
theorem cIf_t {α : Type} {P : Prop} {a b : α} (h : P) : cIf P a b = a := @if_pos P (Classical.propDecidable P) h α a b
theorem cIf_f {α : Type} {P : Prop} {a b : α} (h : ¬ P) : cIf P a b = b := @if_neg P (Classical.propDecidable P) h α a b
theorem cOk_b {o b1 b2 b : Nat} {M : fl_M} (h : cOk o b1 b2 M) (hb : b = b1 ∨ b = b2) : bAll M.1 b := by
  rcases hb with rfl | rfl
  · exact h.2.1
  · exact h.2.2.1
/-- what looking up on the side b from t gives for the member a -/
def fpR (M : fl_M) (b t a : Nat) : Option Nat := if whr M b t (M.1 a 0) (M.1 a 1) = 12 then none else (tOwn (whM M b t (M.1 a 0) (M.1 a 1)).1 (tn b (whr M b t (M.1 a 0) (M.1 a 1))) ((whM M b t (M.1 a 0) (M.1 a 1)).1 a 0) ((whM M b t (M.1 a 0) (M.1 a 1)).1 a 1)).map (fun j => tn b (whr M b t (M.1 a 0) (M.1 a 1)) + 3 + j)
def fpl (M : fl_M) (n1 b t : Nat) : Nat → Nat → fl_M
  | _, 0 => M
  | i, k + 1 => fpl (wR (whM M b t (M.1 (n1 + 3 + i) 0) (M.1 (n1 + 3 + i) 1)) 276 i (fpR M b t (n1 + 3 + i))) n1 b t (i + 1) k
theorem neTF {n b : Nat} (h : zSh n = zsT) (hB : zSh b = zsB) : n ≠ b + 134 := by
  intro q
  rw [q, shBf hB] at h
  exact absurd h (by decide)
set_option maxHeartbeats 4000000 in
set_option maxRecDepth 100000 in
theorem lp_C_findPartners (l : Launch) (w : fl_W) (M : fl_M) (b1 b2 : Nat) (h1 : zSh b1 = zsB) (h2 : zSh b2 = zsB) (hne : b1 ≠ b2) (o : Nat) (n1 : Nat) (hT : zSh n1 = zsT) (b : Nat) (hB : zSh b = zsB) (hb : b = b1 ∨ b = b2) (t : Nat) (ht : t < 12) (c : Nat) (h8 : c ≤ 8) (Y : fl_M) {p9 : Program} {e9 : Env} {s9 : State} {m9 : MethodId} {ag9 : Array Value} {bl9 : List Frame} {mt9 : Method} {c9 : Code} (K : XC p9 s9 m9 ag9 mt9 c9 b_C_findPartners 7 none w_C_findPartners "CompatibilityJudge$Comparison" w) : ∀ (k : Nat) (i : Nat) (X : fl_M), i ≤ c → c + 1 ≤ i + k → cOk o b1 b2 X → X.1 n1 7 = nI c → fpl X n1 b t i (c - i) = Y → XW p9 l e9 (rm_C_findPartners) s9 m9 ag9 bl9 mt9 c9 7 0 0 (MQ bl9 (CQ w zN none Y) ag9 s9 0 0 (fun q : Nat => w.2.2 ≤ q)) w zN X 3 [(4, .int (nI i)), (0, .ref (w.2.2 + 272)), (1, .ref (w.2.2 + n1)), (2, .ref (w.2.2 + b)), (3, .int (nI t))] [] := by
  intro k
  induction k with
  | zero =>
    intro i X hi hk
    exact absurd hk (by omega)
  | succ k ih =>
    intro i X hi hk hX hc hf
    refine x_iload (pc := 3) K 0 d_C_findPartners_3 rfl ?_
    refine x_aload_n (pc := 5) K 2 d_C_findPartners_5 rfl ?_
    refine x_geti (pc := 6) K (n := n1) (k := 7) (zlt hT) hT rfl rfl (by decide) (fun _ q => zmem (uw_T _ q)) (zmem lk_C_83) d_C_findPartners_6 ?_
    refine x_eqi (y := nI c) (hc) ?_
    refine x_icmp_ge (pc := 9) K (tgt := 82) d_C_findPartners_9 (by decide) (fun c9 => ?_) (fun c9 => ?_)
    · skip
      have hic : i = c := by have := (nI_leI (by omega) (by omega)).mp c9; omega
      rw [hic, Nat.sub_self] at hf
      exact x_vret (pc := 82) K rfl (by subst hf; rfl) d_C_findPartners_82
    · skip
      have hic : i < c := Nat.not_le.mp (fun q => c9 (nI_le q (by omega)))
      rw [show c - i = (c - (i + 1)) + 1 by omega, fpl] at hf
      have hBa := cOk_b hX hb
      refine x_aload_n (pc := 12) K 2 d_C_findPartners_12 rfl ?_
      refine x_getr (pc := 13) K (n := n1) (n' := n1 + 2) (k := 6) (zlt hT) hT rfl (hX.1.Ta hT) rfl (by decide) (fun _ q => zmem (uw_T _ q)) (zmem lk_C_86) d_C_findPartners_13 ?_
      refine x_iload (pc := 16) K 0 d_C_findPartners_16 rfl ?_
      refine x_aald (pc := 18) K (n := n1 + 2) (n' := n1 + 3 + i) (j := i) rfl (by omega) (hX.1.Tm hT (by omega)) (zlt (shTa hT)) (shTa hT) rfl (by decide) d_C_findPartners_18 ?_
      refine x_astore (pc := 19) K (lv' := [(5, .ref (w.2.2 + (n1 + 3 + i))), (4, .int (nI i)), (0, .ref (w.2.2 + 272)), (1, .ref (w.2.2 + n1)), (2, .ref (w.2.2 + b)), (3, .int (nI t))]) d_C_findPartners_19 (by decide) rfl ?_
      refine x_aload_n (pc := 21) K 4 d_C_findPartners_21 rfl ?_
      refine x_iload_n (pc := 22) K 5 d_C_findPartners_22 rfl ?_
      refine x_aload (pc := 23) K 0 d_C_findPartners_23 rfl ?_
      refine x_geti (pc := 25) K (n := n1 + 3 + i) (k := 0) (zlt (shTm hT (by omega))) (shTm hT (by omega)) rfl rfl (by decide) (fun _ q => zmem (uw_M _ q)) (zmem lk_C_96) d_C_findPartners_25 ?_
      refine x_aload (pc := 28) K 0 d_C_findPartners_28 rfl ?_
      refine x_geti (pc := 30) K (n := n1 + 3 + i) (k := 1) (zlt (shTm hT (by omega))) (shTm hT (by omega)) rfl rfl (by decide) (fun _ q => zmem (uw_M _ q)) (zmem lk_C_97) d_C_findPartners_30 ?_
      refine x_callV (pc := 33) K (As := [.int (nI t), .int (X.1 (n1 + 3 + i) 0), .int (X.1 (n1 + 3 + i) 1)]) (rest := []) (c_B_whereIs l w X b hB o hX.1 hBa.1 hBa.2.1 t ht (X.1 (n1 + 3 + i) 0) (X.1 (n1 + 3 + i) 1)) (zcwV K.ts lk_C_108 im_B_whereIs se_B_whereIs ii_B co_B_whereIs pd_B_whereIs ⟨rfl, rfl⟩ ⟨by decide, by decide⟩) (zlt hB) hB rfl rfl rfl (Nat.le_of_ble_eq_true rfl) ⟨Nat.zero_le _, Nat.zero_le _⟩ d_C_findPartners_33 ?_
      have hX1 : cOk o b1 b2 (whM X b t (X.1 (n1 + 3 + i) 0) (X.1 (n1 + 3 + i) 1)) := cOk_wh h1 h2 hne hb ht hX
      have hBa1 := cOk_b hX1 hb
      refine x_istore (pc := 36) K (lv' := [(6, .int (whr X b t (X.1 (n1 + 3 + i) 0) (X.1 (n1 + 3 + i) 1))), (5, .ref (w.2.2 + (n1 + 3 + i))), (4, .int (nI i)), (0, .ref (w.2.2 + 272)), (1, .ref (w.2.2 + n1)), (2, .ref (w.2.2 + b)), (3, .int (nI t))]) d_C_findPartners_36 (by decide) rfl ?_
      refine x_aload_n (pc := 38) K 3 d_C_findPartners_38 rfl ?_
      refine x_getr (pc := 39) K (n := 272) (n' := 276) (k := 5) (zlt shC) shC rfl hX1.1.c276 rfl (by decide) (fun _ q => zmem (uw_C _ q)) (zmem lk_C_23) d_C_findPartners_39 ?_
      refine x_iload (pc := 42) K 2 d_C_findPartners_42 rfl ?_
      refine x_iload (pc := 44) K 0 d_C_findPartners_44 rfl ?_
      refine x_bipush (pc := 46) K (v := 12) d_C_findPartners_46 (by decide) ?_
      refine x_icmp_ne (pc := 48) K (tgt := 55) d_C_findPartners_48 (by decide) (fun c48 => ?_) (fun c48 => ?_)
      · skip
        have hw := (whr_in ht hBa).resolve_left c48
        refine x_aload_n (pc := 55) K 5 d_C_findPartners_55 rfl ?_
        refine x_getr (pc := 56) K (n := b) (n' := b + 1) (k := 0) (zlt hB) hB rfl (hX1.1.Ba hB) rfl (by decide) (fun _ q => zmem (uw_B _ q)) (zmem lk_C_35) d_C_findPartners_56 ?_
        refine x_iload (pc := 59) K 0 d_C_findPartners_59 rfl ?_
        refine x_aald (pc := 61) K (n := b + 1) (n' := b + 2 + 11 * (ix (whr X b t (X.1 (n1 + 3 + i) 0) (X.1 (n1 + 3 + i) 1)))) (j := ix (whr X b t (X.1 (n1 + 3 + i) 0) (X.1 (n1 + 3 + i) 1))) hw.1 hw.2 (hX1.1.Bt hB hw.2) (zlt (shBa hB)) (shBa hB) rfl (by decide) d_C_findPartners_61 ?_
        refine x_aload (pc := 62) K 1 d_C_findPartners_62 rfl ?_
        refine x_geti (pc := 64) K (n := n1 + 3 + i) (k := 0) (zlt (shTm hT (by omega))) (shTm hT (by omega)) rfl rfl (by decide) (fun _ q => zmem (uw_M _ q)) (zmem lk_C_96) d_C_findPartners_64 ?_
        refine x_aload (pc := 67) K 1 d_C_findPartners_67 rfl ?_
        refine x_geti (pc := 69) K (n := n1 + 3 + i) (k := 1) (zlt (shTm hT (by omega))) (shTm hT (by omega)) rfl rfl (by decide) (fun _ q => zmem (uw_M _ q)) (zmem lk_C_97) d_C_findPartners_69 ?_
        refine x_callV (pc := 72) K (As := [.int ((whM X b t (X.1 (n1 + 3 + i) 0) (X.1 (n1 + 3 + i) 1)).1 (n1 + 3 + i) 0), .int ((whM X b t (X.1 (n1 + 3 + i) 0) (X.1 (n1 + 3 + i) 1)).1 (n1 + 3 + i) 1)]) (rest := [.int (nI i), .ref (w.2.2 + 276)]) (c_T_own l w (whM X b t (X.1 (n1 + 3 + i) 0) (X.1 (n1 + 3 + i) 1)) (b + 2 + 11 * (ix (whr X b t (X.1 (n1 + 3 + i) 0) (X.1 (n1 + 3 + i) 1)))) (shBt hB hw.2) o hX1.1 (hBa1.1 (ix (whr X b t (X.1 (n1 + 3 + i) 0) (X.1 (n1 + 3 + i) 1))) hw.2).1 ((whM X b t (X.1 (n1 + 3 + i) 0) (X.1 (n1 + 3 + i) 1)).1 (n1 + 3 + i) 0) ((whM X b t (X.1 (n1 + 3 + i) 0) (X.1 (n1 + 3 + i) 1)).1 (n1 + 3 + i) 1)) (zcwV K.ts lk_C_100 im_T_own se_T_own ii_T co_T_own pd_T_own ⟨rfl, rfl⟩ ⟨by decide, by decide⟩) (zlt (shBt hB hw.2)) (shBt hB hw.2) rfl rfl rfl (Nat.le_of_ble_eq_true rfl) ⟨Nat.zero_le _, Nat.zero_le _⟩ d_C_findPartners_72 ?_
        refine x_opt (n := b + 2 + 11 * (ix (whr X b t (X.1 (n1 + 3 + i) 0) (X.1 (n1 + 3 + i) 1)))) (F := tOwn (whM X b t (X.1 (n1 + 3 + i) 0) (X.1 (n1 + 3 + i) 1)).1 (b + 2 + 11 * (ix (whr X b t (X.1 (n1 + 3 + i) 0) (X.1 (n1 + 3 + i) 1)))) ((whM X b t (X.1 (n1 + 3 + i) 0) (X.1 (n1 + 3 + i) 1)).1 (n1 + 3 + i) 0) ((whM X b t (X.1 (n1 + 3 + i) 0) (X.1 (n1 + 3 + i) 1)).1 (n1 + 3 + i) 1)) (fun ho72 => ?_) (fun j72 ho72 => ?_)
        · skip
          have e9 : fpR X b t (n1 + 3 + i) = none := by unfold fpR; rw [if_neg c48, ho72]; rfl
          refine x_aastN (pc := 75) K (n := 276) (j := i) rfl (by omega) (zlt sh276) sh276 rfl (by decide) d_C_findPartners_75 ?_
          refine x_iinc (pc := 76) K (v := nI (i + 1)) (lv' := [(4, .int (nI (i + 1))), (6, .int (whr X b t (X.1 (n1 + 3 + i) 0) (X.1 (n1 + 3 + i) 1))), (5, .ref (w.2.2 + (n1 + 3 + i))), (0, .ref (w.2.2 + 272)), (1, .ref (w.2.2 + n1)), (2, .ref (w.2.2 + b)), (3, .int (nI t))]) 2 d_C_findPartners_76 rfl (nI_1 _) (by decide) rfl ?_
          refine x_goto (pc := 79) K (tgt := 3) d_C_findPartners_79 (by decide) ?_
          rw [e9] at hf
          refine x_lv [0, 3, 4, 5, 6] rfl ?_
          exact ih (i + 1) _ (by omega) (by omega) (cOk_p hX1) (by show (whM X b t _ _).1 n1 7 = nI c; rw [whM_rd (neTF hT hB)]; exact hc) hf
        · skip
          have hj72 : j72 < 8 := by have := (fnd_lt ho72).2.1; have := (hBa1.1 (ix (whr X b t (X.1 (n1 + 3 + i) 0) (X.1 (n1 + 3 + i) 1))) hw.2).1.2.2; omega
          have e9 : fpR X b t (n1 + 3 + i) = some (tn b (whr X b t (X.1 (n1 + 3 + i) 0) (X.1 (n1 + 3 + i) 1)) + 3 + j72) := by unfold fpR; rw [if_neg c48, ho72]; rfl
          refine x_aast (pc := 75) K (n := 276) (n' := (b + 2 + 11 * (ix (whr X b t (X.1 (n1 + 3 + i) 0) (X.1 (n1 + 3 + i) 1)))) + 3 + j72) (j := i) rfl (by omega) (zlt sh276) sh276 rfl (zlt (shTm (shBt hB hw.2) hj72)) (shTm (shBt hB hw.2) hj72) rfl (by decide) d_C_findPartners_75 ?_
          refine x_iinc (pc := 76) K (v := nI (i + 1)) (lv' := [(4, .int (nI (i + 1))), (6, .int (whr X b t (X.1 (n1 + 3 + i) 0) (X.1 (n1 + 3 + i) 1))), (5, .ref (w.2.2 + (n1 + 3 + i))), (0, .ref (w.2.2 + 272)), (1, .ref (w.2.2 + n1)), (2, .ref (w.2.2 + b)), (3, .int (nI t))]) 2 d_C_findPartners_76 rfl (nI_1 _) (by decide) rfl ?_
          refine x_goto (pc := 79) K (tgt := 3) d_C_findPartners_79 (by decide) ?_
          rw [e9] at hf
          refine x_lv [0, 3, 4, 5, 6] rfl ?_
          exact ih (i + 1) _ (by omega) (by omega) (cOk_p hX1) (by show (whM X b t _ _).1 n1 7 = nI c; rw [whM_rd (neTF hT hB)]; exact hc) hf
      · skip
        have e9 : fpR X b t (n1 + 3 + i) = none := if_pos c48
        refine x_null (pc := 51) K d_C_findPartners_51 ?_
        refine x_goto (pc := 52) K (tgt := 75) d_C_findPartners_52 (by decide) ?_
        refine x_aastN (pc := 75) K (n := 276) (j := i) rfl (by omega) (zlt sh276) sh276 rfl (by decide) d_C_findPartners_75 ?_
        refine x_iinc (pc := 76) K (v := nI (i + 1)) (lv' := [(4, .int (nI (i + 1))), (6, .int (whr X b t (X.1 (n1 + 3 + i) 0) (X.1 (n1 + 3 + i) 1))), (5, .ref (w.2.2 + (n1 + 3 + i))), (0, .ref (w.2.2 + 272)), (1, .ref (w.2.2 + n1)), (2, .ref (w.2.2 + b)), (3, .int (nI t))]) 2 d_C_findPartners_76 rfl (nI_1 _) (by decide) rfl ?_
        refine x_goto (pc := 79) K (tgt := 3) d_C_findPartners_79 (by decide) ?_
        rw [e9] at hf
        refine x_lv [0, 3, 4, 5, 6] rfl ?_
        exact ih (i + 1) _ (by omega) (by omega) (cOk_p hX1) (by show (whM X b t _ _).1 n1 7 = nI c; rw [whM_rd (neTF hT hB)]; exact hc) hf
set_option maxHeartbeats 4000000 in
set_option maxRecDepth 100000 in
theorem c_C_findPartners (l : Launch) (w : fl_W) (M : fl_M) (b1 b2 : Nat) (h1 : zSh b1 = zsB) (h2 : zSh b2 = zsB) (hne : b1 ≠ b2) (o : Nat) (n1 : Nat) (hT : zSh n1 = zsT) (b : Nat) (hB : zSh b = zsB) (hb : b = b1 ∨ b = b2) (t : Nat) (ht : t < 12) (hM : cOk o b1 b2 M) (h7 : M.1 n1 7 = nI (cM M.1 n1)) (h8 : cM M.1 n1 ≤ 8) : CT l y_C_findPartners w_C_findPartners rm_C_findPartners w zN [.ref (w.2.2 + 272), .ref (w.2.2 + n1), .ref (w.2.2 + b), .int (nI t)] M none (fpl M n1 b t 0 (cM M.1 n1)) := by
  refine CT.of (cc := b_C_findPartners) (own := "CompatibilityJudge$Comparison") (by decide) rfl rfl (Nat.le_of_ble_eq_true rfl) ?_
  intro p9 e9 s9 m9 ag9 bl9 mt9 c9 K
  show XW p9 l e9 (rm_C_findPartners) s9 m9 ag9 bl9 mt9 c9 7 0 0 (MQ bl9 (CQ w zN none (fpl M n1 b t 0 (cM M.1 n1))) ag9 s9 0 0 (fun q : Nat => w.2.2 ≤ q)) w zN M 0 [(0, .ref (w.2.2 + 272)), (1, .ref (w.2.2 + n1)), (2, .ref (w.2.2 + b)), (3, .int (nI t))] []
  refine x_iconst (pc := 0) K (v := nI 0) d_C_findPartners_0 (by decide) ?_
  refine x_istore (pc := 1) K (lv' := [(4, .int (nI 0)), (0, .ref (w.2.2 + 272)), (1, .ref (w.2.2 + n1)), (2, .ref (w.2.2 + b)), (3, .int (nI t))]) d_C_findPartners_1 (by decide) rfl ?_
  refine x_lv [0, 1, 2, 3, 4] rfl ?_
  exact lp_C_findPartners l w M b1 b2 h1 h2 hne o n1 hT b hB hb t ht (cM M.1 n1) h8 _ K (cM M.1 n1 + 1) 0 M (by omega) (by omega) hM h7 (by rw [Nat.sub_zero])
/-- the rule r is broken by the old member at place i, its partner being at hand -/
def brP (M : fl_M) (r n1 i : Nat) : Prop := match M.2 276 i with
  | none => r = 5
  | some q => brO M.1 r n1 (n1 + 3 + i) q
noncomputable def joi (M : fl_M) (n1 r t : Nat) : Nat → Nat → fl_M
  | _, 0 => M
  | i, k + 1 => joi (cIf ((¬ (M.1 (n1 + 3 + i) 2 &&& 3) < 2) ∧ brP M r n1 i) (cAdd M (nI r) (nI t) (nI i)) M) n1 r t (i + 1) k
noncomputable def joo (M : fl_M) (n1 t c : Nat) : Nat → Nat → fl_M
  | _, 0 => M
  | r, k + 1 => joo (joi M n1 r t 0 c) n1 t c (r + 1) k
/-- the partners are members -/
def pOk (c : Nat) (M : fl_M) : Prop := ∀ i, i < c → ∀ q, M.2 276 i = some q → zSh q = zsM
theorem pOk_add {c : Nat} {M : fl_M} {r t d : Int32} (h : pOk c M) : pOk c (cAdd M r t d) := by
  intro i hi q hq
  rw [cAdd_2] at hq
  exact h i hi q hq
theorem neTC {n : Nat} (h : zSh n = zsT) : n < 272 := by
  rcases Nat.lt_or_ge n 272 with q | q
  · exact q
  · have h9 : ∀ n, n < 295 → 272 ≤ n → shE (zSh n) zsT = false := by decide +kernel
    have := h9 n (zlt h) q
    rw [shE_t h] at this
    cases this
set_option maxHeartbeats 4000000 in
set_option maxRecDepth 100000 in
theorem li_C_judgeOldMembers (l : Launch) (w : fl_W) (M : fl_M) (b1 b2 : Nat) (h1 : zSh b1 = zsB) (h2 : zSh b2 = zsB) (hne : b1 ≠ b2) (o : Nat) (n1 : Nat) (hT : zSh n1 = zsT) (t r : Nat) (h5 : 5 ≤ r) (h11 : r ≤ 11) (c : Nat) (h8 : c ≤ 8) (Y Z : fl_M) {p9 : Program} {e9 : Env} {s9 : State} {m9 : MethodId} {ag9 : Array Value} {bl9 : List Frame} {mt9 : Method} {c9 : Code} (K : XC p9 s9 m9 ag9 mt9 c9 b_C_judgeOldMembers 6 none w_C_judgeOldMembers "CompatibilityJudge$Comparison" w) : ∀ (k : Nat) (i : Nat) (X : fl_M), i ≤ c → c + 1 ≤ i + k → cOk o b1 b2 X → X.1 n1 7 = nI c → pOk c X → joi X n1 r t i (c - i) = Y → (cOk o b1 b2 Y → Y.1 n1 7 = nI c → pOk c Y → XW p9 l e9 (rm_C_judgeOldMembers) s9 m9 ag9 bl9 mt9 c9 6 0 0 (MQ bl9 (CQ w zN none Z) ag9 s9 0 0 (fun q : Nat => w.2.2 ≤ q)) w zN Y 68 [(4, .int (nI c)), (3, .int (nI r)), (0, .ref (w.2.2 + 272)), (1, .ref (w.2.2 + n1)), (2, .int (nI t))] []) → XW p9 l e9 (rm_C_judgeOldMembers) s9 m9 ag9 bl9 mt9 c9 6 0 0 (MQ bl9 (CQ w zN none Z) ag9 s9 0 0 (fun q : Nat => w.2.2 ≤ q)) w zN X 11 [(4, .int (nI i)), (3, .int (nI r)), (0, .ref (w.2.2 + 272)), (1, .ref (w.2.2 + n1)), (2, .int (nI t))] [] := by
  intro k
  induction k with
  | zero =>
    intro i X hi hk
    exact absurd hk (by omega)
  | succ k ih =>
    intro i X hi hk hX hc hq hf hE
    refine x_iload (pc := 11) K 0 d_C_judgeOldMembers_11 rfl ?_
    refine x_aload_n (pc := 13) K 3 d_C_judgeOldMembers_13 rfl ?_
    refine x_geti (pc := 14) K (n := n1) (k := 7) (zlt hT) hT rfl rfl (by decide) (fun _ q => zmem (uw_T _ q)) (zmem lk_C_83) d_C_judgeOldMembers_14 ?_
    refine x_eqi (y := nI c) (hc) ?_
    refine x_icmp_ge (pc := 17) K (tgt := 68) d_C_judgeOldMembers_17 (by decide) (fun c17 => ?_) (fun c17 => ?_)
    · skip
      have hic : i = c := by have := (nI_leI (by omega) (by omega)).mp c17; omega
      rw [hic, Nat.sub_self] at hf
      subst hic
      refine x_lv [0, 1, 2, 3, 4] rfl ?_
      have hf : X = Y := hf
      subst hf
      exact hE hX hc hq
    · skip
      have hic : i < c := Nat.not_le.mp (fun q => c17 (nI_le q (by omega)))
      rw [show c - i = (c - (i + 1)) + 1 by omega, joi] at hf
      refine x_aload_n (pc := 20) K 3 d_C_judgeOldMembers_20 rfl ?_
      refine x_getr (pc := 21) K (n := n1) (n' := n1 + 2) (k := 6) (zlt hT) hT rfl (hX.1.Ta hT) rfl (by decide) (fun _ q => zmem (uw_T _ q)) (zmem lk_C_86) d_C_judgeOldMembers_21 ?_
      refine x_iload (pc := 24) K 0 d_C_judgeOldMembers_24 rfl ?_
      refine x_aald (pc := 26) K (n := n1 + 2) (n' := n1 + 3 + i) (j := i) rfl (by omega) (hX.1.Tm hT (by omega)) (zlt (shTa hT)) (shTa hT) rfl (by decide) d_C_judgeOldMembers_26 ?_
      refine x_astore (pc := 27) K (lv' := [(5, .ref (w.2.2 + (n1 + 3 + i))), (4, .int (nI i)), (3, .int (nI r)), (0, .ref (w.2.2 + 272)), (1, .ref (w.2.2 + n1)), (2, .int (nI t))]) d_C_judgeOldMembers_27 (by decide) rfl ?_
      refine x_aload (pc := 29) K 0 d_C_judgeOldMembers_29 rfl ?_
      refine x_callV (pc := 31) K (As := []) (rest := []) (c_M_isOpen l w X (n1 + 3 + i) (shTm hT (by omega))) (zcwV K.ts lk_C_89 im_M_isOpen se_M_isOpen ii_M co_M_isOpen pd_M_isOpen ⟨rfl, rfl⟩ ⟨by decide, by decide⟩) (zlt (shTm hT (by omega))) (shTm hT (by omega)) rfl rfl rfl (Nat.le_of_ble_eq_true rfl) ⟨Nat.zero_le _, Nat.zero_le _⟩ d_C_judgeOldMembers_31 ?_
      refine x_ifeqB (pc := 34) K (tgt := 62) d_C_judgeOldMembers_34 (by decide) (fun c34 => ?_) (fun c34 => ?_)
      · skip
        rw [cIf_f (fun q => c34 q.1)] at hf
        refine x_iinc (pc := 62) K (v := nI (i + 1)) (lv' := [(4, .int (nI (i + 1))), (5, .ref (w.2.2 + (n1 + 3 + i))), (3, .int (nI r)), (0, .ref (w.2.2 + 272)), (1, .ref (w.2.2 + n1)), (2, .int (nI t))]) 1 d_C_judgeOldMembers_62 rfl (nI_1 _) (by decide) rfl ?_
        refine x_goto (pc := 65) K (tgt := 11) d_C_judgeOldMembers_65 (by decide) ?_
        refine x_lv [0, 2, 3, 4, 5] rfl ?_
        exact ih (i + 1) _ (by omega) (by omega) hX hc hq hf hE
      · skip
        refine x_iload_n (pc := 37) K 2 d_C_judgeOldMembers_37 rfl ?_
        refine x_aload_n (pc := 38) K 4 d_C_judgeOldMembers_38 rfl ?_
        refine x_aload (pc := 39) K 0 d_C_judgeOldMembers_39 rfl ?_
        refine x_aload_n (pc := 41) K 3 d_C_judgeOldMembers_41 rfl ?_
        refine x_getr (pc := 42) K (n := 272) (n' := 276) (k := 5) (zlt shC) shC rfl hX.1.c276 rfl (by decide) (fun _ q => zmem (uw_C _ q)) (zmem lk_C_23) d_C_judgeOldMembers_42 ?_
        refine x_iload (pc := 45) K 1 d_C_judgeOldMembers_45 rfl ?_
        rcases hp47 : X.2 276 i with _ | q47
        · skip
          have eP : brP X r n1 i ↔ nI r = 5 := by unfold brP; rw [hp47]; exact (nI_eq (b := 5) (by omega) (by omega)).symm
          refine x_aaldN (pc := 47) K (n := 276) (j := i) rfl (by omega) hp47 (zlt sh276) sh276 rfl (by decide) d_C_judgeOldMembers_47 ?_
          refine x_callS (pc := 48) K (As := [.int (nI r), .ref (w.2.2 + n1), .ref (w.2.2 + (n1 + 3 + i)), .null]) (rest := []) (c_C_breaksAsOldN l w X n1 (n1 + 3 + i) hT (shTm hT (by omega)) (nI r)) (zcwS K.ts lk_C_92 sm_C_breaksAsOld ii_C co_C_breaksAsOld pd_C_breaksAsOld ⟨rfl, rfl⟩ ⟨by decide, by decide⟩) rfl rfl (Nat.le_of_ble_eq_true rfl) ⟨Nat.zero_le _, Nat.zero_le _⟩ d_C_judgeOldMembers_48 ?_
          refine x_ifeqB (pc := 51) K (tgt := 62) d_C_judgeOldMembers_51 (by decide) (fun c51 => ?_) (fun c51 => ?_)
          · skip
            rw [cIf_f (fun q => c51 (eP.mp q.2))] at hf
            refine x_iinc (pc := 62) K (v := nI (i + 1)) (lv' := [(4, .int (nI (i + 1))), (5, .ref (w.2.2 + (n1 + 3 + i))), (3, .int (nI r)), (0, .ref (w.2.2 + 272)), (1, .ref (w.2.2 + n1)), (2, .int (nI t))]) 1 d_C_judgeOldMembers_62 rfl (nI_1 _) (by decide) rfl ?_
            refine x_goto (pc := 65) K (tgt := 11) d_C_judgeOldMembers_65 (by decide) ?_
            refine x_lv [0, 2, 3, 4, 5] rfl ?_
            exact ih (i + 1) _ (by omega) (by omega) hX hc hq hf hE
          · skip
            rw [cIf_t ⟨c34, eP.mpr c51⟩] at hf
            refine x_aload_n (pc := 54) K 3 d_C_judgeOldMembers_54 rfl ?_
            refine x_iload_n (pc := 55) K 2 d_C_judgeOldMembers_55 rfl ?_
            refine x_iload_n (pc := 56) K 5 d_C_judgeOldMembers_56 rfl ?_
            refine x_iload (pc := 57) K 1 d_C_judgeOldMembers_57 rfl ?_
            refine x_callVv (pc := 59) K (As := [.int (nI r), .int (nI t), .int (nI i)]) (rest := []) (c_C_add l w X o hX.1 hX.2.2.2 (nI r) (nI t) (nI i)) (zcwV K.ts lk_C_50 im_C_add se_C_add ii_C co_C_add pd_C_add ⟨rfl, rfl⟩ ⟨by decide, by decide⟩) (zlt shC) shC rfl rfl rfl (Nat.le_of_ble_eq_true rfl) ⟨Nat.zero_le _, Nat.zero_le _⟩ d_C_judgeOldMembers_59 ?_
            refine x_iinc (pc := 62) K (v := nI (i + 1)) (lv' := [(4, .int (nI (i + 1))), (5, .ref (w.2.2 + (n1 + 3 + i))), (3, .int (nI r)), (0, .ref (w.2.2 + 272)), (1, .ref (w.2.2 + n1)), (2, .int (nI t))]) 1 d_C_judgeOldMembers_62 rfl (nI_1 _) (by decide) rfl ?_
            refine x_goto (pc := 65) K (tgt := 11) d_C_judgeOldMembers_65 (by decide) ?_
            refine x_lv [0, 2, 3, 4, 5] rfl ?_
            exact ih (i + 1) _ (by omega) (by omega) (cOk_add h1 h2 hX) (by rw [cAdd_rd (Or.inl (neTC hT))]; exact hc) (pOk_add hq) hf hE
        · skip
          have hq47 := hq i hic q47 hp47
          obtain ⟨P47, dP47, hP47, hC47⟩ := c_C_breaksAsOld l w X n1 (n1 + 3 + i) q47 hT (shTm hT (by omega)) hq47 r h5 h11
          have eP : brP X r n1 i ↔ P47 := by unfold brP; rw [hp47]; exact hP47.symm
          refine x_aald (pc := 47) K (n := 276) (n' := q47) (j := i) rfl (by omega) hp47 (zlt sh276) sh276 rfl (by decide) d_C_judgeOldMembers_47 ?_
          refine x_callS (pc := 48) K (As := [.int (nI r), .ref (w.2.2 + n1), .ref (w.2.2 + (n1 + 3 + i)), .ref (w.2.2 + q47)]) (rest := []) hC47 (zcwS K.ts lk_C_92 sm_C_breaksAsOld ii_C co_C_breaksAsOld pd_C_breaksAsOld ⟨rfl, rfl⟩ ⟨by decide, by decide⟩) rfl rfl (Nat.le_of_ble_eq_true rfl) ⟨Nat.zero_le _, Nat.zero_le _⟩ d_C_judgeOldMembers_48 ?_
          refine x_ifeqB (pc := 51) K (tgt := 62) d_C_judgeOldMembers_51 (by decide) (fun c51 => ?_) (fun c51 => ?_)
          · skip
            rw [cIf_f (fun q => c51 (eP.mp q.2))] at hf
            refine x_iinc (pc := 62) K (v := nI (i + 1)) (lv' := [(4, .int (nI (i + 1))), (5, .ref (w.2.2 + (n1 + 3 + i))), (3, .int (nI r)), (0, .ref (w.2.2 + 272)), (1, .ref (w.2.2 + n1)), (2, .int (nI t))]) 1 d_C_judgeOldMembers_62 rfl (nI_1 _) (by decide) rfl ?_
            refine x_goto (pc := 65) K (tgt := 11) d_C_judgeOldMembers_65 (by decide) ?_
            refine x_lv [0, 2, 3, 4, 5] rfl ?_
            exact ih (i + 1) _ (by omega) (by omega) hX hc hq hf hE
          · skip
            rw [cIf_t ⟨c34, eP.mpr c51⟩] at hf
            refine x_aload_n (pc := 54) K 3 d_C_judgeOldMembers_54 rfl ?_
            refine x_iload_n (pc := 55) K 2 d_C_judgeOldMembers_55 rfl ?_
            refine x_iload_n (pc := 56) K 5 d_C_judgeOldMembers_56 rfl ?_
            refine x_iload (pc := 57) K 1 d_C_judgeOldMembers_57 rfl ?_
            refine x_callVv (pc := 59) K (As := [.int (nI r), .int (nI t), .int (nI i)]) (rest := []) (c_C_add l w X o hX.1 hX.2.2.2 (nI r) (nI t) (nI i)) (zcwV K.ts lk_C_50 im_C_add se_C_add ii_C co_C_add pd_C_add ⟨rfl, rfl⟩ ⟨by decide, by decide⟩) (zlt shC) shC rfl rfl rfl (Nat.le_of_ble_eq_true rfl) ⟨Nat.zero_le _, Nat.zero_le _⟩ d_C_judgeOldMembers_59 ?_
            refine x_iinc (pc := 62) K (v := nI (i + 1)) (lv' := [(4, .int (nI (i + 1))), (5, .ref (w.2.2 + (n1 + 3 + i))), (3, .int (nI r)), (0, .ref (w.2.2 + 272)), (1, .ref (w.2.2 + n1)), (2, .int (nI t))]) 1 d_C_judgeOldMembers_62 rfl (nI_1 _) (by decide) rfl ?_
            refine x_goto (pc := 65) K (tgt := 11) d_C_judgeOldMembers_65 (by decide) ?_
            refine x_lv [0, 2, 3, 4, 5] rfl ?_
            exact ih (i + 1) _ (by omega) (by omega) (cOk_add h1 h2 hX) (by rw [cAdd_rd (Or.inl (neTC hT))]; exact hc) (pOk_add hq) hf hE
set_option maxHeartbeats 4000000 in
set_option maxRecDepth 100000 in
theorem lp_C_judgeOldMembers (l : Launch) (w : fl_W) (M : fl_M) (b1 b2 : Nat) (h1 : zSh b1 = zsB) (h2 : zSh b2 = zsB) (hne : b1 ≠ b2) (o : Nat) (n1 : Nat) (hT : zSh n1 = zsT) (t : Nat) (c : Nat) (h8 : c ≤ 8) (Y : fl_M) {p9 : Program} {e9 : Env} {s9 : State} {m9 : MethodId} {ag9 : Array Value} {bl9 : List Frame} {mt9 : Method} {c9 : Code} (K : XC p9 s9 m9 ag9 mt9 c9 b_C_judgeOldMembers 6 none w_C_judgeOldMembers "CompatibilityJudge$Comparison" w) : ∀ (k : Nat) (r : Nat) (X : fl_M), r ≤ 12 → 13 ≤ r + k → 5 ≤ r → cOk o b1 b2 X → X.1 n1 7 = nI c → pOk c X → joo X n1 t c r (12 - r) = Y → XW p9 l e9 (rm_C_judgeOldMembers) s9 m9 ag9 bl9 mt9 c9 6 0 0 (MQ bl9 (CQ w zN none Y) ag9 s9 0 0 (fun q : Nat => w.2.2 ≤ q)) w zN X 2 [(3, .int (nI r)), (0, .ref (w.2.2 + 272)), (1, .ref (w.2.2 + n1)), (2, .int (nI t))] [] := by
  intro k
  induction k with
  | zero =>
    intro r X hi hk
    exact absurd hk (by omega)
  | succ k ih =>
    intro r X hi hk h5 hX hc hq hf
    refine x_iload_n (pc := 2) K 0 d_C_judgeOldMembers_2 rfl ?_
    refine x_bipush (pc := 3) K (v := nI 11) d_C_judgeOldMembers_3 (by decide) ?_
    refine x_icmp_gt (pc := 5) K (tgt := 74) d_C_judgeOldMembers_5 (by decide) (fun c5 => ?_) (fun c5 => ?_)
    · skip
      have hic : r = 12 := by have := (nI_ltI (a := 11) (by omega) (by omega)).mp c5; omega
      rw [hic, Nat.sub_self] at hf
      exact x_vret (pc := 74) K rfl (by subst hf; rfl) d_C_judgeOldMembers_74
    · skip
      have hic : r < 12 := by have := Nat.not_lt.mp (fun q => c5 ((nI_ltI (a := 11) (b := r) (by omega) (by omega)).mpr q)); omega
      rw [show 12 - r = (12 - (r + 1)) + 1 by omega, joo] at hf
      refine x_iconst (pc := 8) K (v := nI 0) d_C_judgeOldMembers_8 (by decide) ?_
      refine x_istore (pc := 9) K (lv' := [(4, .int (nI 0)), (3, .int (nI r)), (0, .ref (w.2.2 + 272)), (1, .ref (w.2.2 + n1)), (2, .int (nI t))]) d_C_judgeOldMembers_9 (by decide) rfl ?_
      refine x_lv [0, 1, 2, 3, 4] rfl ?_
      refine li_C_judgeOldMembers l w M b1 b2 h1 h2 hne o n1 hT t r h5 (by omega) c h8 _ _ K (c + 1) 0 X (by omega) (by omega) hX hc hq (by rw [Nat.sub_zero]) (fun hX hc hq => ?_)
      refine x_iinc (pc := 68) K (v := nI (r + 1)) (lv' := [(3, .int (nI (r + 1))), (4, .int (nI c)), (0, .ref (w.2.2 + 272)), (1, .ref (w.2.2 + n1)), (2, .int (nI t))]) 1 d_C_judgeOldMembers_68 rfl (nI_1 _) (by decide) rfl ?_
      refine x_goto (pc := 71) K (tgt := 2) d_C_judgeOldMembers_71 (by decide) ?_
      refine x_lv [0, 2, 3, 4] rfl ?_
      exact ih (r + 1) _ (by omega) (by omega) (by omega) hX hc hq hf
set_option maxHeartbeats 4000000 in
set_option maxRecDepth 100000 in
theorem c_C_judgeOldMembers (l : Launch) (w : fl_W) (M : fl_M) (b1 b2 : Nat) (h1 : zSh b1 = zsB) (h2 : zSh b2 = zsB) (hne : b1 ≠ b2) (o : Nat) (n1 : Nat) (hT : zSh n1 = zsT) (t : Nat) (hM : cOk o b1 b2 M) (h7 : M.1 n1 7 = nI (cM M.1 n1)) (h8 : cM M.1 n1 ≤ 8) (hq : pOk (cM M.1 n1) M) : CT l y_C_judgeOldMembers w_C_judgeOldMembers rm_C_judgeOldMembers w zN [.ref (w.2.2 + 272), .ref (w.2.2 + n1), .int (nI t)] M none (joo M n1 t (cM M.1 n1) 5 7) := by
  refine CT.of (cc := b_C_judgeOldMembers) (own := "CompatibilityJudge$Comparison") (by decide) rfl rfl (Nat.le_of_ble_eq_true rfl) ?_
  intro p9 e9 s9 m9 ag9 bl9 mt9 c9 K
  show XW p9 l e9 (rm_C_judgeOldMembers) s9 m9 ag9 bl9 mt9 c9 6 0 0 (MQ bl9 (CQ w zN none (joo M n1 t (cM M.1 n1) 5 7)) ag9 s9 0 0 (fun q : Nat => w.2.2 ≤ q)) w zN M 0 [(0, .ref (w.2.2 + 272)), (1, .ref (w.2.2 + n1)), (2, .int (nI t))] []
  refine x_iconst (pc := 0) K (v := nI 5) d_C_judgeOldMembers_0 (by decide) ?_
  refine x_istore_n (pc := 1) K (lv' := [(3, .int (nI 5)), (0, .ref (w.2.2 + 272)), (1, .ref (w.2.2 + n1)), (2, .int (nI t))]) d_C_judgeOldMembers_1 (by decide) rfl ?_
  refine x_lv [0, 1, 2, 3] rfl ?_
  exact lp_C_judgeOldMembers l w M b1 b2 h1 h2 hne o n1 hT t (cM M.1 n1) h8 _ K 8 5 M (by omega) (by omega) (by omega) hM h7 hq rfl
def bnP (M : fl_M) (r n2 i : Nat) : Prop := match M.2 276 i with
  | none => brZ M.1 (nI r) (n2 + 3 + i)
  | some q => brN M.1 (nI r) (n2 + 3 + i) q
noncomputable def jni (M : fl_M) (n1 n2 r t : Nat) : Nat → Nat → fl_M
  | _, 0 => M
  | i, k + 1 => jni (cIf (tOwn M.1 n1 (M.1 (n2 + 3 + i) 0) (M.1 (n2 + 3 + i) 1) = none ∧ bnP M r n2 i) (cAdd M (nI r) (nI t) (nI i)) M) n1 n2 r t (i + 1) k
noncomputable def jno (M : fl_M) (n1 n2 t c : Nat) : Nat → Nat → fl_M
  | _, 0 => M
  | r, k + 1 => jno (jni M n1 n2 r t 0 c) n1 n2 t c (r + 1) k
theorem tOk_add {M : fl_M} {r t d : Int32} {n : Nat} (hT : zSh n = zsT) (h : tOk M.1 n) : tOk (cAdd M r t d).1 n := by
  unfold tOk cI cM
  rw [cAdd_rd (Or.inl (neTC hT)), cAdd_rd (Or.inl (neTC hT))]
  exact h
set_option maxHeartbeats 4000000 in
set_option maxRecDepth 100000 in
theorem li_C_judgeNewMembers (l : Launch) (w : fl_W) (M : fl_M) (b1 b2 : Nat) (h1 : zSh b1 = zsB) (h2 : zSh b2 = zsB) (hne : b1 ≠ b2) (o : Nat) (n1 n2 : Nat) (hT : zSh n1 = zsT) (hT2 : zSh n2 = zsT) (t r : Nat) (c : Nat) (h8 : c ≤ 8) (Y Z : fl_M) {p9 : Program} {e9 : Env} {s9 : State} {m9 : MethodId} {ag9 : Array Value} {bl9 : List Frame} {mt9 : Method} {c9 : Code} (K : XC p9 s9 m9 ag9 mt9 c9 b_C_judgeNewMembers 7 none w_C_judgeNewMembers "CompatibilityJudge$Comparison" w) : ∀ (k : Nat) (i : Nat) (X : fl_M), i ≤ c → c + 1 ≤ i + k → cOk o b1 b2 X → X.1 n2 7 = nI c → tOk X.1 n1 → pOk c X → jni X n1 n2 r t i (c - i) = Y → (cOk o b1 b2 Y → Y.1 n2 7 = nI c → tOk Y.1 n1 → pOk c Y → XW p9 l e9 (rm_C_judgeNewMembers) s9 m9 ag9 bl9 mt9 c9 7 0 0 (MQ bl9 (CQ w zN none Z) ag9 s9 0 0 (fun q : Nat => w.2.2 ≤ q)) w zN Y 81 [(5, .int (nI c)), (4, .int (nI r)), (0, .ref (w.2.2 + 272)), (1, .ref (w.2.2 + n1)), (2, .ref (w.2.2 + n2)), (3, .int (nI t))] []) → XW p9 l e9 (rm_C_judgeNewMembers) s9 m9 ag9 bl9 mt9 c9 7 0 0 (MQ bl9 (CQ w zN none Z) ag9 s9 0 0 (fun q : Nat => w.2.2 ≤ q)) w zN X 14 [(5, .int (nI i)), (4, .int (nI r)), (0, .ref (w.2.2 + 272)), (1, .ref (w.2.2 + n1)), (2, .ref (w.2.2 + n2)), (3, .int (nI t))] [] := by
  intro k
  induction k with
  | zero =>
    intro i X hi hk
    exact absurd hk (by omega)
  | succ k ih =>
    intro i X hi hk hX hc hk1 hq hf hE
    refine x_iload (pc := 14) K 0 d_C_judgeNewMembers_14 rfl ?_
    refine x_aload_n (pc := 16) K 4 d_C_judgeNewMembers_16 rfl ?_
    refine x_geti (pc := 17) K (n := n2) (k := 7) (zlt hT2) hT2 rfl rfl (by decide) (fun _ q => zmem (uw_T _ q)) (zmem lk_C_83) d_C_judgeNewMembers_17 ?_
    refine x_eqi (y := nI c) (hc) ?_
    refine x_icmp_ge (pc := 20) K (tgt := 81) d_C_judgeNewMembers_20 (by decide) (fun c20 => ?_) (fun c20 => ?_)
    · skip
      have hic : i = c := by have := (nI_leI (by omega) (by omega)).mp c20; omega
      rw [hic, Nat.sub_self] at hf
      subst hic
      refine x_lv [0, 1, 2, 3, 4, 5] rfl ?_
      have hf : X = Y := hf
      subst hf
      exact hE hX hc hk1 hq
    · skip
      have hic : i < c := Nat.not_le.mp (fun q => c20 (nI_le q (by omega)))
      rw [show c - i = (c - (i + 1)) + 1 by omega, jni] at hf
      refine x_aload_n (pc := 23) K 4 d_C_judgeNewMembers_23 rfl ?_
      refine x_getr (pc := 24) K (n := n2) (n' := n2 + 2) (k := 6) (zlt hT2) hT2 rfl (hX.1.Ta hT2) rfl (by decide) (fun _ q => zmem (uw_T _ q)) (zmem lk_C_86) d_C_judgeNewMembers_24 ?_
      refine x_iload (pc := 27) K 0 d_C_judgeNewMembers_27 rfl ?_
      refine x_aald (pc := 29) K (n := n2 + 2) (n' := n2 + 3 + i) (j := i) rfl (by omega) (hX.1.Tm hT2 (by omega)) (zlt (shTa hT2)) (shTa hT2) rfl (by decide) d_C_judgeNewMembers_29 ?_
      refine x_astore (pc := 30) K (lv' := [(6, .ref (w.2.2 + (n2 + 3 + i))), (5, .int (nI i)), (4, .int (nI r)), (0, .ref (w.2.2 + 272)), (1, .ref (w.2.2 + n1)), (2, .ref (w.2.2 + n2)), (3, .int (nI t))]) d_C_judgeNewMembers_30 (by decide) rfl ?_
      refine x_aload_n (pc := 32) K 4 d_C_judgeNewMembers_32 rfl ?_
      refine x_aload (pc := 33) K 0 d_C_judgeNewMembers_33 rfl ?_
      refine x_geti (pc := 35) K (n := n2 + 3 + i) (k := 0) (zlt (shTm hT2 (by omega))) (shTm hT2 (by omega)) rfl rfl (by decide) (fun _ q => zmem (uw_M _ q)) (zmem lk_C_96) d_C_judgeNewMembers_35 ?_
      refine x_aload (pc := 38) K 0 d_C_judgeNewMembers_38 rfl ?_
      refine x_geti (pc := 40) K (n := n2 + 3 + i) (k := 1) (zlt (shTm hT2 (by omega))) (shTm hT2 (by omega)) rfl rfl (by decide) (fun _ q => zmem (uw_M _ q)) (zmem lk_C_97) d_C_judgeNewMembers_40 ?_
      refine x_callV (pc := 43) K (As := [.int (X.1 (n2 + 3 + i) 0), .int (X.1 (n2 + 3 + i) 1)]) (rest := []) (c_T_own l w X n1 hT o hX.1 hk1 (X.1 (n2 + 3 + i) 0) (X.1 (n2 + 3 + i) 1)) (zcwV K.ts lk_C_100 im_T_own se_T_own ii_T co_T_own pd_T_own ⟨rfl, rfl⟩ ⟨by decide, by decide⟩) (zlt hT) hT rfl rfl rfl (Nat.le_of_ble_eq_true rfl) ⟨Nat.zero_le _, Nat.zero_le _⟩ d_C_judgeNewMembers_43 ?_
      refine x_opt (n := n1) (F := tOwn X.1 n1 (X.1 (n2 + 3 + i) 0) (X.1 (n2 + 3 + i) 1)) (fun ho43 => ?_) (fun j43 ho43 => ?_)
      · skip
        refine x_ifnonnullN (pc := 46) K d_C_judgeNewMembers_46 ?_
        refine x_iload (pc := 49) K 2 d_C_judgeNewMembers_49 rfl ?_
        refine x_aload (pc := 51) K 0 d_C_judgeNewMembers_51 rfl ?_
        refine x_aload_n (pc := 53) K 3 d_C_judgeNewMembers_53 rfl ?_
        refine x_getr (pc := 54) K (n := 272) (n' := 276) (k := 5) (zlt shC) shC rfl hX.1.c276 rfl (by decide) (fun _ q => zmem (uw_C _ q)) (zmem lk_C_23) d_C_judgeNewMembers_54 ?_
        refine x_iload (pc := 57) K 1 d_C_judgeNewMembers_57 rfl ?_
        rcases hp59 : X.2 276 i with _ | q59
        · skip
          have eP : bnP X r n2 i ↔ brZ X.1 (nI r) (n2 + 3 + i) := by unfold bnP; rw [hp59]
          refine x_aaldN (pc := 59) K (n := 276) (j := i) rfl (by omega) hp59 (zlt sh276) sh276 rfl (by decide) d_C_judgeNewMembers_59 ?_
          refine x_callS (pc := 60) K (As := [.int (nI r), .ref (w.2.2 + (n2 + 3 + i)), .null]) (rest := []) (c_C_breaksAsNewN l w X (n2 + 3 + i) (shTm hT2 (by omega)) (nI r)) (zcwS K.ts lk_C_104 sm_C_breaksAsNew ii_C co_C_breaksAsNew pd_C_breaksAsNew ⟨rfl, rfl⟩ ⟨by decide, by decide⟩) rfl rfl (Nat.le_of_ble_eq_true rfl) ⟨Nat.zero_le _, Nat.zero_le _⟩ d_C_judgeNewMembers_60 ?_
          refine x_ifeqB (pc := 63) K (tgt := 75) d_C_judgeNewMembers_63 (by decide) (fun c63 => ?_) (fun c63 => ?_)
          · skip
            rw [cIf_f (fun q => c63 (eP.mp q.2))] at hf
            refine x_iinc (pc := 75) K (v := nI (i + 1)) (lv' := [(5, .int (nI (i + 1))), (6, .ref (w.2.2 + (n2 + 3 + i))), (4, .int (nI r)), (0, .ref (w.2.2 + 272)), (1, .ref (w.2.2 + n1)), (2, .ref (w.2.2 + n2)), (3, .int (nI t))]) 1 d_C_judgeNewMembers_75 rfl (nI_1 _) (by decide) rfl ?_
            refine x_goto (pc := 78) K (tgt := 14) d_C_judgeNewMembers_78 (by decide) ?_
            refine x_lv [0, 2, 3, 4, 5, 6] rfl ?_
            exact ih (i + 1) _ (by omega) (by omega) hX hc hk1 hq hf hE
          · skip
            rw [cIf_t ⟨ho43, eP.mpr c63⟩] at hf
            refine x_aload_n (pc := 66) K 3 d_C_judgeNewMembers_66 rfl ?_
            refine x_iload (pc := 67) K 2 d_C_judgeNewMembers_67 rfl ?_
            refine x_iload_n (pc := 69) K 6 d_C_judgeNewMembers_69 rfl ?_
            refine x_iload (pc := 70) K 1 d_C_judgeNewMembers_70 rfl ?_
            refine x_callVv (pc := 72) K (As := [.int (nI r), .int (nI t), .int (nI i)]) (rest := []) (c_C_add l w X o hX.1 hX.2.2.2 (nI r) (nI t) (nI i)) (zcwV K.ts lk_C_50 im_C_add se_C_add ii_C co_C_add pd_C_add ⟨rfl, rfl⟩ ⟨by decide, by decide⟩) (zlt shC) shC rfl rfl rfl (Nat.le_of_ble_eq_true rfl) ⟨Nat.zero_le _, Nat.zero_le _⟩ d_C_judgeNewMembers_72 ?_
            refine x_iinc (pc := 75) K (v := nI (i + 1)) (lv' := [(5, .int (nI (i + 1))), (6, .ref (w.2.2 + (n2 + 3 + i))), (4, .int (nI r)), (0, .ref (w.2.2 + 272)), (1, .ref (w.2.2 + n1)), (2, .ref (w.2.2 + n2)), (3, .int (nI t))]) 1 d_C_judgeNewMembers_75 rfl (nI_1 _) (by decide) rfl ?_
            refine x_goto (pc := 78) K (tgt := 14) d_C_judgeNewMembers_78 (by decide) ?_
            refine x_lv [0, 2, 3, 4, 5, 6] rfl ?_
            exact ih (i + 1) _ (by omega) (by omega) (cOk_add h1 h2 hX) (by rw [cAdd_rd (Or.inl (neTC hT2))]; exact hc) (tOk_add hT hk1) (pOk_add hq) hf hE
        · skip
          have hq59 := hq i hic q59 hp59
          have eP : bnP X r n2 i ↔ brN X.1 (nI r) (n2 + 3 + i) q59 := by unfold bnP; rw [hp59]
          refine x_aald (pc := 59) K (n := 276) (n' := q59) (j := i) rfl (by omega) hp59 (zlt sh276) sh276 rfl (by decide) d_C_judgeNewMembers_59 ?_
          refine x_callS (pc := 60) K (As := [.int (nI r), .ref (w.2.2 + (n2 + 3 + i)), .ref (w.2.2 + q59)]) (rest := []) (c_C_breaksAsNew l w X (n2 + 3 + i) q59 (shTm hT2 (by omega)) hq59 (nI r)) (zcwS K.ts lk_C_104 sm_C_breaksAsNew ii_C co_C_breaksAsNew pd_C_breaksAsNew ⟨rfl, rfl⟩ ⟨by decide, by decide⟩) rfl rfl (Nat.le_of_ble_eq_true rfl) ⟨Nat.zero_le _, Nat.zero_le _⟩ d_C_judgeNewMembers_60 ?_
          refine x_ifeqB (pc := 63) K (tgt := 75) d_C_judgeNewMembers_63 (by decide) (fun c63 => ?_) (fun c63 => ?_)
          · skip
            rw [cIf_f (fun q => c63 (eP.mp q.2))] at hf
            refine x_iinc (pc := 75) K (v := nI (i + 1)) (lv' := [(5, .int (nI (i + 1))), (6, .ref (w.2.2 + (n2 + 3 + i))), (4, .int (nI r)), (0, .ref (w.2.2 + 272)), (1, .ref (w.2.2 + n1)), (2, .ref (w.2.2 + n2)), (3, .int (nI t))]) 1 d_C_judgeNewMembers_75 rfl (nI_1 _) (by decide) rfl ?_
            refine x_goto (pc := 78) K (tgt := 14) d_C_judgeNewMembers_78 (by decide) ?_
            refine x_lv [0, 2, 3, 4, 5, 6] rfl ?_
            exact ih (i + 1) _ (by omega) (by omega) hX hc hk1 hq hf hE
          · skip
            rw [cIf_t ⟨ho43, eP.mpr c63⟩] at hf
            refine x_aload_n (pc := 66) K 3 d_C_judgeNewMembers_66 rfl ?_
            refine x_iload (pc := 67) K 2 d_C_judgeNewMembers_67 rfl ?_
            refine x_iload_n (pc := 69) K 6 d_C_judgeNewMembers_69 rfl ?_
            refine x_iload (pc := 70) K 1 d_C_judgeNewMembers_70 rfl ?_
            refine x_callVv (pc := 72) K (As := [.int (nI r), .int (nI t), .int (nI i)]) (rest := []) (c_C_add l w X o hX.1 hX.2.2.2 (nI r) (nI t) (nI i)) (zcwV K.ts lk_C_50 im_C_add se_C_add ii_C co_C_add pd_C_add ⟨rfl, rfl⟩ ⟨by decide, by decide⟩) (zlt shC) shC rfl rfl rfl (Nat.le_of_ble_eq_true rfl) ⟨Nat.zero_le _, Nat.zero_le _⟩ d_C_judgeNewMembers_72 ?_
            refine x_iinc (pc := 75) K (v := nI (i + 1)) (lv' := [(5, .int (nI (i + 1))), (6, .ref (w.2.2 + (n2 + 3 + i))), (4, .int (nI r)), (0, .ref (w.2.2 + 272)), (1, .ref (w.2.2 + n1)), (2, .ref (w.2.2 + n2)), (3, .int (nI t))]) 1 d_C_judgeNewMembers_75 rfl (nI_1 _) (by decide) rfl ?_
            refine x_goto (pc := 78) K (tgt := 14) d_C_judgeNewMembers_78 (by decide) ?_
            refine x_lv [0, 2, 3, 4, 5, 6] rfl ?_
            exact ih (i + 1) _ (by omega) (by omega) (cOk_add h1 h2 hX) (by rw [cAdd_rd (Or.inl (neTC hT2))]; exact hc) (tOk_add hT hk1) (pOk_add hq) hf hE
      · skip
        have hj43 : j43 < 8 := by have := (fnd_lt ho43).2.1; have := hk1.2.2; omega
        rw [cIf_f (fun q => by rw [ho43] at q; exact nomatch q.1)] at hf
        refine x_ifnonnull (pc := 46) K (tgt := 75) d_C_judgeNewMembers_46 (by decide) ?_
        refine x_iinc (pc := 75) K (v := nI (i + 1)) (lv' := [(5, .int (nI (i + 1))), (6, .ref (w.2.2 + (n2 + 3 + i))), (4, .int (nI r)), (0, .ref (w.2.2 + 272)), (1, .ref (w.2.2 + n1)), (2, .ref (w.2.2 + n2)), (3, .int (nI t))]) 1 d_C_judgeNewMembers_75 rfl (nI_1 _) (by decide) rfl ?_
        refine x_goto (pc := 78) K (tgt := 14) d_C_judgeNewMembers_78 (by decide) ?_
        refine x_lv [0, 2, 3, 4, 5, 6] rfl ?_
        exact ih (i + 1) _ (by omega) (by omega) hX hc hk1 hq hf hE
set_option maxHeartbeats 4000000 in
set_option maxRecDepth 100000 in
theorem lp_C_judgeNewMembers (l : Launch) (w : fl_W) (M : fl_M) (b1 b2 : Nat) (h1 : zSh b1 = zsB) (h2 : zSh b2 = zsB) (hne : b1 ≠ b2) (o : Nat) (n1 n2 : Nat) (hT : zSh n1 = zsT) (hT2 : zSh n2 = zsT) (t : Nat) (c : Nat) (h8 : c ≤ 8) (Y : fl_M) {p9 : Program} {e9 : Env} {s9 : State} {m9 : MethodId} {ag9 : Array Value} {bl9 : List Frame} {mt9 : Method} {c9 : Code} (K : XC p9 s9 m9 ag9 mt9 c9 b_C_judgeNewMembers 7 none w_C_judgeNewMembers "CompatibilityJudge$Comparison" w) : ∀ (k : Nat) (r : Nat) (X : fl_M), r ≤ 14 → 15 ≤ r + k → cOk o b1 b2 X → X.1 n2 7 = nI c → tOk X.1 n1 → pOk c X → jno X n1 n2 t c r (14 - r) = Y → XW p9 l e9 (rm_C_judgeNewMembers) s9 m9 ag9 bl9 mt9 c9 7 0 0 (MQ bl9 (CQ w zN none Y) ag9 s9 0 0 (fun q : Nat => w.2.2 ≤ q)) w zN X 4 [(4, .int (nI r)), (0, .ref (w.2.2 + 272)), (1, .ref (w.2.2 + n1)), (2, .ref (w.2.2 + n2)), (3, .int (nI t))] [] := by
  intro k
  induction k with
  | zero =>
    intro r X hi hk
    exact absurd hk (by omega)
  | succ k ih =>
    intro r X hi hk hX hc hk1 hq hf
    refine x_iload (pc := 4) K 0 d_C_judgeNewMembers_4 rfl ?_
    refine x_bipush (pc := 6) K (v := nI 13) d_C_judgeNewMembers_6 (by decide) ?_
    refine x_icmp_gt (pc := 8) K (tgt := 87) d_C_judgeNewMembers_8 (by decide) (fun c8 => ?_) (fun c8 => ?_)
    · skip
      have hic : r = 14 := by have := (nI_ltI (a := 13) (by omega) (by omega)).mp c8; omega
      rw [hic, Nat.sub_self] at hf
      exact x_vret (pc := 87) K rfl (by subst hf; rfl) d_C_judgeNewMembers_87
    · skip
      have hic : r < 14 := by have := Nat.not_lt.mp (fun q => c8 ((nI_ltI (a := 13) (b := r) (by omega) (by omega)).mpr q)); omega
      rw [show 14 - r = (14 - (r + 1)) + 1 by omega, jno] at hf
      refine x_iconst (pc := 11) K (v := nI 0) d_C_judgeNewMembers_11 (by decide) ?_
      refine x_istore (pc := 12) K (lv' := [(5, .int (nI 0)), (4, .int (nI r)), (0, .ref (w.2.2 + 272)), (1, .ref (w.2.2 + n1)), (2, .ref (w.2.2 + n2)), (3, .int (nI t))]) d_C_judgeNewMembers_12 (by decide) rfl ?_
      refine x_lv [0, 1, 2, 3, 4, 5] rfl ?_
      refine li_C_judgeNewMembers l w M b1 b2 h1 h2 hne o n1 n2 hT hT2 t r c h8 _ _ K (c + 1) 0 X (by omega) (by omega) hX hc hk1 hq (by rw [Nat.sub_zero]) (fun hX hc hk1 hq => ?_)
      refine x_iinc (pc := 81) K (v := nI (r + 1)) (lv' := [(4, .int (nI (r + 1))), (5, .int (nI c)), (0, .ref (w.2.2 + 272)), (1, .ref (w.2.2 + n1)), (2, .ref (w.2.2 + n2)), (3, .int (nI t))]) 1 d_C_judgeNewMembers_81 rfl (nI_1 _) (by decide) rfl ?_
      refine x_goto (pc := 84) K (tgt := 4) d_C_judgeNewMembers_84 (by decide) ?_
      refine x_lv [0, 2, 3, 4, 5] rfl ?_
      exact ih (r + 1) _ (by omega) (by omega) hX hc hk1 hq hf
set_option maxHeartbeats 4000000 in
set_option maxRecDepth 100000 in
theorem c_C_judgeNewMembers (l : Launch) (w : fl_W) (M : fl_M) (b1 b2 : Nat) (h1 : zSh b1 = zsB) (h2 : zSh b2 = zsB) (hne : b1 ≠ b2) (o : Nat) (n1 n2 : Nat) (hT : zSh n1 = zsT) (hT2 : zSh n2 = zsT) (t : Nat) (hM : cOk o b1 b2 M) (h7 : M.1 n2 7 = nI (cM M.1 n2)) (h8 : cM M.1 n2 ≤ 8) (hk1 : tOk M.1 n1) (hq : pOk (cM M.1 n2) M) : CT l y_C_judgeNewMembers w_C_judgeNewMembers rm_C_judgeNewMembers w zN [.ref (w.2.2 + 272), .ref (w.2.2 + n1), .ref (w.2.2 + n2), .int (nI t)] M none (jno M n1 n2 t (cM M.1 n2) 12 2) := by
  refine CT.of (cc := b_C_judgeNewMembers) (own := "CompatibilityJudge$Comparison") (by decide) rfl rfl (Nat.le_of_ble_eq_true rfl) ?_
  intro p9 e9 s9 m9 ag9 bl9 mt9 c9 K
  show XW p9 l e9 (rm_C_judgeNewMembers) s9 m9 ag9 bl9 mt9 c9 7 0 0 (MQ bl9 (CQ w zN none (jno M n1 n2 t (cM M.1 n2) 12 2)) ag9 s9 0 0 (fun q : Nat => w.2.2 ≤ q)) w zN M 0 [(0, .ref (w.2.2 + 272)), (1, .ref (w.2.2 + n1)), (2, .ref (w.2.2 + n2)), (3, .int (nI t))] []
  refine x_bipush (pc := 0) K (v := nI 12) d_C_judgeNewMembers_0 (by decide) ?_
  refine x_istore (pc := 2) K (lv' := [(4, .int (nI 12)), (0, .ref (w.2.2 + 272)), (1, .ref (w.2.2 + n1)), (2, .ref (w.2.2 + n2)), (3, .int (nI t))]) d_C_judgeNewMembers_2 (by decide) rfl ?_
  refine x_lv [0, 1, 2, 3, 4] rfl ?_
  exact lp_C_judgeNewMembers l w M b1 b2 h1 h2 hne o n1 n2 hT hT2 t (cM M.1 n2) h8 _ K 3 12 M (by omega) (by omega) hM h7 hk1 hq rfl
/-- a step that only lists and looks up: the types' rows stay -/
def kept (M M' : fl_M) : Prop := ∀ a k, zSh a ≠ zaI 12 → a < 272 → M'.1 a k = M.1 a k
theorem kept.rf {M : fl_M} : kept M M := fun _ _ _ _ => rfl
theorem kept.tr {A B C : fl_M} (h : kept A B) (g : kept B C) : kept A C := fun a k h1 h2 => (g a k h1 h2).trans (h a k h1 h2)
theorem kept_add {M : fl_M} {r t d : Int32} : kept M (cAdd M r t d) := fun a k _ h => cAdd_rd (Or.inl h)
theorem kept_tOk {M M' : fl_M} {n : Nat} (h : kept M M') (hT : zSh n = zsT) (q : tOk M.1 n) : tOk M'.1 n := by
  have e : ∀ k, M'.1 n k = M.1 n k := fun k => h n k (by rw [hT]; decide) (neTC hT)
  unfold tOk cI cM
  rw [e 5, e 7]
  exact q
theorem kept_cM {M M' : fl_M} {n : Nat} (h : kept M M') (hT : zSh n = zsT) : cM M'.1 n = cM M.1 n := by
  unfold cM
  rw [h n 7 (by rw [hT]; decide) (neTC hT)]
theorem jhl_ok {o b1 b2 : Nat} (h1 : zSh b1 = zsB) (h2 : zSh b2 = zsB) {lost t : Int32} : ∀ (k i : Nat) (M : fl_M), cOk o b1 b2 M → cOk o b1 b2 (jhl M lost t i k) ∧ kept M (jhl M lost t i k) ∧ (jhl M lost t i k).2 = M.2 := by
  intro k
  induction k with
  | zero => intro i M h; exact ⟨h, kept.rf, rfl⟩
  | succ k ih =>
    intro i M h
    rw [jhl]
    split
    · obtain ⟨a, b, c⟩ := ih (i + 1) _ (cOk_add h1 h2 (r := 4) (t := t) (d := nI i) h)
      exact ⟨a, kept_add.tr b, c.trans cAdd_2⟩
    · exact ih (i + 1) _ h
theorem jhA_ok {o b1 b2 : Nat} (h1 : zSh b1 = zsB) (h2 : zSh b2 = zsB) {M : fl_M} {n1 n2 : Nat} {f r t : Int32} (h : cOk o b1 b2 M) : cOk o b1 b2 (jhA M n1 n2 f r t) ∧ kept M (jhA M n1 n2 f r t) ∧ (jhA M n1 n2 f r t).2 = M.2 := by
  unfold jhA
  split
  · exact ⟨cOk_add h1 h2 h, kept_add, cAdd_2⟩
  · exact ⟨h, kept.rf, rfl⟩
theorem jh_ok {o b1 b2 : Nat} (h1 : zSh b1 = zsB) (h2 : zSh b2 = zsB) {M : fl_M} {n1 n2 : Nat} {t : Int32} (h : cOk o b1 b2 M) : cOk o b1 b2 (jh M n1 n2 t) ∧ kept M (jh M n1 n2 t) ∧ (jh M n1 n2 t).2 = M.2 := by
  obtain ⟨a1, b1', c1⟩ := jhA_ok (n1 := n1) (n2 := n2) (f := 2) (r := 2) (t := t) h1 h2 h
  obtain ⟨a2, b2', c2⟩ := jhA_ok (n1 := n1) (n2 := n2) (f := 4) (r := 3) (t := t) h1 h2 a1
  obtain ⟨a3, b3', c3⟩ := jhl_ok (lost := (jhA (jhA M n1 n2 2 2 t) n1 n2 4 3 t).1 n1 9 &&& ((jhA (jhA M n1 n2 2 2 t) n1 n2 4 3 t).1 n2 9 ^^^ (-1))) (t := t) h1 h2 12 0 _ a2
  exact ⟨a3, (b1'.tr b2').tr b3', c3.trans (c2.trans c1)⟩
theorem fpl_ok {o b1 b2 : Nat} (h1 : zSh b1 = zsB) (h2 : zSh b2 = zsB) (hne : b1 ≠ b2) {n1 b t : Nat} (hB : zSh b = zsB) (hb : b = b1 ∨ b = b2) (ht : t < 12) : ∀ (k i : Nat) (M : fl_M), cOk o b1 b2 M → pOk i M → cOk o b1 b2 (fpl M n1 b t i k) ∧ kept M (fpl M n1 b t i k) ∧ pOk (i + k) (fpl M n1 b t i k) := by
  intro k
  induction k with
  | zero => intro i M h hp; exact ⟨h, kept.rf, hp⟩
  | succ k ih =>
    intro i M h hp
    rw [fpl]
    have hX1 : cOk o b1 b2 (whM M b t (M.1 (n1 + 3 + i) 0) (M.1 (n1 + 3 + i) 1)) := cOk_wh h1 h2 hne hb ht h
    have hk : kept M (wR (whM M b t (M.1 (n1 + 3 + i) 0) (M.1 (n1 + 3 + i) 1)) 276 i (fpR M b t (n1 + 3 + i))) := fun a j q1 q2 => whM_rd (fun e => q1 (by rw [e]; exact shBf hB))
    have hp' : pOk (i + 1) (wR (whM M b t (M.1 (n1 + 3 + i) 0) (M.1 (n1 + 3 + i) 1)) 276 i (fpR M b t (n1 + 3 + i))) := by
      intro j hj q hq
      by_cases e : j = i
      · subst e
        have hq : fpR M b t (n1 + 3 + j) = some q := by rw [← hq]; exact fl_u_self.symm
        unfold fpR at hq
        split at hq
        · cases hq
        · rename_i c
          have hw := (whr_in ht (cOk_b h hb)).resolve_left c
          obtain ⟨j2, e1, e2⟩ := Option.map_eq_some_iff.mp hq
          rw [← e2]
          have hl := (fnd_lt e1).2.1
          have h8 := ((cOk_b hX1 hb).1 _ hw.2).1.2.2
          have h8 : cM (whM M b t (M.1 (n1 + 3 + j) 0) (M.1 (n1 + 3 + j) 1)).1 (tn b (whr M b t (M.1 (n1 + 3 + j) 0) (M.1 (n1 + 3 + j) 1))) ≤ 8 := h8
          exact shTm (shBt hB hw.2) (by omega)
      · have hq : (whM M b t (M.1 (n1 + 3 + i) 0) (M.1 (n1 + 3 + i) 1)).2 276 j = some q := by rw [← hq]; exact (fl_u_col e).symm
        rw [whM_2] at hq
        exact hp j (by omega) q hq
    obtain ⟨a, b, c⟩ := ih (i + 1) _ (cOk_p hX1) hp'
    exact ⟨a, hk.tr b, by rw [show i + (k + 1) = i + 1 + k by omega]; exact c⟩
theorem joi_ok {o b1 b2 : Nat} (h1 : zSh b1 = zsB) (h2 : zSh b2 = zsB) {n1 r t : Nat} : ∀ (k i : Nat) (M : fl_M), cOk o b1 b2 M → cOk o b1 b2 (joi M n1 r t i k) ∧ kept M (joi M n1 r t i k) ∧ (joi M n1 r t i k).2 = M.2 := by
  intro k
  induction k with
  | zero => intro i M h; exact ⟨h, kept.rf, rfl⟩
  | succ k ih =>
    intro i M h
    rw [joi]
    by_cases q : (¬ (M.1 (n1 + 3 + i) 2 &&& 3) < 2) ∧ brP M r n1 i
    · rw [cIf_t q]
      obtain ⟨a, b, c⟩ := ih (i + 1) _ (cOk_add h1 h2 (r := nI r) (t := nI t) (d := nI i) h)
      exact ⟨a, kept_add.tr b, c.trans cAdd_2⟩
    · rw [cIf_f q]
      exact ih (i + 1) _ h
theorem joo_ok {o b1 b2 : Nat} (h1 : zSh b1 = zsB) (h2 : zSh b2 = zsB) {n1 t c : Nat} : ∀ (k r : Nat) (M : fl_M), cOk o b1 b2 M → cOk o b1 b2 (joo M n1 t c r k) ∧ kept M (joo M n1 t c r k) ∧ (joo M n1 t c r k).2 = M.2 := by
  intro k
  induction k with
  | zero => intro r M h; exact ⟨h, kept.rf, rfl⟩
  | succ k ih =>
    intro r M h
    rw [joo]
    obtain ⟨a, b, c1⟩ := joi_ok (n1 := n1) (r := r) (t := t) h1 h2 c 0 M h
    obtain ⟨a2, b2', c2⟩ := ih (r + 1) _ a
    exact ⟨a2, b.tr b2', c2.trans c1⟩
theorem jni_ok {o b1 b2 : Nat} (h1 : zSh b1 = zsB) (h2 : zSh b2 = zsB) {n1 n2 r t : Nat} : ∀ (k i : Nat) (M : fl_M), cOk o b1 b2 M → cOk o b1 b2 (jni M n1 n2 r t i k) ∧ kept M (jni M n1 n2 r t i k) ∧ (jni M n1 n2 r t i k).2 = M.2 := by
  intro k
  induction k with
  | zero => intro i M h; exact ⟨h, kept.rf, rfl⟩
  | succ k ih =>
    intro i M h
    rw [jni]
    by_cases q : tOwn M.1 n1 (M.1 (n2 + 3 + i) 0) (M.1 (n2 + 3 + i) 1) = none ∧ bnP M r n2 i
    · rw [cIf_t q]
      obtain ⟨a, b, c⟩ := ih (i + 1) _ (cOk_add h1 h2 (r := nI r) (t := nI t) (d := nI i) h)
      exact ⟨a, kept_add.tr b, c.trans cAdd_2⟩
    · rw [cIf_f q]
      exact ih (i + 1) _ h
theorem jno_ok {o b1 b2 : Nat} (h1 : zSh b1 = zsB) (h2 : zSh b2 = zsB) {n1 n2 t c : Nat} : ∀ (k r : Nat) (M : fl_M), cOk o b1 b2 M → cOk o b1 b2 (jno M n1 n2 t c r k) ∧ kept M (jno M n1 n2 t c r k) ∧ (jno M n1 n2 t c r k).2 = M.2 := by
  intro k
  induction k with
  | zero => intro r M h; exact ⟨h, kept.rf, rfl⟩
  | succ k ih =>
    intro r M h
    rw [jno]
    obtain ⟨a, b, c1⟩ := jni_ok (n1 := n1) (n2 := n2) (r := r) (t := t) h1 h2 c 0 M h
    obtain ⟨a2, b2', c2⟩ := ih (r + 1) _ a
    exact ⟨a2, b.tr b2', c2.trans c1⟩
theorem pOk_0 {M : fl_M} : pOk 0 M := fun i hi => absurd hi (by omega)
theorem pOk_2 {c : Nat} {M M' : fl_M} (h : pOk c M) (e : M'.2 = M.2) : pOk c M' := fun i hi q hq => h i hi q (by rw [← e]; exact hq)
noncomputable def jt1 (M : fl_M) (b1 b2 t : Nat) : fl_M := fpl (jh M (b1 + 2 + 11 * t) (b2 + 2 + 11 * t) (nI t)) (b1 + 2 + 11 * t) b2 t 0 (cM (jh M (b1 + 2 + 11 * t) (b2 + 2 + 11 * t) (nI t)).1 (b1 + 2 + 11 * t))
noncomputable def jt2 (M : fl_M) (b1 b2 t : Nat) : fl_M := joo (jt1 M b1 b2 t) (b1 + 2 + 11 * t) t (cM (jt1 M b1 b2 t).1 (b1 + 2 + 11 * t)) 5 7
noncomputable def jt3 (M : fl_M) (b1 b2 t : Nat) : fl_M := fpl (jt2 M b1 b2 t) (b2 + 2 + 11 * t) b1 t 0 (cM (jt2 M b1 b2 t).1 (b2 + 2 + 11 * t))
noncomputable def jt4 (M : fl_M) (b1 b2 t : Nat) : fl_M := jno (jt3 M b1 b2 t) (b1 + 2 + 11 * t) (b2 + 2 + 11 * t) t (cM (jt3 M b1 b2 t).1 (b2 + 2 + 11 * t)) 12 2
noncomputable def jt (M : fl_M) (b1 b2 t : Nat) : fl_M := if ¬ (¬ M.1 (b2 + 2 + 11 * t) 0 = 0 ∧ ¬ M.1 (b2 + 2 + 11 * t) 2 &&& 1 = 0) then cAdd M 0 (nI t) (-1) else if M.1 (b2 + 2 + 11 * t) 1 = M.1 (b1 + 2 + 11 * t) 1 then jt4 M b1 b2 t else cAdd M 1 (nI t) (-1)
theorem jt_all {o b1 b2 t : Nat} {M : fl_M} (h1 : zSh b1 = zsB) (h2 : zSh b2 = zsB) (hne : b1 ≠ b2) (ht : t < 12) (h : cOk o b1 b2 M) :
    (cOk o b1 b2 (jh M (b1 + 2 + 11 * t) (b2 + 2 + 11 * t) (nI t)) ∧ kept M (jh M (b1 + 2 + 11 * t) (b2 + 2 + 11 * t) (nI t))) ∧ (cOk o b1 b2 (jt1 M b1 b2 t) ∧ kept M (jt1 M b1 b2 t) ∧ pOk (cM (jt1 M b1 b2 t).1 (b1 + 2 + 11 * t)) (jt1 M b1 b2 t)) ∧ (cOk o b1 b2 (jt2 M b1 b2 t) ∧ kept M (jt2 M b1 b2 t)) ∧ (cOk o b1 b2 (jt3 M b1 b2 t) ∧ kept M (jt3 M b1 b2 t) ∧ pOk (cM (jt3 M b1 b2 t).1 (b2 + 2 + 11 * t)) (jt3 M b1 b2 t)) ∧ (cOk o b1 b2 (jt4 M b1 b2 t) ∧ kept M (jt4 M b1 b2 t)) := by
  have hT1 := shBt h1 ht
  have hT2 := shBt h2 ht
  obtain ⟨a1, a2, a3⟩ := jh_ok (n1 := b1 + 2 + 11 * t) (n2 := b2 + 2 + 11 * t) (t := nI t) h1 h2 h
  obtain ⟨c1, c2, c3⟩ := fpl_ok (n1 := b1 + 2 + 11 * t) h1 h2 hne h2 (Or.inr rfl) ht (cM (jh M (b1 + 2 + 11 * t) (b2 + 2 + 11 * t) (nI t)).1 (b1 + 2 + 11 * t)) 0 _ a1 pOk_0
  have k1 : kept M (jt1 M b1 b2 t) := a2.tr c2
  have p1 : pOk (cM (jt1 M b1 b2 t).1 (b1 + 2 + 11 * t)) (jt1 M b1 b2 t) := by
    rw [kept_cM k1 hT1, ← kept_cM a2 hT1]
    rw [Nat.zero_add] at c3
    exact c3
  obtain ⟨d1, d2, d3⟩ := joo_ok (n1 := b1 + 2 + 11 * t) (t := t) (c := cM (jt1 M b1 b2 t).1 (b1 + 2 + 11 * t)) h1 h2 7 5 _ c1
  have k2 : kept M (jt2 M b1 b2 t) := k1.tr d2
  obtain ⟨e1, e2, e3⟩ := fpl_ok (n1 := b2 + 2 + 11 * t) h1 h2 hne h1 (Or.inl rfl) ht (cM (jt2 M b1 b2 t).1 (b2 + 2 + 11 * t)) 0 _ d1 pOk_0
  have k3 : kept M (jt3 M b1 b2 t) := k2.tr e2
  have p3 : pOk (cM (jt3 M b1 b2 t).1 (b2 + 2 + 11 * t)) (jt3 M b1 b2 t) := by
    rw [kept_cM k3 hT2, ← kept_cM k2 hT2]
    rw [Nat.zero_add] at e3
    exact e3
  obtain ⟨f1, f2, f3⟩ := jno_ok (n1 := b1 + 2 + 11 * t) (n2 := b2 + 2 + 11 * t) (t := t) (c := cM (jt3 M b1 b2 t).1 (b2 + 2 + 11 * t)) h1 h2 2 12 _ e1
  exact ⟨⟨a1, a2⟩, ⟨c1, k1, p1⟩, ⟨d1, k2⟩, ⟨e1, k3, p3⟩, f1, k3.tr f2⟩
theorem jt_ok {o b1 b2 t : Nat} {M : fl_M} (h1 : zSh b1 = zsB) (h2 : zSh b2 = zsB) (hne : b1 ≠ b2) (ht : t < 12) (h : cOk o b1 b2 M) : cOk o b1 b2 (jt M b1 b2 t) ∧ kept M (jt M b1 b2 t) := by
  unfold jt
  split
  · exact ⟨cOk_add h1 h2 h, kept_add⟩
  · split
    · exact (jt_all h1 h2 hne ht h).2.2.2.2
    · exact ⟨cOk_add h1 h2 h, kept_add⟩
set_option maxHeartbeats 4000000 in
set_option maxRecDepth 100000 in
theorem c_C_judgeType (l : Launch) (w : fl_W) (M : fl_M) (b1 b2 : Nat) (h1 : zSh b1 = zsB) (h2 : zSh b2 = zsB) (hne : b1 ≠ b2) (o : Nat) (t : Nat) (ht : t < 12) (hM : cOk o b1 b2 M) : CT l y_C_judgeType w_C_judgeType rm_C_judgeType w zN [.ref (w.2.2 + 272), .ref (w.2.2 + b1), .ref (w.2.2 + b2), .int (nI t)] M none (jt M b1 b2 t) := by
  refine CT.of (cc := b_C_judgeType) (own := "CompatibilityJudge$Comparison") (by decide) rfl rfl (Nat.le_of_ble_eq_true rfl) ?_
  intro p9 e9 s9 m9 ag9 bl9 mt9 c9 K
  have hA := jt_all h1 h2 hne ht hM
  have hR := hM.1
  show XW p9 l e9 (rm_C_judgeType) s9 m9 ag9 bl9 mt9 c9 6 0 0 (MQ bl9 (CQ w zN none (jt M b1 b2 t)) ag9 s9 0 0 (fun q : Nat => w.2.2 ≤ q)) w zN M 0 [(0, .ref (w.2.2 + 272)), (1, .ref (w.2.2 + b1)), (2, .ref (w.2.2 + b2)), (3, .int (nI t))] []
  refine x_aload_n (pc := 0) K 1 d_C_judgeType_0 rfl ?_
  refine x_getr (pc := 1) K (n := b1) (n' := b1 + 1) (k := 0) (zlt h1) h1 rfl (hR.Ba h1) rfl (by decide) (fun _ q => zmem (uw_B _ q)) (zmem lk_C_35) d_C_judgeType_1 ?_
  refine x_iload_n (pc := 4) K 3 d_C_judgeType_4 rfl ?_
  refine x_aald (pc := 5) K (n := b1 + 1) (n' := b1 + 2 + 11 * t) (j := t) rfl ht (hR.Bt h1 ht) (zlt (shBa h1)) (shBa h1) rfl (by decide) d_C_judgeType_5 ?_
  refine x_astore (pc := 6) K (lv' := [(4, .ref (w.2.2 + (b1 + 2 + 11 * t))), (0, .ref (w.2.2 + 272)), (1, .ref (w.2.2 + b1)), (2, .ref (w.2.2 + b2)), (3, .int (nI t))]) d_C_judgeType_6 (by decide) rfl ?_
  refine x_aload_n (pc := 8) K 3 d_C_judgeType_8 rfl ?_
  refine x_getr (pc := 9) K (n := b2) (n' := b2 + 1) (k := 0) (zlt h2) h2 rfl (hR.Ba h2) rfl (by decide) (fun _ q => zmem (uw_B _ q)) (zmem lk_C_35) d_C_judgeType_9 ?_
  refine x_iload_n (pc := 12) K 4 d_C_judgeType_12 rfl ?_
  refine x_aald (pc := 13) K (n := b2 + 1) (n' := b2 + 2 + 11 * t) (j := t) rfl ht (hR.Bt h2 ht) (zlt (shBa h2)) (shBa h2) rfl (by decide) d_C_judgeType_13 ?_
  refine x_astore (pc := 14) K (lv' := [(5, .ref (w.2.2 + (b2 + 2 + 11 * t))), (4, .ref (w.2.2 + (b1 + 2 + 11 * t))), (0, .ref (w.2.2 + 272)), (1, .ref (w.2.2 + b1)), (2, .ref (w.2.2 + b2)), (3, .int (nI t))]) d_C_judgeType_14 (by decide) rfl ?_
  refine x_aload (pc := 16) K 0 d_C_judgeType_16 rfl ?_
  refine x_callV (pc := 18) K (As := []) (rest := []) (c_T_isPublic l w M (b2 + 2 + 11 * t) (shBt h2 ht)) (zcwV K.ts lk_C_40 im_T_isPublic se_T_isPublic ii_T co_T_isPublic pd_T_isPublic ⟨rfl, rfl⟩ ⟨by decide, by decide⟩) (zlt (shBt h2 ht)) (shBt h2 ht) rfl rfl rfl (Nat.le_of_ble_eq_true rfl) ⟨Nat.zero_le _, Nat.zero_le _⟩ d_C_judgeType_18 ?_
  refine x_ifneB (pc := 21) K (tgt := 34) d_C_judgeType_21 (by decide) (fun c21 => ?_) (fun c21 => ?_)
  · skip
    refine x_aload (pc := 34) K 0 d_C_judgeType_34 rfl ?_
    refine x_geti (pc := 36) K (n := b2 + 2 + 11 * t) (k := 1) (zlt (shBt h2 ht)) (shBt h2 ht) rfl rfl (by decide) (fun _ q => zmem (uw_T _ q)) (zmem lk_C_54) d_C_judgeType_36 ?_
    refine x_aload (pc := 39) K 1 d_C_judgeType_39 rfl ?_
    refine x_geti (pc := 41) K (n := b1 + 2 + 11 * t) (k := 1) (zlt (shBt h1 ht)) (shBt h1 ht) rfl rfl (by decide) (fun _ q => zmem (uw_T _ q)) (zmem lk_C_54) d_C_judgeType_41 ?_
    refine x_icmp_eq (pc := 44) K (tgt := 57) d_C_judgeType_44 (by decide) (fun c44 => ?_) (fun c44 => ?_)
    · skip
      refine x_aload_n (pc := 57) K 2 d_C_judgeType_57 rfl ?_
      refine x_aload (pc := 58) K 1 d_C_judgeType_58 rfl ?_
      refine x_aload (pc := 60) K 0 d_C_judgeType_60 rfl ?_
      refine x_iload_n (pc := 62) K 5 d_C_judgeType_62 rfl ?_
      refine x_callVv (pc := 63) K (As := [.ref (w.2.2 + (b1 + 2 + 11 * t)), .ref (w.2.2 + (b2 + 2 + 11 * t)), .int (nI t)]) (rest := []) (c_C_judgeHeader l w M b1 b2 h1 h2 o (b1 + 2 + 11 * t) (b2 + 2 + 11 * t) (shBt h1 ht) (shBt h2 ht) t hM) (zcwV K.ts lk_C_57 im_C_judgeHeader se_C_judgeHeader ii_C co_C_judgeHeader pd_C_judgeHeader ⟨rfl, rfl⟩ ⟨by decide, by decide⟩) (zlt shC) shC rfl rfl rfl (Nat.le_of_ble_eq_true rfl) ⟨Nat.zero_le _, Nat.zero_le _⟩ d_C_judgeType_63 ?_
      refine x_aload_n (pc := 66) K 2 d_C_judgeType_66 rfl ?_
      refine x_aload (pc := 67) K 1 d_C_judgeType_67 rfl ?_
      refine x_aload_n (pc := 69) K 4 d_C_judgeType_69 rfl ?_
      refine x_iload_n (pc := 70) K 5 d_C_judgeType_70 rfl ?_
      refine x_callVv (pc := 71) K (As := [.ref (w.2.2 + (b1 + 2 + 11 * t)), .ref (w.2.2 + b2), .int (nI t)]) (rest := []) (c_C_findPartners l w (jh M (b1 + 2 + 11 * t) (b2 + 2 + 11 * t) (nI t)) b1 b2 h1 h2 hne o (b1 + 2 + 11 * t) (shBt h1 ht) b2 h2 (Or.inr rfl) t ht hA.1.1 (kept_tOk hA.1.2 (shBt h1 ht) (hM.2.1.1 t ht).1).2.1 (kept_tOk hA.1.2 (shBt h1 ht) (hM.2.1.1 t ht).1).2.2) (zcwV K.ts lk_C_61 im_C_findPartners se_C_findPartners ii_C co_C_findPartners pd_C_findPartners ⟨rfl, rfl⟩ ⟨by decide, by decide⟩) (zlt shC) shC rfl rfl rfl (Nat.le_of_ble_eq_true rfl) ⟨Nat.zero_le _, Nat.zero_le _⟩ d_C_judgeType_71 ?_
      refine x_aload_n (pc := 74) K 2 d_C_judgeType_74 rfl ?_
      refine x_aload (pc := 75) K 1 d_C_judgeType_75 rfl ?_
      refine x_iload_n (pc := 77) K 5 d_C_judgeType_77 rfl ?_
      refine x_callVv (pc := 78) K (As := [.ref (w.2.2 + (b1 + 2 + 11 * t)), .int (nI t)]) (rest := []) (c_C_judgeOldMembers l w (jt1 M b1 b2 t) b1 b2 h1 h2 hne o (b1 + 2 + 11 * t) (shBt h1 ht) t hA.2.1.1 (kept_tOk hA.2.1.2.1 (shBt h1 ht) (hM.2.1.1 t ht).1).2.1 (kept_tOk hA.2.1.2.1 (shBt h1 ht) (hM.2.1.1 t ht).1).2.2 hA.2.1.2.2) (zcwV K.ts lk_C_65 im_C_judgeOldMembers se_C_judgeOldMembers ii_C co_C_judgeOldMembers pd_C_judgeOldMembers ⟨rfl, rfl⟩ ⟨by decide, by decide⟩) (zlt shC) shC rfl rfl rfl (Nat.le_of_ble_eq_true rfl) ⟨Nat.zero_le _, Nat.zero_le _⟩ d_C_judgeType_78 ?_
      refine x_aload_n (pc := 81) K 2 d_C_judgeType_81 rfl ?_
      refine x_aload (pc := 82) K 0 d_C_judgeType_82 rfl ?_
      refine x_aload_n (pc := 84) K 3 d_C_judgeType_84 rfl ?_
      refine x_iload_n (pc := 85) K 5 d_C_judgeType_85 rfl ?_
      refine x_callVv (pc := 86) K (As := [.ref (w.2.2 + (b2 + 2 + 11 * t)), .ref (w.2.2 + b1), .int (nI t)]) (rest := []) (c_C_findPartners l w (jt2 M b1 b2 t) b1 b2 h1 h2 hne o (b2 + 2 + 11 * t) (shBt h2 ht) b1 h1 (Or.inl rfl) t ht hA.2.2.1.1 (kept_tOk hA.2.2.1.2 (shBt h2 ht) (hM.2.2.1.1 t ht).1).2.1 (kept_tOk hA.2.2.1.2 (shBt h2 ht) (hM.2.2.1.1 t ht).1).2.2) (zcwV K.ts lk_C_61 im_C_findPartners se_C_findPartners ii_C co_C_findPartners pd_C_findPartners ⟨rfl, rfl⟩ ⟨by decide, by decide⟩) (zlt shC) shC rfl rfl rfl (Nat.le_of_ble_eq_true rfl) ⟨Nat.zero_le _, Nat.zero_le _⟩ d_C_judgeType_86 ?_
      refine x_aload_n (pc := 89) K 2 d_C_judgeType_89 rfl ?_
      refine x_aload (pc := 90) K 1 d_C_judgeType_90 rfl ?_
      refine x_aload (pc := 92) K 0 d_C_judgeType_92 rfl ?_
      refine x_iload_n (pc := 94) K 5 d_C_judgeType_94 rfl ?_
      refine x_callVv (pc := 95) K (As := [.ref (w.2.2 + (b1 + 2 + 11 * t)), .ref (w.2.2 + (b2 + 2 + 11 * t)), .int (nI t)]) (rest := []) (c_C_judgeNewMembers l w (jt3 M b1 b2 t) b1 b2 h1 h2 hne o (b1 + 2 + 11 * t) (b2 + 2 + 11 * t) (shBt h1 ht) (shBt h2 ht) t hA.2.2.2.1.1 (kept_tOk hA.2.2.2.1.2.1 (shBt h2 ht) (hM.2.2.1.1 t ht).1).2.1 (kept_tOk hA.2.2.2.1.2.1 (shBt h2 ht) (hM.2.2.1.1 t ht).1).2.2 (kept_tOk hA.2.2.2.1.2.1 (shBt h1 ht) (hM.2.1.1 t ht).1) hA.2.2.2.1.2.2) (zcwV K.ts lk_C_69 im_C_judgeNewMembers se_C_judgeNewMembers ii_C co_C_judgeNewMembers pd_C_judgeNewMembers ⟨rfl, rfl⟩ ⟨by decide, by decide⟩) (zlt shC) shC rfl rfl rfl (Nat.le_of_ble_eq_true rfl) ⟨Nat.zero_le _, Nat.zero_le _⟩ d_C_judgeType_95 ?_
      exact x_vret (pc := 98) K rfl (by unfold jt; rw [if_neg (fun q => q c21), if_pos c44]; rfl) d_C_judgeType_98
    · skip
      refine x_aload_n (pc := 47) K 2 d_C_judgeType_47 rfl ?_
      refine x_iconst (pc := 48) K (v := 1) d_C_judgeType_48 (by decide) ?_
      refine x_iload_n (pc := 49) K 5 d_C_judgeType_49 rfl ?_
      refine x_iconst (pc := 50) K (v := (-1)) d_C_judgeType_50 (by decide) ?_
      refine x_callVv (pc := 51) K (As := [.int 1, .int (nI t), .int (-1)]) (rest := []) (c_C_add l w M o hM.1 hM.2.2.2 1 (nI t) (-1)) (zcwV K.ts lk_C_50 im_C_add se_C_add ii_C co_C_add pd_C_add ⟨rfl, rfl⟩ ⟨by decide, by decide⟩) (zlt shC) shC rfl rfl rfl (Nat.le_of_ble_eq_true rfl) ⟨Nat.zero_le _, Nat.zero_le _⟩ d_C_judgeType_51 ?_
      refine x_goto (pc := 54) K (tgt := 98) d_C_judgeType_54 (by decide) ?_
      exact x_vret (pc := 98) K rfl (by unfold jt; rw [if_neg (fun q => q c21), if_neg c44]) d_C_judgeType_98
  · skip
    refine x_aload_n (pc := 24) K 2 d_C_judgeType_24 rfl ?_
    refine x_iconst (pc := 25) K (v := 0) d_C_judgeType_25 (by decide) ?_
    refine x_iload_n (pc := 26) K 5 d_C_judgeType_26 rfl ?_
    refine x_iconst (pc := 27) K (v := (-1)) d_C_judgeType_27 (by decide) ?_
    refine x_callVv (pc := 28) K (As := [.int 0, .int (nI t), .int (-1)]) (rest := []) (c_C_add l w M o hM.1 hM.2.2.2 0 (nI t) (-1)) (zcwV K.ts lk_C_50 im_C_add se_C_add ii_C co_C_add pd_C_add ⟨rfl, rfl⟩ ⟨by decide, by decide⟩) (zlt shC) shC rfl rfl rfl (Nat.le_of_ble_eq_true rfl) ⟨Nat.zero_le _, Nat.zero_le _⟩ d_C_judgeType_28 ?_
    refine x_goto (pc := 31) K (tgt := 98) d_C_judgeType_31 (by decide) ?_
    exact x_vret (pc := 98) K rfl ((if_pos c21).symm) d_C_judgeType_98
noncomputable def bul (M : fl_M) (b1 b2 : Nat) : Nat → Nat → fl_M
  | _, 0 => M
  | t, k + 1 => bul (if ¬ M.1 (b1 + 2 + 11 * t) 0 = 0 ∧ ¬ M.1 (b1 + 2 + 11 * t) 2 &&& 1 = 0 then jt M b1 b2 t else M) b1 b2 (t + 1) k
noncomputable def but (M : fl_M) (b1 b2 : Nat) : fl_M := if M.1 272 4 = 0 then M else bul (wI (wI M 272 4 0) 272 3 0) b1 b2 0 12
set_option maxHeartbeats 4000000 in
set_option maxRecDepth 100000 in
theorem lp_C_bringUpToDate (l : Launch) (w : fl_W) (M : fl_M) (b1 b2 : Nat) (h1 : zSh b1 = zsB) (h2 : zSh b2 = zsB) (hne : b1 ≠ b2) (o : Nat) (Y : fl_M) {p9 : Program} {e9 : Env} {s9 : State} {m9 : MethodId} {ag9 : Array Value} {bl9 : List Frame} {mt9 : Method} {c9 : Code} (K : XC p9 s9 m9 ag9 mt9 c9 b_C_bringUpToDate 4 none w_C_bringUpToDate "CompatibilityJudge$Comparison" w) : ∀ (k : Nat) (i : Nat) (X : fl_M), i ≤ 12 → 12 + 1 ≤ i + k → cOk o b1 b2 X → bul X b1 b2 i (12 - i) = Y → XW p9 l e9 (rm_C_bringUpToDate) s9 m9 ag9 bl9 mt9 c9 4 0 0 (MQ bl9 (CQ w zN none Y) ag9 s9 0 0 (fun q : Nat => w.2.2 ≤ q)) w zN X 20 [(3, .int (nI i)), (0, .ref (w.2.2 + 272)), (1, .ref (w.2.2 + b1)), (2, .ref (w.2.2 + b2))] [] := by
  intro k
  induction k with
  | zero =>
    intro i X hi hk
    exact absurd hk (by omega)
  | succ k ih =>
    intro i X hi hk hX hf
    refine x_iload_n (pc := 20) K 0 d_C_bringUpToDate_20 rfl ?_
    refine x_bipush (pc := 21) K (v := nI 12) d_C_bringUpToDate_21 (by decide) ?_
    refine x_icmp_ge (pc := 23) K (tgt := 51) d_C_bringUpToDate_23 (by decide) (fun c23 => ?_) (fun c23 => ?_)
    · skip
      have hic : i = 12 := by have := (nI_leI (a := 12) (by omega) (by omega)).mp c23; omega
      rw [hic, Nat.sub_self] at hf
      exact x_vret (pc := 51) K rfl (by subst hf; rfl) d_C_bringUpToDate_51
    · skip
      have hic : i < 12 := Nat.not_le.mp (fun q => c23 (nI_le (a := 12) q (by omega)))
      rw [show 12 - i = (12 - (i + 1)) + 1 by omega, bul] at hf
      refine x_aload_n (pc := 26) K 2 d_C_bringUpToDate_26 rfl ?_
      refine x_getr (pc := 27) K (n := b1) (n' := b1 + 1) (k := 0) (zlt h1) h1 rfl (hX.1.Ba h1) rfl (by decide) (fun _ q => zmem (uw_B _ q)) (zmem lk_C_35) d_C_bringUpToDate_27 ?_
      refine x_iload_n (pc := 30) K 0 d_C_bringUpToDate_30 rfl ?_
      refine x_aald (pc := 31) K (n := b1 + 1) (n' := b1 + 2 + 11 * i) (j := i) rfl (by omega) (hX.1.Bt h1 (by omega)) (zlt (shBa h1)) (shBa h1) rfl (by decide) d_C_bringUpToDate_31 ?_
      refine x_callV (pc := 32) K (As := []) (rest := []) (c_T_isPublic l w X (b1 + 2 + 11 * i) (shBt h1 (by omega))) (zcwV K.ts lk_C_40 im_T_isPublic se_T_isPublic ii_T co_T_isPublic pd_T_isPublic ⟨rfl, rfl⟩ ⟨by decide, by decide⟩) (zlt (shBt h1 (by omega))) (shBt h1 (by omega)) rfl rfl rfl (Nat.le_of_ble_eq_true rfl) ⟨Nat.zero_le _, Nat.zero_le _⟩ d_C_bringUpToDate_32 ?_
      refine x_ifeqB (pc := 35) K (tgt := 45) d_C_bringUpToDate_35 (by decide) (fun c35 => ?_) (fun c35 => ?_)
      · skip
        rw [if_neg c35] at hf
        refine x_iinc (pc := 45) K (v := nI (i + 1)) (lv' := [(3, .int (nI (i + 1))), (0, .ref (w.2.2 + 272)), (1, .ref (w.2.2 + b1)), (2, .ref (w.2.2 + b2))]) 0 d_C_bringUpToDate_45 rfl (nI_1 _) (by decide) rfl ?_
        refine x_goto (pc := 48) K (tgt := 20) d_C_bringUpToDate_48 (by decide) ?_
        exact ih (i + 1) _ (by omega) (by omega) hX hf
      · skip
        rw [if_pos c35] at hf
        refine x_aload_n (pc := 38) K 1 d_C_bringUpToDate_38 rfl ?_
        refine x_aload_n (pc := 39) K 2 d_C_bringUpToDate_39 rfl ?_
        refine x_aload_n (pc := 40) K 3 d_C_bringUpToDate_40 rfl ?_
        refine x_iload_n (pc := 41) K 0 d_C_bringUpToDate_41 rfl ?_
        refine x_callVv (pc := 42) K (As := [.ref (w.2.2 + b1), .ref (w.2.2 + b2), .int (nI i)]) (rest := []) (c_C_judgeType l w X b1 b2 h1 h2 hne o i hic hX) (zcwV K.ts lk_C_46 im_C_judgeType se_C_judgeType ii_C co_C_judgeType pd_C_judgeType ⟨rfl, rfl⟩ ⟨by decide, by decide⟩) (zlt shC) shC rfl rfl rfl (Nat.le_of_ble_eq_true rfl) ⟨Nat.zero_le _, Nat.zero_le _⟩ d_C_bringUpToDate_42 ?_
        refine x_iinc (pc := 45) K (v := nI (i + 1)) (lv' := [(3, .int (nI (i + 1))), (0, .ref (w.2.2 + 272)), (1, .ref (w.2.2 + b1)), (2, .ref (w.2.2 + b2))]) 0 d_C_bringUpToDate_45 rfl (nI_1 _) (by decide) rfl ?_
        refine x_goto (pc := 48) K (tgt := 20) d_C_bringUpToDate_48 (by decide) ?_
        exact ih (i + 1) _ (by omega) (by omega) (jt_ok h1 h2 hne hic hX).1 hf
theorem cOk_go {o b1 b2 : Nat} {M : fl_M} (h1 : zSh b1 = zsB) (h2 : zSh b2 = zsB) (hR : zRf o M.2) (ha : bAll M.1 b1) (hb : bAll M.1 b2) : cOk o b1 b2 (wI (wI M 272 4 0) 272 3 0) := by
  have e : ∀ a k, a < 272 → (wI (wI M 272 4 0) 272 3 0).1 a k = M.1 a k := fun a k h => by rw [rdI_ne (Or.inl (by omega)), rdI_ne (Or.inl (by omega))]
  refine ⟨hR, bAll_congr h1 e ha, bAll_congr h2 e hb, ?_⟩
  unfold zOk cz
  rw [rdI_eq]
  exact ⟨by decide, by decide⟩
set_option maxHeartbeats 4000000 in
set_option maxRecDepth 100000 in
theorem c_C_bringUpToDate (l : Launch) (w : fl_W) (M : fl_M) (b1 b2 : Nat) (h1 : zSh b1 = zsB) (h2 : zSh b2 = zsB) (hne : b1 ≠ b2) (o : Nat) (hR : zRf o M.2) (ha : bAll M.1 b1) (hb : bAll M.1 b2) : CT l y_C_bringUpToDate w_C_bringUpToDate rm_C_bringUpToDate w zN [.ref (w.2.2 + 272), .ref (w.2.2 + b1), .ref (w.2.2 + b2)] M none (but M b1 b2) := by
  refine CT.of (cc := b_C_bringUpToDate) (own := "CompatibilityJudge$Comparison") (by decide) rfl rfl (Nat.le_of_ble_eq_true rfl) ?_
  intro p9 e9 s9 m9 ag9 bl9 mt9 c9 K
  show XW p9 l e9 (rm_C_bringUpToDate) s9 m9 ag9 bl9 mt9 c9 4 0 0 (MQ bl9 (CQ w zN none (but M b1 b2)) ag9 s9 0 0 (fun q : Nat => w.2.2 ≤ q)) w zN M 0 [(0, .ref (w.2.2 + 272)), (1, .ref (w.2.2 + b1)), (2, .ref (w.2.2 + b2))] []
  refine x_aload_n (pc := 0) K 0 d_C_bringUpToDate_0 rfl ?_
  refine x_geti (pc := 1) K (n := 272) (k := 4) (zlt shC) shC rfl rfl (by decide) (fun _ q => zmem (uw_C _ q)) (zmem lk_C_27) d_C_bringUpToDate_1 ?_
  refine x_if_ne (pc := 4) K (tgt := 8) d_C_bringUpToDate_4 (by decide) (fun c4 => ?_) (fun c4 => ?_)
  · skip
    refine x_aload_n (pc := 8) K 0 d_C_bringUpToDate_8 rfl ?_
    refine x_iconst (pc := 9) K (v := 0) d_C_bringUpToDate_9 (by decide) ?_
    refine x_puti (pc := 10) K (n := 272) (k := 4) (x := 0) uY_C tk_C nm_C (zlt shC) shC rfl rfl (by decide) (fun _ q => zmem (uw_C _ q)) (zmem lk_C_27) rfl rfl rfl d_C_bringUpToDate_10 ?_
    refine x_aload_n (pc := 13) K 0 d_C_bringUpToDate_13 rfl ?_
    refine x_iconst (pc := 14) K (v := 0) d_C_bringUpToDate_14 (by decide) ?_
    refine x_puti (pc := 15) K (n := 272) (k := 3) (x := 0) uY_C tk_C nm_C (zlt shC) shC rfl rfl (by decide) (fun _ q => zmem (uw_C _ q)) (zmem lk_C_31) rfl rfl rfl d_C_bringUpToDate_15 ?_
    refine x_iconst (pc := 18) K (v := nI 0) d_C_bringUpToDate_18 (by decide) ?_
    refine x_istore_n (pc := 19) K (lv' := [(3, .int (nI 0)), (0, .ref (w.2.2 + 272)), (1, .ref (w.2.2 + b1)), (2, .ref (w.2.2 + b2))]) d_C_bringUpToDate_19 (by decide) rfl ?_
    rw [show but M b1 b2 = bul (wI (wI M 272 4 0) 272 3 0) b1 b2 0 12 from if_neg c4]
    exact lp_C_bringUpToDate l w M b1 b2 h1 h2 hne o _ K 13 0 _ (by omega) (by omega) (cOk_go h1 h2 hR ha hb) rfl
  · skip
    exact x_vret (pc := 7) K rfl ((if_pos c4).symm) d_C_bringUpToDate_7
end
