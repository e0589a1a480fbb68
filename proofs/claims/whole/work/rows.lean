section
-- ===== PART A: goes FIRST, ahead of the names: the tables' words, and 'selects' of the private methods out of them =====
/-- a private method of a class that the tables say can be made, by its rows of tables_1 -/
def lw_okq (q : MethodName × Nat) : Prop := (q.1.cls ≠ "java/lang/invoke/MethodHandle" ∧ q.1.cls ≠ "java/lang/invoke/VarHandle") ∧ Cond.instantiable q.1.cls q.2 ∈ tables_1 ∧ Cond.privateMethod q.1 ∈ tables_1 ∧ Cond.instanceMethod q.1 ∈ tables_1
theorem lw_p0 : lw_okq (⟨"ConstantStarts$Plan", "addModule", "(I)I"⟩, 14) := ⟨⟨by decide +kernel, by decide +kernel⟩, List.mem_of_getElem? (i := 17) (by decide +kernel), List.mem_of_getElem? (i := 204) (by decide +kernel), List.mem_of_getElem? (i := 205) (by decide +kernel)⟩
theorem lw_p1 : lw_okq (⟨"ConstantStarts$Plan", "setItem", "(III)I"⟩, 14) := ⟨⟨by decide +kernel, by decide +kernel⟩, List.mem_of_getElem? (i := 17) (by decide +kernel), List.mem_of_getElem? (i := 212) (by decide +kernel), List.mem_of_getElem? (i := 213) (by decide +kernel)⟩
theorem lw_p2 : lw_okq (⟨"ConstantStarts$Plan", "hasItem", "(II)Z"⟩, 14) := ⟨⟨by decide +kernel, by decide +kernel⟩, List.mem_of_getElem? (i := 17) (by decide +kernel), List.mem_of_getElem? (i := 216) (by decide +kernel), List.mem_of_getElem? (i := 217) (by decide +kernel)⟩
theorem lw_p3 : lw_okq (⟨"ConstantStarts$Plan", "hasModule", "(I)Z"⟩, 14) := ⟨⟨by decide +kernel, by decide +kernel⟩, List.mem_of_getElem? (i := 17) (by decide +kernel), List.mem_of_getElem? (i := 220) (by decide +kernel), List.mem_of_getElem? (i := 221) (by decide +kernel)⟩
theorem lw_p4 : lw_okq (⟨"ConstantStarts$Plan", "addUsed", "(II)I"⟩, 14) := ⟨⟨by decide +kernel, by decide +kernel⟩, List.mem_of_getElem? (i := 17) (by decide +kernel), List.mem_of_getElem? (i := 228) (by decide +kernel), List.mem_of_getElem? (i := 229) (by decide +kernel)⟩
theorem lw_p5 : lw_okq (⟨"ConstantStarts$Plan", "addDeed", "(III)I"⟩, 14) := ⟨⟨by decide +kernel, by decide +kernel⟩, List.mem_of_getElem? (i := 17) (by decide +kernel), List.mem_of_getElem? (i := 236) (by decide +kernel), List.mem_of_getElem? (i := 237) (by decide +kernel)⟩
theorem lw_p6 : lw_okq (⟨"ConstantStarts$Plan", "isDeed", "(II)Z"⟩, 14) := ⟨⟨by decide +kernel, by decide +kernel⟩, List.mem_of_getElem? (i := 17) (by decide +kernel), List.mem_of_getElem? (i := 240) (by decide +kernel), List.mem_of_getElem? (i := 241) (by decide +kernel)⟩
theorem lw_p7 : lw_okq (⟨"ConstantStarts$Plan", "mayBeConstant", "(I)Z"⟩, 14) := ⟨⟨by decide +kernel, by decide +kernel⟩, List.mem_of_getElem? (i := 17) (by decide +kernel), List.mem_of_getElem? (i := 244) (by decide +kernel), List.mem_of_getElem? (i := 245) (by decide +kernel)⟩
theorem lw_p8 : lw_okq (⟨"ConstantStarts$Plan", "addConstant", "(IIIII)I"⟩, 14) := ⟨⟨by decide +kernel, by decide +kernel⟩, List.mem_of_getElem? (i := 17) (by decide +kernel), List.mem_of_getElem? (i := 252) (by decide +kernel), List.mem_of_getElem? (i := 253) (by decide +kernel)⟩
theorem lw_p9 : lw_okq (⟨"ConstantStarts$Plan", "isFormula", "(IIII)Z"⟩, 14) := ⟨⟨by decide +kernel, by decide +kernel⟩, List.mem_of_getElem? (i := 17) (by decide +kernel), List.mem_of_getElem? (i := 256) (by decide +kernel), List.mem_of_getElem? (i := 257) (by decide +kernel)⟩
theorem lw_p10 : lw_okq (⟨"ConstantStarts", "loaderAt", "(I)LConstantStarts$Loader;"⟩, 10) := ⟨⟨by decide +kernel, by decide +kernel⟩, List.mem_of_getElem? (i := 9) (by decide +kernel), List.mem_of_getElem? (i := 266) (by decide +kernel), List.mem_of_getElem? (i := 267) (by decide +kernel)⟩
theorem lw_p11 : lw_okq (⟨"ConstantStarts$Plan", "hasConstant", "(I)Z"⟩, 14) := ⟨⟨by decide +kernel, by decide +kernel⟩, List.mem_of_getElem? (i := 17) (by decide +kernel), List.mem_of_getElem? (i := 270) (by decide +kernel), List.mem_of_getElem? (i := 271) (by decide +kernel)⟩
theorem lw_p12 : lw_okq (⟨"ConstantStarts$Trace", "clear", "()V"⟩, 3) := ⟨⟨by decide +kernel, by decide +kernel⟩, List.mem_of_getElem? (i := 82) (by decide +kernel), List.mem_of_getElem? (i := 274) (by decide +kernel), List.mem_of_getElem? (i := 275) (by decide +kernel)⟩
theorem lw_p13 : lw_okq (⟨"ConstantStarts$Loader", "obtain", "(II)Z"⟩, 8) := ⟨⟨by decide +kernel, by decide +kernel⟩, List.mem_of_getElem? (i := 102) (by decide +kernel), List.mem_of_getElem? (i := 278) (by decide +kernel), List.mem_of_getElem? (i := 279) (by decide +kernel)⟩
theorem lw_p14 : lw_okq (⟨"ConstantStarts$Outcome", "fail", "(II)Z"⟩, 5) := ⟨⟨by decide +kernel, by decide +kernel⟩, List.mem_of_getElem? (i := 110) (by decide +kernel), List.mem_of_getElem? (i := 283) (by decide +kernel), List.mem_of_getElem? (i := 284) (by decide +kernel)⟩
theorem lw_p15 : lw_okq (⟨"ConstantStarts$Loader", "begin", "(II)Z"⟩, 8) := ⟨⟨by decide +kernel, by decide +kernel⟩, List.mem_of_getElem? (i := 102) (by decide +kernel), List.mem_of_getElem? (i := 287) (by decide +kernel), List.mem_of_getElem? (i := 288) (by decide +kernel)⟩
def lw_privs_1 : List (MethodName × Nat) := [(⟨"ConstantStarts$Plan", "addModule", "(I)I"⟩, 14), (⟨"ConstantStarts$Plan", "setItem", "(III)I"⟩, 14), (⟨"ConstantStarts$Plan", "hasItem", "(II)Z"⟩, 14), (⟨"ConstantStarts$Plan", "hasModule", "(I)Z"⟩, 14), (⟨"ConstantStarts$Plan", "addUsed", "(II)I"⟩, 14), (⟨"ConstantStarts$Plan", "addDeed", "(III)I"⟩, 14), (⟨"ConstantStarts$Plan", "isDeed", "(II)Z"⟩, 14), (⟨"ConstantStarts$Plan", "mayBeConstant", "(I)Z"⟩, 14), (⟨"ConstantStarts$Plan", "addConstant", "(IIIII)I"⟩, 14), (⟨"ConstantStarts$Plan", "isFormula", "(IIII)Z"⟩, 14), (⟨"ConstantStarts", "loaderAt", "(I)LConstantStarts$Loader;"⟩, 10), (⟨"ConstantStarts$Plan", "hasConstant", "(I)Z"⟩, 14), (⟨"ConstantStarts$Trace", "clear", "()V"⟩, 3), (⟨"ConstantStarts$Loader", "obtain", "(II)Z"⟩, 8), (⟨"ConstantStarts$Outcome", "fail", "(II)Z"⟩, 5), (⟨"ConstantStarts$Loader", "begin", "(II)Z"⟩, 8)]
theorem lw_r1 : ∀ q ∈ lw_privs_1, lw_okq q := List.forall_mem_cons.mpr ⟨lw_p0, List.forall_mem_cons.mpr ⟨lw_p1, List.forall_mem_cons.mpr ⟨lw_p2, List.forall_mem_cons.mpr ⟨lw_p3, List.forall_mem_cons.mpr ⟨lw_p4, List.forall_mem_cons.mpr ⟨lw_p5, List.forall_mem_cons.mpr ⟨lw_p6, List.forall_mem_cons.mpr ⟨lw_p7, List.forall_mem_cons.mpr ⟨lw_p8, List.forall_mem_cons.mpr ⟨lw_p9, List.forall_mem_cons.mpr ⟨lw_p10, List.forall_mem_cons.mpr ⟨lw_p11, List.forall_mem_cons.mpr ⟨lw_p12, List.forall_mem_cons.mpr ⟨lw_p13, List.forall_mem_cons.mpr ⟨lw_p14, List.forall_mem_cons.mpr ⟨lw_p15, fun _ h => absurd h List.not_mem_nil⟩⟩⟩⟩⟩⟩⟩⟩⟩⟩⟩⟩⟩⟩⟩⟩
theorem lw_p16 : lw_okq (⟨"ConstantStarts$Trace", "note", "(II)V"⟩, 3) := ⟨⟨by decide +kernel, by decide +kernel⟩, List.mem_of_getElem? (i := 82) (by decide +kernel), List.mem_of_getElem? (i := 291) (by decide +kernel), List.mem_of_getElem? (i := 292) (by decide +kernel)⟩
theorem lw_p17 : lw_okq (⟨"ConstantStarts$Loader", "beginUsed", "(II)Z"⟩, 8) := ⟨⟨by decide +kernel, by decide +kernel⟩, List.mem_of_getElem? (i := 102) (by decide +kernel), List.mem_of_getElem? (i := 298) (by decide +kernel), List.mem_of_getElem? (i := 299) (by decide +kernel)⟩
theorem lw_p18 : lw_okq (⟨"ConstantStarts$Loader", "doDeeds", "(II)Z"⟩, 8) := ⟨⟨by decide +kernel, by decide +kernel⟩, List.mem_of_getElem? (i := 102) (by decide +kernel), List.mem_of_getElem? (i := 302) (by decide +kernel), List.mem_of_getElem? (i := 303) (by decide +kernel)⟩
theorem lw_p19 : lw_okq (⟨"ConstantStarts$Loader", "doDeed", "(III)Z"⟩, 8) := ⟨⟨by decide +kernel, by decide +kernel⟩, List.mem_of_getElem? (i := 102) (by decide +kernel), List.mem_of_getElem? (i := 306) (by decide +kernel), List.mem_of_getElem? (i := 307) (by decide +kernel)⟩
theorem lw_p20 : lw_okq (⟨"ConstantStarts$Outcome", "failStart", "(I)Z"⟩, 5) := ⟨⟨by decide +kernel, by decide +kernel⟩, List.mem_of_getElem? (i := 110) (by decide +kernel), List.mem_of_getElem? (i := 311) (by decide +kernel), List.mem_of_getElem? (i := 312) (by decide +kernel)⟩
theorem lw_p21 : lw_okq (⟨"ConstantStarts$Outcome", "copy", "(LConstantStarts$Outcome;)V"⟩, 5) := ⟨⟨by decide +kernel, by decide +kernel⟩, List.mem_of_getElem? (i := 110) (by decide +kernel), List.mem_of_getElem? (i := 315) (by decide +kernel), List.mem_of_getElem? (i := 316) (by decide +kernel)⟩
theorem lw_p22 : lw_okq (⟨"ConstantStarts$Loader", "work", "(II)Z"⟩, 8) := ⟨⟨by decide +kernel, by decide +kernel⟩, List.mem_of_getElem? (i := 102) (by decide +kernel), List.mem_of_getElem? (i := 319) (by decide +kernel), List.mem_of_getElem? (i := 320) (by decide +kernel)⟩
theorem lw_p23 : lw_okq (⟨"ConstantStarts$Loader", "reckon", "(II)Z"⟩, 8) := ⟨⟨by decide +kernel, by decide +kernel⟩, List.mem_of_getElem? (i := 102) (by decide +kernel), List.mem_of_getElem? (i := 323) (by decide +kernel), List.mem_of_getElem? (i := 324) (by decide +kernel)⟩
theorem lw_p24 : lw_okq (⟨"ConstantStarts$Outcome", "succeed", "(I)Z"⟩, 5) := ⟨⟨by decide +kernel, by decide +kernel⟩, List.mem_of_getElem? (i := 110) (by decide +kernel), List.mem_of_getElem? (i := 327) (by decide +kernel), List.mem_of_getElem? (i := 328) (by decide +kernel)⟩
theorem lw_p25 : lw_okq (⟨"ConstantStarts$Loader", "multiply", "(III)Z"⟩, 8) := ⟨⟨by decide +kernel, by decide +kernel⟩, List.mem_of_getElem? (i := 102) (by decide +kernel), List.mem_of_getElem? (i := 331) (by decide +kernel), List.mem_of_getElem? (i := 332) (by decide +kernel)⟩
theorem lw_p26 : lw_okq (⟨"ConstantStarts$Loader", "divide", "(III)Z"⟩, 8) := ⟨⟨by decide +kernel, by decide +kernel⟩, List.mem_of_getElem? (i := 102) (by decide +kernel), List.mem_of_getElem? (i := 335) (by decide +kernel), List.mem_of_getElem? (i := 336) (by decide +kernel)⟩
theorem lw_p27 : lw_okq (⟨"ConstantStarts$Loader", "readItem", "(II)Z"⟩, 8) := ⟨⟨by decide +kernel, by decide +kernel⟩, List.mem_of_getElem? (i := 102) (by decide +kernel), List.mem_of_getElem? (i := 339) (by decide +kernel), List.mem_of_getElem? (i := 340) (by decide +kernel)⟩
theorem lw_p28 : lw_okq (⟨"ConstantStarts$Plan", "countConstants", "(I)I"⟩, 14) := ⟨⟨by decide +kernel, by decide +kernel⟩, List.mem_of_getElem? (i := 17) (by decide +kernel), List.mem_of_getElem? (i := 344) (by decide +kernel), List.mem_of_getElem? (i := 345) (by decide +kernel)⟩
theorem lw_p29 : lw_okq (⟨"ConstantStarts$Loader", "writeItem", "(III)Z"⟩, 8) := ⟨⟨by decide +kernel, by decide +kernel⟩, List.mem_of_getElem? (i := 102) (by decide +kernel), List.mem_of_getElem? (i := 348) (by decide +kernel), List.mem_of_getElem? (i := 349) (by decide +kernel)⟩
theorem lw_p30 : lw_okq (⟨"ConstantStarts", "answer", "(LConstantStarts$Loader;Z)I"⟩, 10) := ⟨⟨by decide +kernel, by decide +kernel⟩, List.mem_of_getElem? (i := 9) (by decide +kernel), List.mem_of_getElem? (i := 352) (by decide +kernel), List.mem_of_getElem? (i := 353) (by decide +kernel)⟩
theorem lw_p31 : lw_okq (⟨"ConstantStarts$Loader", "tellKept", "(I)I"⟩, 8) := ⟨⟨by decide +kernel, by decide +kernel⟩, List.mem_of_getElem? (i := 102) (by decide +kernel), List.mem_of_getElem? (i := 380) (by decide +kernel), List.mem_of_getElem? (i := 381) (by decide +kernel)⟩
def lw_privs_2 : List (MethodName × Nat) := [(⟨"ConstantStarts$Trace", "note", "(II)V"⟩, 3), (⟨"ConstantStarts$Loader", "beginUsed", "(II)Z"⟩, 8), (⟨"ConstantStarts$Loader", "doDeeds", "(II)Z"⟩, 8), (⟨"ConstantStarts$Loader", "doDeed", "(III)Z"⟩, 8), (⟨"ConstantStarts$Outcome", "failStart", "(I)Z"⟩, 5), (⟨"ConstantStarts$Outcome", "copy", "(LConstantStarts$Outcome;)V"⟩, 5), (⟨"ConstantStarts$Loader", "work", "(II)Z"⟩, 8), (⟨"ConstantStarts$Loader", "reckon", "(II)Z"⟩, 8), (⟨"ConstantStarts$Outcome", "succeed", "(I)Z"⟩, 5), (⟨"ConstantStarts$Loader", "multiply", "(III)Z"⟩, 8), (⟨"ConstantStarts$Loader", "divide", "(III)Z"⟩, 8), (⟨"ConstantStarts$Loader", "readItem", "(II)Z"⟩, 8), (⟨"ConstantStarts$Plan", "countConstants", "(I)I"⟩, 14), (⟨"ConstantStarts$Loader", "writeItem", "(III)Z"⟩, 8), (⟨"ConstantStarts", "answer", "(LConstantStarts$Loader;Z)I"⟩, 10), (⟨"ConstantStarts$Loader", "tellKept", "(I)I"⟩, 8)]
theorem lw_r2 : ∀ q ∈ lw_privs_2, lw_okq q := List.forall_mem_cons.mpr ⟨lw_p16, List.forall_mem_cons.mpr ⟨lw_p17, List.forall_mem_cons.mpr ⟨lw_p18, List.forall_mem_cons.mpr ⟨lw_p19, List.forall_mem_cons.mpr ⟨lw_p20, List.forall_mem_cons.mpr ⟨lw_p21, List.forall_mem_cons.mpr ⟨lw_p22, List.forall_mem_cons.mpr ⟨lw_p23, List.forall_mem_cons.mpr ⟨lw_p24, List.forall_mem_cons.mpr ⟨lw_p25, List.forall_mem_cons.mpr ⟨lw_p26, List.forall_mem_cons.mpr ⟨lw_p27, List.forall_mem_cons.mpr ⟨lw_p28, List.forall_mem_cons.mpr ⟨lw_p29, List.forall_mem_cons.mpr ⟨lw_p30, List.forall_mem_cons.mpr ⟨lw_p31, fun _ h => absurd h List.not_mem_nil⟩⟩⟩⟩⟩⟩⟩⟩⟩⟩⟩⟩⟩⟩⟩⟩
theorem lw_p32 : lw_okq (⟨"ConstantStarts$Loader", "tellItem", "(II)I"⟩, 8) := ⟨⟨by decide +kernel, by decide +kernel⟩, List.mem_of_getElem? (i := 102) (by decide +kernel), List.mem_of_getElem? (i := 389) (by decide +kernel), List.mem_of_getElem? (i := 390) (by decide +kernel)⟩
theorem lw_p33 : lw_okq (⟨"ConstantStarts$Loader", "countEnded", "()I"⟩, 8) := ⟨⟨by decide +kernel, by decide +kernel⟩, List.mem_of_getElem? (i := 102) (by decide +kernel), List.mem_of_getElem? (i := 401) (by decide +kernel), List.mem_of_getElem? (i := 402) (by decide +kernel)⟩
theorem lw_p34 : lw_okq (⟨"ConstantStarts$Loader", "clear", "()V"⟩, 8) := ⟨⟨by decide +kernel, by decide +kernel⟩, List.mem_of_getElem? (i := 102) (by decide +kernel), List.mem_of_getElem? (i := 405) (by decide +kernel), List.mem_of_getElem? (i := 406) (by decide +kernel)⟩
theorem lw_p35 : lw_okq (⟨"ConstantStarts", "needByNumbers", "()V"⟩, 10) := ⟨⟨by decide +kernel, by decide +kernel⟩, List.mem_of_getElem? (i := 9) (by decide +kernel), List.mem_of_getElem? (i := 413) (by decide +kernel), List.mem_of_getElem? (i := 414) (by decide +kernel)⟩
theorem lw_p36 : lw_okq (⟨"ConstantStarts", "mixOrder", "(I)V"⟩, 10) := ⟨⟨by decide +kernel, by decide +kernel⟩, List.mem_of_getElem? (i := 9) (by decide +kernel), List.mem_of_getElem? (i := 417) (by decide +kernel), List.mem_of_getElem? (i := 418) (by decide +kernel)⟩
theorem lw_p37 : lw_okq (⟨"ConstantStarts", "countUnlike", "()I"⟩, 10) := ⟨⟨by decide +kernel, by decide +kernel⟩, List.mem_of_getElem? (i := 9) (by decide +kernel), List.mem_of_getElem? (i := 422) (by decide +kernel), List.mem_of_getElem? (i := 423) (by decide +kernel)⟩
theorem lw_p38 : lw_okq (⟨"ConstantStarts", "countWorked", "()I"⟩, 10) := ⟨⟨by decide +kernel, by decide +kernel⟩, List.mem_of_getElem? (i := 9) (by decide +kernel), List.mem_of_getElem? (i := 430) (by decide +kernel), List.mem_of_getElem? (i := 431) (by decide +kernel)⟩
theorem lw_p39 : lw_okq (⟨"ConstantStartsModel", "isModule", "(I)Z"⟩, 41) := ⟨⟨by decide +kernel, by decide +kernel⟩, List.mem_of_getElem? (i := 434) (by decide +kernel), List.mem_of_getElem? (i := 575) (by decide +kernel), List.mem_of_getElem? (i := 576) (by decide +kernel)⟩
theorem lw_p40 : lw_okq (⟨"ConstantStartsModel", "push", "(II)V"⟩, 41) := ⟨⟨by decide +kernel, by decide +kernel⟩, List.mem_of_getElem? (i := 434) (by decide +kernel), List.mem_of_getElem? (i := 598) (by decide +kernel), List.mem_of_getElem? (i := 599) (by decide +kernel)⟩
theorem lw_p41 : lw_okq (⟨"ConstantStartsModel", "runs", "(I)V"⟩, 41) := ⟨⟨by decide +kernel, by decide +kernel⟩, List.mem_of_getElem? (i := 434) (by decide +kernel), List.mem_of_getElem? (i := 602) (by decide +kernel), List.mem_of_getElem? (i := 603) (by decide +kernel)⟩
theorem lw_p42 : lw_okq (⟨"ConstantStartsModel", "needs", "(II)V"⟩, 41) := ⟨⟨by decide +kernel, by decide +kernel⟩, List.mem_of_getElem? (i := 434) (by decide +kernel), List.mem_of_getElem? (i := 606) (by decide +kernel), List.mem_of_getElem? (i := 607) (by decide +kernel)⟩
theorem lw_p43 : lw_okq (⟨"ConstantStartsModel", "fails", "(II)V"⟩, 41) := ⟨⟨by decide +kernel, by decide +kernel⟩, List.mem_of_getElem? (i := 434) (by decide +kernel), List.mem_of_getElem? (i := 610) (by decide +kernel), List.mem_of_getElem? (i := 611) (by decide +kernel)⟩
theorem lw_p44 : lw_okq (⟨"ConstantStartsModel", "looks", "(III)V"⟩, 41) := ⟨⟨by decide +kernel, by decide +kernel⟩, List.mem_of_getElem? (i := 434) (by decide +kernel), List.mem_of_getElem? (i := 614) (by decide +kernel), List.mem_of_getElem? (i := 615) (by decide +kernel)⟩
theorem lw_p45 : lw_okq (⟨"ConstantStartsModel", "gives", "(I)V"⟩, 41) := ⟨⟨by decide +kernel, by decide +kernel⟩, List.mem_of_getElem? (i := 434) (by decide +kernel), List.mem_of_getElem? (i := 618) (by decide +kernel), List.mem_of_getElem? (i := 619) (by decide +kernel)⟩
theorem lw_p46 : lw_okq (⟨"ConstantStartsModel", "mark", "(II)V"⟩, 41) := ⟨⟨by decide +kernel, by decide +kernel⟩, List.mem_of_getElem? (i := 434) (by decide +kernel), List.mem_of_getElem? (i := 622) (by decide +kernel), List.mem_of_getElem? (i := 623) (by decide +kernel)⟩
theorem lw_p47 : lw_okq (⟨"ConstantStartsModel", "begins", "(II)V"⟩, 41) := ⟨⟨by decide +kernel, by decide +kernel⟩, List.mem_of_getElem? (i := 434) (by decide +kernel), List.mem_of_getElem? (i := 626) (by decide +kernel), List.mem_of_getElem? (i := 627) (by decide +kernel)⟩
def lw_privs_3 : List (MethodName × Nat) := [(⟨"ConstantStarts$Loader", "tellItem", "(II)I"⟩, 8), (⟨"ConstantStarts$Loader", "countEnded", "()I"⟩, 8), (⟨"ConstantStarts$Loader", "clear", "()V"⟩, 8), (⟨"ConstantStarts", "needByNumbers", "()V"⟩, 10), (⟨"ConstantStarts", "mixOrder", "(I)V"⟩, 10), (⟨"ConstantStarts", "countUnlike", "()I"⟩, 10), (⟨"ConstantStarts", "countWorked", "()I"⟩, 10), (⟨"ConstantStartsModel", "isModule", "(I)Z"⟩, 41), (⟨"ConstantStartsModel", "push", "(II)V"⟩, 41), (⟨"ConstantStartsModel", "runs", "(I)V"⟩, 41), (⟨"ConstantStartsModel", "needs", "(II)V"⟩, 41), (⟨"ConstantStartsModel", "fails", "(II)V"⟩, 41), (⟨"ConstantStartsModel", "looks", "(III)V"⟩, 41), (⟨"ConstantStartsModel", "gives", "(I)V"⟩, 41), (⟨"ConstantStartsModel", "mark", "(II)V"⟩, 41), (⟨"ConstantStartsModel", "begins", "(II)V"⟩, 41)]
theorem lw_r3 : ∀ q ∈ lw_privs_3, lw_okq q := List.forall_mem_cons.mpr ⟨lw_p32, List.forall_mem_cons.mpr ⟨lw_p33, List.forall_mem_cons.mpr ⟨lw_p34, List.forall_mem_cons.mpr ⟨lw_p35, List.forall_mem_cons.mpr ⟨lw_p36, List.forall_mem_cons.mpr ⟨lw_p37, List.forall_mem_cons.mpr ⟨lw_p38, List.forall_mem_cons.mpr ⟨lw_p39, List.forall_mem_cons.mpr ⟨lw_p40, List.forall_mem_cons.mpr ⟨lw_p41, List.forall_mem_cons.mpr ⟨lw_p42, List.forall_mem_cons.mpr ⟨lw_p43, List.forall_mem_cons.mpr ⟨lw_p44, List.forall_mem_cons.mpr ⟨lw_p45, List.forall_mem_cons.mpr ⟨lw_p46, List.forall_mem_cons.mpr ⟨lw_p47, fun _ h => absurd h List.not_mem_nil⟩⟩⟩⟩⟩⟩⟩⟩⟩⟩⟩⟩⟩⟩⟩⟩
theorem lw_p48 : lw_okq (⟨"ConstantStartsModel", "ends", "(II)V"⟩, 41) := ⟨⟨by decide +kernel, by decide +kernel⟩, List.mem_of_getElem? (i := 434) (by decide +kernel), List.mem_of_getElem? (i := 630) (by decide +kernel), List.mem_of_getElem? (i := 631) (by decide +kernel)⟩
theorem lw_p49 : lw_okq (⟨"ConstantStartsModel", "first", "(III)V"⟩, 41) := ⟨⟨by decide +kernel, by decide +kernel⟩, List.mem_of_getElem? (i := 434) (by decide +kernel), List.mem_of_getElem? (i := 634) (by decide +kernel), List.mem_of_getElem? (i := 635) (by decide +kernel)⟩
theorem lw_p50 : lw_okq (⟨"ConstantStartsModel", "second", "(III)V"⟩, 41) := ⟨⟨by decide +kernel, by decide +kernel⟩, List.mem_of_getElem? (i := 434) (by decide +kernel), List.mem_of_getElem? (i := 638) (by decide +kernel), List.mem_of_getElem? (i := 639) (by decide +kernel)⟩
theorem lw_p51 : lw_okq (⟨"ConstantStartsModel", "starts", "(II)V"⟩, 41) := ⟨⟨by decide +kernel, by decide +kernel⟩, List.mem_of_getElem? (i := 434) (by decide +kernel), List.mem_of_getElem? (i := 642) (by decide +kernel), List.mem_of_getElem? (i := 643) (by decide +kernel)⟩
theorem lw_p52 : lw_okq (⟨"ConstantStartsModel", "breaks", "(II)V"⟩, 41) := ⟨⟨by decide +kernel, by decide +kernel⟩, List.mem_of_getElem? (i := 434) (by decide +kernel), List.mem_of_getElem? (i := 646) (by decide +kernel), List.mem_of_getElem? (i := 647) (by decide +kernel)⟩
theorem lw_p53 : lw_okq (⟨"ConstantStartsModel", "deeds", "(III)V"⟩, 41) := ⟨⟨by decide +kernel, by decide +kernel⟩, List.mem_of_getElem? (i := 434) (by decide +kernel), List.mem_of_getElem? (i := 650) (by decide +kernel), List.mem_of_getElem? (i := 651) (by decide +kernel)⟩
theorem lw_p54 : lw_okq (⟨"ConstantStartsModel", "answers", "()I"⟩, 41) := ⟨⟨by decide +kernel, by decide +kernel⟩, List.mem_of_getElem? (i := 434) (by decide +kernel), List.mem_of_getElem? (i := 654) (by decide +kernel), List.mem_of_getElem? (i := 655) (by decide +kernel)⟩
theorem lw_p55 : lw_okq (⟨"ConstantStartsModel", "empties", "(I)I"⟩, 41) := ⟨⟨by decide +kernel, by decide +kernel⟩, List.mem_of_getElem? (i := 434) (by decide +kernel), List.mem_of_getElem? (i := 690) (by decide +kernel), List.mem_of_getElem? (i := 691) (by decide +kernel)⟩
def lw_privs_4 : List (MethodName × Nat) := [(⟨"ConstantStartsModel", "ends", "(II)V"⟩, 41), (⟨"ConstantStartsModel", "first", "(III)V"⟩, 41), (⟨"ConstantStartsModel", "second", "(III)V"⟩, 41), (⟨"ConstantStartsModel", "starts", "(II)V"⟩, 41), (⟨"ConstantStartsModel", "breaks", "(II)V"⟩, 41), (⟨"ConstantStartsModel", "deeds", "(III)V"⟩, 41), (⟨"ConstantStartsModel", "answers", "()I"⟩, 41), (⟨"ConstantStartsModel", "empties", "(I)I"⟩, 41)]
theorem lw_r4 : ∀ q ∈ lw_privs_4, lw_okq q := List.forall_mem_cons.mpr ⟨lw_p48, List.forall_mem_cons.mpr ⟨lw_p49, List.forall_mem_cons.mpr ⟨lw_p50, List.forall_mem_cons.mpr ⟨lw_p51, List.forall_mem_cons.mpr ⟨lw_p52, List.forall_mem_cons.mpr ⟨lw_p53, List.forall_mem_cons.mpr ⟨lw_p54, List.forall_mem_cons.mpr ⟨lw_p55, fun _ h => absurd h List.not_mem_nil⟩⟩⟩⟩⟩⟩⟩⟩
def lw_privs : List (MethodName × Nat) := lw_privs_1 ++ (lw_privs_2 ++ (lw_privs_3 ++ (lw_privs_4)))
def lw_tbl : List Cond := k2_sels lw_privs ++ tables_1
theorem lw_privs_ok : ∀ q ∈ lw_privs, lw_okq q := by
  show ∀ q ∈ lw_privs_1 ++ (lw_privs_2 ++ (lw_privs_3 ++ (lw_privs_4))), lw_okq q
  exact List.forall_mem_append.mpr ⟨lw_r1, List.forall_mem_append.mpr ⟨lw_r2, List.forall_mem_append.mpr ⟨lw_r3, lw_r4⟩⟩⟩
-- ===== end of PART A; then your names; then what follows =====
/-! ===== BEGIN words of one list among another's, by their places ===== -/
theorem goodIn_r {big : List Cond} (ws : List Cond) (ps : List Nat) (hp : ws = ps.filterMap (fun i => big[i]?)) (h : ws.all goodWord = true) : GoodIn big ws := by
  intro w hw
  have h1 := List.all_eq_true.mp h w hw
  rw [hp] at hw
  obtain ⟨i, -, hi⟩ := List.mem_filterMap.mp hw
  have hm : w ∈ big := by first | exact List.mem_of_getElem? hi | exact List.getElem?_mem hi
  exact ⟨hm, good_of_word h1⟩
theorem goodIn_app {big a b : List Cond} (ha : GoodIn big a) (hb : GoodIn big b) : GoodIn big (a ++ b) := fun w h => (List.mem_append.mp h).elim (ha w) (hb w)
theorem goodIn_ca {big a b : List Cond} {c : Cond} (ha : GoodIn big (c :: a)) (hb : GoodIn big b) : GoodIn big (c :: (a ++ b)) := fun w h => (List.mem_cons.mp h).elim (fun e => ha w (List.mem_cons.mpr (Or.inl e))) (fun h => (List.mem_append.mp h).elim (fun h => ha w (List.mem_cons.mpr (Or.inr h))) (hb w))
theorem goodIn_sub {big ws : List Cond} (hm : ∀ w ∈ ws, w ∈ big) (h : ws.all goodWord = true) : GoodIn big ws := fun w hw => ⟨hm w hw, good_of_word (List.all_eq_true.mp h w hw)⟩
/-! ===== END ===== -/
def RX0 : String := "ConstantStarts$Loader"
def TX0 : u_T := fun k => match k with
  | 0 => ("ConstantStarts$Loader", "plan", "LConstantStarts$Plan;", true)
  | 1 => ("ConstantStarts$Loader", "events", "LConstantStarts$Trace;", true)
  | 2 => ("ConstantStarts$Loader", "states", "[I", true)
  | 3 => ("ConstantStarts$Loader", "rows", "[[I", true)
  | 4 => ("ConstantStarts$Loader", "stages", "[I", true)
  | 5 => ("ConstantStarts$Loader", "outcomes", "[LConstantStarts$Outcome;", true)
  | 6 => ("ConstantStarts$Loader", "now", "LConstantStarts$Outcome;", true)
  | _ => ("ConstantStarts$Loader", "workedCount", "I", false)
def tyX0 : Nat → FieldType := fun k => match k with
  | 0 => .object "ConstantStarts$Plan"
  | 1 => .object "ConstantStarts$Trace"
  | 2 => .array .int
  | 3 => .array (.array .int)
  | 4 => .array .int
  | 5 => .array (.object "ConstantStarts$Outcome")
  | 6 => .object "ConstantStarts$Outcome"
  | _ => .int
abbrev wsX00 : List Cond := u_ws RX0 TX0 8
theorem nmX0 : ∀ a, a < 8 → ∀ b, b < 8 → a ≠ b → (TX0 a).2.1 ≠ (TX0 b).2.1 := by decide +kernel
theorem tyX0_ok : ∀ k, k < 8 → parseFieldDescriptor (TX0 k).2.2.1 = some (tyX0 k) := by decide +kernel
abbrev cX0_init : ByteArray := prog_2_method_1_code
def yX0_init : MethodName := ⟨RX0, "<init>", "(LConstantStarts$Plan;LConstantStarts$Trace;)V"⟩
abbrev cX0_clear : ByteArray := prog_2_method_2_code
def yX0_clear : MethodName := ⟨RX0, "clear", "()V"⟩
abbrev cX0_countEnded : ByteArray := prog_2_method_3_code
def yX0_countEnded : MethodName := ⟨RX0, "countEnded", "()I"⟩
abbrev cX0_tellKept : ByteArray := prog_2_method_4_code
def yX0_tellKept : MethodName := ⟨RX0, "tellKept", "(I)I"⟩
abbrev cX0_tellItem : ByteArray := prog_2_method_5_code
def yX0_tellItem : MethodName := ⟨RX0, "tellItem", "(II)I"⟩
abbrev cX0_obtain : ByteArray := prog_2_method_6_code
def yX0_obtain : MethodName := ⟨RX0, "obtain", "(II)Z"⟩
abbrev cX0_work : ByteArray := prog_2_method_7_code
def yX0_work : MethodName := ⟨RX0, "work", "(II)Z"⟩
abbrev cX0_reckon : ByteArray := prog_2_method_8_code
def yX0_reckon : MethodName := ⟨RX0, "reckon", "(II)Z"⟩
abbrev cX0_multiply : ByteArray := prog_2_method_9_code
def yX0_multiply : MethodName := ⟨RX0, "multiply", "(III)Z"⟩
abbrev cX0_divide : ByteArray := prog_2_method_10_code
def yX0_divide : MethodName := ⟨RX0, "divide", "(III)Z"⟩
abbrev cX0_readItem : ByteArray := prog_2_method_11_code
def yX0_readItem : MethodName := ⟨RX0, "readItem", "(II)Z"⟩
abbrev cX0_writeItem : ByteArray := prog_2_method_12_code
def yX0_writeItem : MethodName := ⟨RX0, "writeItem", "(III)Z"⟩
abbrev cX0_begin : ByteArray := prog_2_method_13_code
def yX0_begin : MethodName := ⟨RX0, "begin", "(II)Z"⟩
abbrev cX0_beginUsed : ByteArray := prog_2_method_14_code
def yX0_beginUsed : MethodName := ⟨RX0, "beginUsed", "(II)Z"⟩
abbrev cX0_doDeeds : ByteArray := prog_2_method_15_code
def yX0_doDeeds : MethodName := ⟨RX0, "doDeeds", "(II)Z"⟩
abbrev cX0_doDeed : ByteArray := prog_2_method_16_code
def yX0_doDeed : MethodName := ⟨RX0, "doDeed", "(III)Z"⟩
def RX1 : String := "ConstantStarts$Outcome"
def TX1 : u_T := fun k => match k with
  | 0 => ("ConstantStarts$Outcome", "value", "I", false)
  | 1 => ("ConstantStarts$Outcome", "fault", "I", false)
  | 2 => ("ConstantStarts$Outcome", "number", "I", false)
  | 3 => ("ConstantStarts$Outcome", "cause", "I", false)
  | _ => ("ConstantStarts$Outcome", "causeNumber", "I", false)
def tyX1 : Nat → FieldType := fun k => match k with
  | 0 => .int
  | 1 => .int
  | 2 => .int
  | 3 => .int
  | _ => .int
abbrev wsX10 : List Cond := u_ws RX1 TX1 5
theorem nmX1 : ∀ a, a < 5 → ∀ b, b < 5 → a ≠ b → (TX1 a).2.1 ≠ (TX1 b).2.1 := by decide +kernel
theorem tyX1_ok : ∀ k, k < 5 → parseFieldDescriptor (TX1 k).2.2.1 = some (tyX1 k) := by decide +kernel
abbrev cX1_init : ByteArray := prog_3_method_1_code
def yX1_init : MethodName := ⟨RX1, "<init>", "()V"⟩
abbrev cX1_succeed : ByteArray := prog_3_method_2_code
def yX1_succeed : MethodName := ⟨RX1, "succeed", "(I)Z"⟩
abbrev cX1_fail : ByteArray := prog_3_method_3_code
def yX1_fail : MethodName := ⟨RX1, "fail", "(II)Z"⟩
abbrev cX1_failStart : ByteArray := prog_3_method_4_code
def yX1_failStart : MethodName := ⟨RX1, "failStart", "(I)Z"⟩
abbrev cX1_copy : ByteArray := prog_3_method_5_code
def yX1_copy : MethodName := ⟨RX1, "copy", "(LConstantStarts$Outcome;)V"⟩
def RX2 : String := "ConstantStarts$Plan"
def TX2 : u_T := fun k => match k with
  | 0 => ("ConstantStarts$Plan", "moduleCount", "I", false)
  | 1 => ("ConstantStarts$Plan", "rowLengths", "[I", true)
  | 2 => ("ConstantStarts$Plan", "firstRows", "[[I", true)
  | 3 => ("ConstantStarts$Plan", "usedCounts", "[I", true)
  | 4 => ("ConstantStarts$Plan", "used", "[[I", true)
  | 5 => ("ConstantStarts$Plan", "deedCounts", "[I", true)
  | 6 => ("ConstantStarts$Plan", "deedKinds", "[[I", true)
  | 7 => ("ConstantStarts$Plan", "deedNumbers", "[[I", true)
  | 8 => ("ConstantStarts$Plan", "constantCount", "I", false)
  | 9 => ("ConstantStarts$Plan", "owners", "[I", true)
  | 10 => ("ConstantStarts$Plan", "kinds", "[I", true)
  | 11 => ("ConstantStarts$Plan", "as", "[I", true)
  | 12 => ("ConstantStarts$Plan", "bs", "[I", true)
  | _ => ("ConstantStarts$Plan", "cs", "[I", true)
def tyX2 : Nat → FieldType := fun k => match k with
  | 0 => .int
  | 1 => .array .int
  | 2 => .array (.array .int)
  | 3 => .array .int
  | 4 => .array (.array .int)
  | 5 => .array .int
  | 6 => .array (.array .int)
  | 7 => .array (.array .int)
  | 8 => .int
  | 9 => .array .int
  | 10 => .array .int
  | 11 => .array .int
  | 12 => .array .int
  | _ => .array .int
abbrev wsX20 : List Cond := u_ws RX2 TX2 14
theorem nmX2 : ∀ a, a < 14 → ∀ b, b < 14 → a ≠ b → (TX2 a).2.1 ≠ (TX2 b).2.1 := by decide +kernel
theorem tyX2_ok : ∀ k, k < 14 → parseFieldDescriptor (TX2 k).2.2.1 = some (tyX2 k) := by decide +kernel
abbrev cX2_init : ByteArray := prog_4_method_1_code
def yX2_init : MethodName := ⟨RX2, "<init>", "()V"⟩
abbrev cX2_hasModule : ByteArray := prog_4_method_2_code
def yX2_hasModule : MethodName := ⟨RX2, "hasModule", "(I)Z"⟩
abbrev cX2_hasItem : ByteArray := prog_4_method_3_code
def yX2_hasItem : MethodName := ⟨RX2, "hasItem", "(II)Z"⟩
abbrev cX2_hasConstant : ByteArray := prog_4_method_4_code
def yX2_hasConstant : MethodName := ⟨RX2, "hasConstant", "(I)Z"⟩
abbrev cX2_addModule : ByteArray := prog_4_method_5_code
def yX2_addModule : MethodName := ⟨RX2, "addModule", "(I)I"⟩
abbrev cX2_setItem : ByteArray := prog_4_method_6_code
def yX2_setItem : MethodName := ⟨RX2, "setItem", "(III)I"⟩
abbrev cX2_addUsed : ByteArray := prog_4_method_7_code
def yX2_addUsed : MethodName := ⟨RX2, "addUsed", "(II)I"⟩
abbrev cX2_addDeed : ByteArray := prog_4_method_8_code
def yX2_addDeed : MethodName := ⟨RX2, "addDeed", "(III)I"⟩
abbrev cX2_isDeed : ByteArray := prog_4_method_9_code
def yX2_isDeed : MethodName := ⟨RX2, "isDeed", "(II)Z"⟩
abbrev cX2_addConstant : ByteArray := prog_4_method_10_code
def yX2_addConstant : MethodName := ⟨RX2, "addConstant", "(IIIII)I"⟩
abbrev cX2_isFormula : ByteArray := prog_4_method_11_code
def yX2_isFormula : MethodName := ⟨RX2, "isFormula", "(IIII)Z"⟩
abbrev cX2_mayBeConstant : ByteArray := prog_4_method_12_code
def yX2_mayBeConstant : MethodName := ⟨RX2, "mayBeConstant", "(I)Z"⟩
abbrev cX2_countConstants : ByteArray := prog_4_method_13_code
def yX2_countConstants : MethodName := ⟨RX2, "countConstants", "(I)I"⟩
def RX3 : String := "ConstantStarts$Trace"
def TX3 : u_T := fun k => match k with
  | 0 => ("ConstantStarts$Trace", "kinds", "[I", true)
  | 1 => ("ConstantStarts$Trace", "numbers", "[I", true)
  | _ => ("ConstantStarts$Trace", "count", "I", false)
def tyX3 : Nat → FieldType := fun k => match k with
  | 0 => .array .int
  | 1 => .array .int
  | _ => .int
abbrev wsX30 : List Cond := u_ws RX3 TX3 3
theorem nmX3 : ∀ a, a < 3 → ∀ b, b < 3 → a ≠ b → (TX3 a).2.1 ≠ (TX3 b).2.1 := by decide +kernel
theorem tyX3_ok : ∀ k, k < 3 → parseFieldDescriptor (TX3 k).2.2.1 = some (tyX3 k) := by decide +kernel
abbrev cX3_init : ByteArray := prog_5_method_1_code
def yX3_init : MethodName := ⟨RX3, "<init>", "()V"⟩
abbrev cX3_clear : ByteArray := prog_5_method_2_code
def yX3_clear : MethodName := ⟨RX3, "clear", "()V"⟩
abbrev cX3_note : ByteArray := prog_5_method_3_code
def yX3_note : MethodName := ⟨RX3, "note", "(II)V"⟩
def RX4 : String := "ConstantStarts"
def TX4 : u_T := fun k => match k with
  | 0 => ("ConstantStarts", "plan", "LConstantStarts$Plan;", true)
  | 1 => ("ConstantStarts", "events", "LConstantStarts$Trace;", true)
  | 2 => ("ConstantStarts", "loaders", "[LConstantStarts$Loader;", true)
  | 3 => ("ConstantStarts", "latest", "LConstantStarts$Outcome;", true)
  | 4 => ("ConstantStarts", "latestValue", "I", false)
  | 5 => ("ConstantStarts", "aside", "LConstantStarts$Loader;", true)
  | 6 => ("ConstantStarts", "order", "[I", true)
  | 7 => ("ConstantStarts", "plainFaults", "[I", true)
  | 8 => ("ConstantStarts", "plainValues", "[I", true)
  | _ => ("ConstantStarts", "alikeCalls", "I", false)
def tyX4 : Nat → FieldType := fun k => match k with
  | 0 => .object "ConstantStarts$Plan"
  | 1 => .object "ConstantStarts$Trace"
  | 2 => .array (.object "ConstantStarts$Loader")
  | 3 => .object "ConstantStarts$Outcome"
  | 4 => .int
  | 5 => .object "ConstantStarts$Loader"
  | 6 => .array .int
  | 7 => .array .int
  | 8 => .array .int
  | _ => .int
abbrev wsX40 : List Cond := u_ws RX4 TX4 10
theorem nmX4 : ∀ a, a < 10 → ∀ b, b < 10 → a ≠ b → (TX4 a).2.1 ≠ (TX4 b).2.1 := by decide +kernel
theorem tyX4_ok : ∀ k, k < 10 → parseFieldDescriptor (TX4 k).2.2.1 = some (tyX4 k) := by decide +kernel
abbrev cX4_init : ByteArray := prog_1_method_1_code
def yX4_init : MethodName := ⟨RX4, "<init>", "()V"⟩
abbrev cX4_module : ByteArray := prog_1_method_2_code
def yX4_module : MethodName := ⟨RX4, "module", "(I)I"⟩
abbrev cX4_item : ByteArray := prog_1_method_3_code
def yX4_item : MethodName := ⟨RX4, "item", "(III)I"⟩
abbrev cX4_uses : ByteArray := prog_1_method_4_code
def yX4_uses : MethodName := ⟨RX4, "uses", "(II)I"⟩
abbrev cX4_deed : ByteArray := prog_1_method_5_code
def yX4_deed : MethodName := ⟨RX4, "deed", "(III)I"⟩
abbrev cX4_constant : ByteArray := prog_1_method_6_code
def yX4_constant : MethodName := ⟨RX4, "constant", "(IIIII)I"⟩
abbrev cX4_need : ByteArray := prog_1_method_7_code
def yX4_need : MethodName := ⟨RX4, "need", "(II)I"⟩
abbrev cX4_value : ByteArray := prog_1_method_8_code
def yX4_value : MethodName := ⟨RX4, "value", "()I"⟩
abbrev cX4_start : ByteArray := prog_1_method_9_code
def yX4_start : MethodName := ⟨RX4, "start", "(II)I"⟩
abbrev cX4_fault : ByteArray := prog_1_method_10_code
def yX4_fault : MethodName := ⟨RX4, "fault", "(I)I"⟩
abbrev cX4_state : ByteArray := prog_1_method_11_code
def yX4_state : MethodName := ⟨RX4, "state", "(II)I"⟩
abbrev cX4_kept : ByteArray := prog_1_method_12_code
def yX4_kept : MethodName := ⟨RX4, "kept", "(II)I"⟩
abbrev cX4_row : ByteArray := prog_1_method_13_code
def yX4_row : MethodName := ⟨RX4, "row", "(III)I"⟩
abbrev cX4_trace : ByteArray := prog_1_method_14_code
def yX4_trace : MethodName := ⟨RX4, "trace", "(II)I"⟩
abbrev cX4_forget : ByteArray := prog_1_method_15_code
def yX4_forget : MethodName := ⟨RX4, "forget", "(I)I"⟩
abbrev cX4_alike : ByteArray := prog_1_method_16_code
def yX4_alike : MethodName := ⟨RX4, "alike", "(I)I"⟩
abbrev cX4_told : ByteArray := prog_1_method_17_code
def yX4_told : MethodName := ⟨RX4, "told", "(I)I"⟩
abbrev cX4_loaderAt : ByteArray := prog_1_method_18_code
def yX4_loaderAt : MethodName := ⟨RX4, "loaderAt", "(I)LConstantStarts$Loader;"⟩
abbrev cX4_answer : ByteArray := prog_1_method_19_code
def yX4_answer : MethodName := ⟨RX4, "answer", "(LConstantStarts$Loader;Z)I"⟩
abbrev cX4_countWorked : ByteArray := prog_1_method_20_code
def yX4_countWorked : MethodName := ⟨RX4, "countWorked", "()I"⟩
abbrev cX4_needByNumbers : ByteArray := prog_1_method_21_code
def yX4_needByNumbers : MethodName := ⟨RX4, "needByNumbers", "()V"⟩
abbrev cX4_mixOrder : ByteArray := prog_1_method_22_code
def yX4_mixOrder : MethodName := ⟨RX4, "mixOrder", "(I)V"⟩
abbrev cX4_countUnlike : ByteArray := prog_1_method_23_code
def yX4_countUnlike : MethodName := ⟨RX4, "countUnlike", "()I"⟩
def RX5 : String := "ConstantStartsModel"
def TX5 : u_T := fun k => match k with
  | 0 => ("ConstantStartsModel", "modules", "I", false)
  | 1 => ("ConstantStartsModel", "size", "[I", true)
  | 2 => ("ConstantStartsModel", "told", "[I", true)
  | 3 => ("ConstantStartsModel", "usesMany", "[I", true)
  | 4 => ("ConstantStartsModel", "usesRow", "[I", true)
  | 5 => ("ConstantStartsModel", "deedMany", "[I", true)
  | 6 => ("ConstantStartsModel", "deedKind", "[I", true)
  | 7 => ("ConstantStartsModel", "deedNumber", "[I", true)
  | 8 => ("ConstantStartsModel", "constants", "I", false)
  | 9 => ("ConstantStartsModel", "home", "[I", true)
  | 10 => ("ConstantStartsModel", "kind", "[I", true)
  | 11 => ("ConstantStartsModel", "partA", "[I", true)
  | 12 => ("ConstantStartsModel", "partB", "[I", true)
  | 13 => ("ConstantStartsModel", "partC", "[I", true)
  | 14 => ("ConstantStartsModel", "state", "[I", true)
  | 15 => ("ConstantStartsModel", "items", "[I", true)
  | 16 => ("ConstantStartsModel", "how", "[I", true)
  | 17 => ("ConstantStartsModel", "outcome", "[I", true)
  | 18 => ("ConstantStartsModel", "keptNumber", "[I", true)
  | 19 => ("ConstantStartsModel", "keptCause", "[I", true)
  | 20 => ("ConstantStartsModel", "keptCauseNumber", "[I", true)
  | 21 => ("ConstantStartsModel", "trace", "[I", true)
  | 22 => ("ConstantStartsModel", "traced", "I", false)
  | 23 => ("ConstantStartsModel", "traces", "Z", false)
  | 24 => ("ConstantStartsModel", "worked", "I", false)
  | 25 => ("ConstantStartsModel", "asides", "I", false)
  | 26 => ("ConstantStartsModel", "latestValue", "I", false)
  | 27 => ("ConstantStartsModel", "latest", "[I", true)
  | 28 => ("ConstantStartsModel", "frameIs", "[I", true)
  | 29 => ("ConstantStartsModel", "frameOf", "[I", true)
  | 30 => ("ConstantStartsModel", "phase", "[I", true)
  | 31 => ("ConstantStartsModel", "had", "[I", true)
  | 32 => ("ConstantStartsModel", "depth", "I", false)
  | 33 => ("ConstantStartsModel", "value", "I", false)
  | 34 => ("ConstantStartsModel", "fault", "I", false)
  | 35 => ("ConstantStartsModel", "number", "I", false)
  | 36 => ("ConstantStartsModel", "cause", "I", false)
  | 37 => ("ConstantStartsModel", "causeNumber", "I", false)
  | 38 => ("ConstantStartsModel", "order", "[I", true)
  | 39 => ("ConstantStartsModel", "came", "[I", true)
  | _ => ("ConstantStartsModel", "cameValue", "[I", true)
def tyX5 : Nat → FieldType := fun k => match k with
  | 0 => .int
  | 1 => .array .int
  | 2 => .array .int
  | 3 => .array .int
  | 4 => .array .int
  | 5 => .array .int
  | 6 => .array .int
  | 7 => .array .int
  | 8 => .int
  | 9 => .array .int
  | 10 => .array .int
  | 11 => .array .int
  | 12 => .array .int
  | 13 => .array .int
  | 14 => .array .int
  | 15 => .array .int
  | 16 => .array .int
  | 17 => .array .int
  | 18 => .array .int
  | 19 => .array .int
  | 20 => .array .int
  | 21 => .array .int
  | 22 => .int
  | 23 => .boolean
  | 24 => .int
  | 25 => .int
  | 26 => .int
  | 27 => .array .int
  | 28 => .array .int
  | 29 => .array .int
  | 30 => .array .int
  | 31 => .array .int
  | 32 => .int
  | 33 => .int
  | 34 => .int
  | 35 => .int
  | 36 => .int
  | 37 => .int
  | 38 => .array .int
  | 39 => .array .int
  | _ => .array .int
abbrev wsX50 : List Cond := u_ws RX5 TX5 41
theorem nmX5 : ∀ a, a < 41 → ∀ b, b < 41 → a ≠ b → (TX5 a).2.1 ≠ (TX5 b).2.1 := by decide +kernel
theorem tyX5_ok : ∀ k, k < 41 → parseFieldDescriptor (TX5 k).2.2.1 = some (tyX5 k) := by decide +kernel
abbrev cX5_init : ByteArray := prog_7_method_1_code
def yX5_init : MethodName := ⟨RX5, "<init>", "()V"⟩
abbrev cX5_in : ByteArray := prog_7_method_2_code
def yX5_in : MethodName := ⟨RX5, "in", "(III)Z"⟩
abbrev cX5_isModule : ByteArray := prog_7_method_3_code
def yX5_isModule : MethodName := ⟨RX5, "isModule", "(I)Z"⟩
abbrev cX5_isLoader : ByteArray := prog_7_method_4_code
def yX5_isLoader : MethodName := ⟨RX5, "isLoader", "(I)Z"⟩
abbrev cX5_module : ByteArray := prog_7_method_5_code
def yX5_module : MethodName := ⟨RX5, "module", "(I)I"⟩
abbrev cX5_item : ByteArray := prog_7_method_6_code
def yX5_item : MethodName := ⟨RX5, "item", "(III)I"⟩
abbrev cX5_uses : ByteArray := prog_7_method_7_code
def yX5_uses : MethodName := ⟨RX5, "uses", "(II)I"⟩
abbrev cX5_deed : ByteArray := prog_7_method_8_code
def yX5_deed : MethodName := ⟨RX5, "deed", "(III)I"⟩
abbrev cX5_constant : ByteArray := prog_7_method_9_code
def yX5_constant : MethodName := ⟨RX5, "constant", "(IIIII)I"⟩
abbrev cX5_push : ByteArray := prog_7_method_10_code
def yX5_push : MethodName := ⟨RX5, "push", "(II)V"⟩
abbrev cX5_mark : ByteArray := prog_7_method_11_code
def yX5_mark : MethodName := ⟨RX5, "mark", "(II)V"⟩
abbrev cX5_fails : ByteArray := prog_7_method_12_code
def yX5_fails : MethodName := ⟨RX5, "fails", "(II)V"⟩
abbrev cX5_gives : ByteArray := prog_7_method_13_code
def yX5_gives : MethodName := ⟨RX5, "gives", "(I)V"⟩
abbrev cX5_runs : ByteArray := prog_7_method_14_code
def yX5_runs : MethodName := ⟨RX5, "runs", "(I)V"⟩
abbrev cX5_needs : ByteArray := prog_7_method_15_code
def yX5_needs : MethodName := ⟨RX5, "needs", "(II)V"⟩
abbrev cX5_looks : ByteArray := prog_7_method_16_code
def yX5_looks : MethodName := ⟨RX5, "looks", "(III)V"⟩
abbrev cX5_begins : ByteArray := prog_7_method_17_code
def yX5_begins : MethodName := ⟨RX5, "begins", "(II)V"⟩
abbrev cX5_ends : ByteArray := prog_7_method_18_code
def yX5_ends : MethodName := ⟨RX5, "ends", "(II)V"⟩
abbrev cX5_first : ByteArray := prog_7_method_19_code
def yX5_first : MethodName := ⟨RX5, "first", "(III)V"⟩
abbrev cX5_second : ByteArray := prog_7_method_20_code
def yX5_second : MethodName := ⟨RX5, "second", "(III)V"⟩
abbrev cX5_starts : ByteArray := prog_7_method_21_code
def yX5_starts : MethodName := ⟨RX5, "starts", "(II)V"⟩
abbrev cX5_deeds : ByteArray := prog_7_method_22_code
def yX5_deeds : MethodName := ⟨RX5, "deeds", "(III)V"⟩
abbrev cX5_breaks : ByteArray := prog_7_method_23_code
def yX5_breaks : MethodName := ⟨RX5, "breaks", "(II)V"⟩
abbrev cX5_answers : ByteArray := prog_7_method_24_code
def yX5_answers : MethodName := ⟨RX5, "answers", "()I"⟩
abbrev cX5_need : ByteArray := prog_7_method_25_code
def yX5_need : MethodName := ⟨RX5, "need", "(II)I"⟩
abbrev cX5_value : ByteArray := prog_7_method_26_code
def yX5_value : MethodName := ⟨RX5, "value", "()I"⟩
abbrev cX5_start : ByteArray := prog_7_method_27_code
def yX5_start : MethodName := ⟨RX5, "start", "(II)I"⟩
abbrev cX5_fault : ByteArray := prog_7_method_28_code
def yX5_fault : MethodName := ⟨RX5, "fault", "(I)I"⟩
abbrev cX5_state : ByteArray := prog_7_method_29_code
def yX5_state : MethodName := ⟨RX5, "state", "(II)I"⟩
abbrev cX5_kept : ByteArray := prog_7_method_30_code
def yX5_kept : MethodName := ⟨RX5, "kept", "(II)I"⟩
abbrev cX5_row : ByteArray := prog_7_method_31_code
def yX5_row : MethodName := ⟨RX5, "row", "(III)I"⟩
abbrev cX5_trace : ByteArray := prog_7_method_32_code
def yX5_trace : MethodName := ⟨RX5, "trace", "(II)I"⟩
abbrev cX5_empties : ByteArray := prog_7_method_33_code
def yX5_empties : MethodName := ⟨RX5, "empties", "(I)I"⟩
abbrev cX5_forget : ByteArray := prog_7_method_34_code
def yX5_forget : MethodName := ⟨RX5, "forget", "(I)I"⟩
abbrev cX5_alike : ByteArray := prog_7_method_35_code
def yX5_alike : MethodName := ⟨RX5, "alike", "(I)I"⟩
abbrev cX5_told : ByteArray := prog_7_method_36_code
def yX5_told : MethodName := ⟨RX5, "told", "(I)I"⟩
def RJ10 : String := "java/lang/System"
def TJ10 : u_T := fun k => match k with
  | _ => ("", "", "", false)
def tyJ10 : Nat → FieldType := fun k => match k with
  | _ => .int
abbrev wsJ100 : List Cond := u_ws RJ10 TJ10 0
theorem nmJ10 : ∀ a, a < 0 → ∀ b, b < 0 → a ≠ b → (TJ10 a).2.1 ≠ (TJ10 b).2.1 := by decide +kernel
theorem tyJ10_ok : ∀ k, k < 0 → parseFieldDescriptor (TJ10 k).2.2.1 = some (tyJ10 k) := by decide +kernel
def RL : String := "ConstantStartsLaw"
abbrev cL_law : ByteArray := code
def yL_law : MethodName := ⟨RL, "law", "([I)Z"⟩
abbrev vwCl : List vw_C := [(RX0, TX0, 8), (RX1, TX1, 5), (RX2, TX2, 14), (RX3, TX3, 3), (RX4, TX4, 10), (RX5, TX5, 41)]
end
section
theorem dX0_init_0 : decode cX0_init 0 = .ok (.aload_n 0, 1) := by decide +kernel
theorem dX0_init_1 : decode cX0_init 1 = .ok (.invokespecial 3, 3) := by decide +kernel
theorem dX0_init_4 : decode cX0_init 4 = .ok (.aload_n 0, 1) := by decide +kernel
theorem dX0_init_5 : decode cX0_init 5 = .ok (.bipush 12, 2) := by decide +kernel
theorem dX0_init_7 : decode cX0_init 7 = .ok (.newarray .int, 2) := by decide +kernel
theorem dX0_init_9 : decode cX0_init 9 = .ok (.putfield 9, 3) := by decide +kernel
theorem dX0_init_12 : decode cX0_init 12 = .ok (.aload_n 0, 1) := by decide +kernel
theorem dX0_init_13 : decode cX0_init 13 = .ok (.bipush 12, 2) := by decide +kernel
theorem dX0_init_15 : decode cX0_init 15 = .ok (.bipush 8, 2) := by decide +kernel
theorem dX0_init_17 : decode cX0_init 17 = .ok (.multianewarray 15 2, 4) := by decide +kernel
theorem dX0_init_21 : decode cX0_init 21 = .ok (.putfield 17, 3) := by decide +kernel
theorem dX0_init_24 : decode cX0_init 24 = .ok (.aload_n 0, 1) := by decide +kernel
theorem dX0_init_25 : decode cX0_init 25 = .ok (.bipush 40, 2) := by decide +kernel
theorem dX0_init_27 : decode cX0_init 27 = .ok (.newarray .int, 2) := by decide +kernel
theorem dX0_init_29 : decode cX0_init 29 = .ok (.putfield 20, 3) := by decide +kernel
theorem dX0_init_32 : decode cX0_init 32 = .ok (.aload_n 0, 1) := by decide +kernel
theorem dX0_init_33 : decode cX0_init 33 = .ok (.bipush 40, 2) := by decide +kernel
theorem dX0_init_35 : decode cX0_init 35 = .ok (.anewarray 23, 3) := by decide +kernel
theorem dX0_init_38 : decode cX0_init 38 = .ok (.putfield 25, 3) := by decide +kernel
theorem dX0_init_41 : decode cX0_init 41 = .ok (.aload_n 0, 1) := by decide +kernel
theorem dX0_init_42 : decode cX0_init 42 = .ok (.new 23, 3) := by decide +kernel
theorem dX0_init_45 : decode cX0_init 45 = .ok (.dup, 1) := by decide +kernel
theorem dX0_init_46 : decode cX0_init 46 = .ok (.invokespecial 29, 3) := by decide +kernel
theorem dX0_init_49 : decode cX0_init 49 = .ok (.putfield 30, 3) := by decide +kernel
theorem dX0_init_52 : decode cX0_init 52 = .ok (.aload_n 0, 1) := by decide +kernel
theorem dX0_init_53 : decode cX0_init 53 = .ok (.aload_n 1, 1) := by decide +kernel
theorem dX0_init_54 : decode cX0_init 54 = .ok (.putfield 34, 3) := by decide +kernel
theorem dX0_init_57 : decode cX0_init 57 = .ok (.aload_n 0, 1) := by decide +kernel
theorem dX0_init_58 : decode cX0_init 58 = .ok (.aload_n 2, 1) := by decide +kernel
theorem dX0_init_59 : decode cX0_init 59 = .ok (.putfield 38, 3) := by decide +kernel
theorem dX0_init_62 : decode cX0_init 62 = .ok (.iconst 0, 1) := by decide +kernel
theorem dX0_init_63 : decode cX0_init 63 = .ok (.istore_n 3, 1) := by decide +kernel
theorem dX0_init_64 : decode cX0_init 64 = .ok (.iload_n 3, 1) := by decide +kernel
theorem dX0_init_65 : decode cX0_init 65 = .ok (.bipush 40, 2) := by decide +kernel
theorem dX0_init_67 : decode cX0_init 67 = .ok (.if_icmp .ge 22, 3) := by decide +kernel
theorem dX0_init_70 : decode cX0_init 70 = .ok (.aload_n 0, 1) := by decide +kernel
theorem dX0_init_71 : decode cX0_init 71 = .ok (.getfield 25, 3) := by decide +kernel
theorem dX0_init_74 : decode cX0_init 74 = .ok (.iload_n 3, 1) := by decide +kernel
theorem dX0_init_75 : decode cX0_init 75 = .ok (.new 23, 3) := by decide +kernel
theorem dX0_init_78 : decode cX0_init 78 = .ok (.dup, 1) := by decide +kernel
theorem dX0_init_79 : decode cX0_init 79 = .ok (.invokespecial 29, 3) := by decide +kernel
theorem dX0_init_82 : decode cX0_init 82 = .ok (.aastore, 1) := by decide +kernel
theorem dX0_init_83 : decode cX0_init 83 = .ok (.iinc 3 1, 3) := by decide +kernel
theorem dX0_init_86 : decode cX0_init 86 = .ok (.goto (-22), 3) := by decide +kernel
theorem dX0_init_89 : decode cX0_init 89 = .ok (.return_, 1) := by decide +kernel
theorem dX0_clear_0 : decode cX0_clear 0 = .ok (.iconst 0, 1) := by decide +kernel
theorem dX0_clear_1 : decode cX0_clear 1 = .ok (.istore_n 1, 1) := by decide +kernel
theorem dX0_clear_2 : decode cX0_clear 2 = .ok (.iload_n 1, 1) := by decide +kernel
theorem dX0_clear_3 : decode cX0_clear 3 = .ok (.bipush 12, 2) := by decide +kernel
theorem dX0_clear_5 : decode cX0_clear 5 = .ok (.if_icmp .ge 16, 3) := by decide +kernel
theorem dX0_clear_8 : decode cX0_clear 8 = .ok (.aload_n 0, 1) := by decide +kernel
theorem dX0_clear_9 : decode cX0_clear 9 = .ok (.getfield 9, 3) := by decide +kernel
theorem dX0_clear_12 : decode cX0_clear 12 = .ok (.iload_n 1, 1) := by decide +kernel
theorem dX0_clear_13 : decode cX0_clear 13 = .ok (.iconst 0, 1) := by decide +kernel
theorem dX0_clear_14 : decode cX0_clear 14 = .ok (.iastore, 1) := by decide +kernel
theorem dX0_clear_15 : decode cX0_clear 15 = .ok (.iinc 1 1, 3) := by decide +kernel
theorem dX0_clear_18 : decode cX0_clear 18 = .ok (.goto (-16), 3) := by decide +kernel
theorem dX0_clear_21 : decode cX0_clear 21 = .ok (.iconst 0, 1) := by decide +kernel
theorem dX0_clear_22 : decode cX0_clear 22 = .ok (.istore_n 1, 1) := by decide +kernel
theorem dX0_clear_23 : decode cX0_clear 23 = .ok (.iload_n 1, 1) := by decide +kernel
theorem dX0_clear_24 : decode cX0_clear 24 = .ok (.bipush 40, 2) := by decide +kernel
theorem dX0_clear_26 : decode cX0_clear 26 = .ok (.if_icmp .ge 16, 3) := by decide +kernel
theorem dX0_clear_29 : decode cX0_clear 29 = .ok (.aload_n 0, 1) := by decide +kernel
theorem dX0_clear_30 : decode cX0_clear 30 = .ok (.getfield 20, 3) := by decide +kernel
theorem dX0_clear_33 : decode cX0_clear 33 = .ok (.iload_n 1, 1) := by decide +kernel
theorem dX0_clear_34 : decode cX0_clear 34 = .ok (.iconst 0, 1) := by decide +kernel
theorem dX0_clear_35 : decode cX0_clear 35 = .ok (.iastore, 1) := by decide +kernel
theorem dX0_clear_36 : decode cX0_clear 36 = .ok (.iinc 1 1, 3) := by decide +kernel
theorem dX0_clear_39 : decode cX0_clear 39 = .ok (.goto (-16), 3) := by decide +kernel
theorem dX0_clear_42 : decode cX0_clear 42 = .ok (.return_, 1) := by decide +kernel
theorem dX0_countEnded_0 : decode cX0_countEnded 0 = .ok (.iconst 0, 1) := by decide +kernel
theorem dX0_countEnded_1 : decode cX0_countEnded 1 = .ok (.istore_n 1, 1) := by decide +kernel
theorem dX0_countEnded_2 : decode cX0_countEnded 2 = .ok (.iconst 0, 1) := by decide +kernel
theorem dX0_countEnded_3 : decode cX0_countEnded 3 = .ok (.istore_n 2, 1) := by decide +kernel
theorem dX0_countEnded_4 : decode cX0_countEnded 4 = .ok (.iload_n 2, 1) := by decide +kernel
theorem dX0_countEnded_5 : decode cX0_countEnded 5 = .ok (.bipush 12, 2) := by decide +kernel
theorem dX0_countEnded_7 : decode cX0_countEnded 7 = .ok (.if_icmp .ge 32, 3) := by decide +kernel
theorem dX0_countEnded_10 : decode cX0_countEnded 10 = .ok (.aload_n 0, 1) := by decide +kernel
theorem dX0_countEnded_11 : decode cX0_countEnded 11 = .ok (.getfield 9, 3) := by decide +kernel
theorem dX0_countEnded_14 : decode cX0_countEnded 14 = .ok (.iload_n 2, 1) := by decide +kernel
theorem dX0_countEnded_15 : decode cX0_countEnded 15 = .ok (.iaload, 1) := by decide +kernel
theorem dX0_countEnded_16 : decode cX0_countEnded 16 = .ok (.iconst 1, 1) := by decide +kernel
theorem dX0_countEnded_17 : decode cX0_countEnded 17 = .ok (.if_icmp .eq 13, 3) := by decide +kernel
theorem dX0_countEnded_20 : decode cX0_countEnded 20 = .ok (.aload_n 0, 1) := by decide +kernel
theorem dX0_countEnded_21 : decode cX0_countEnded 21 = .ok (.getfield 9, 3) := by decide +kernel
theorem dX0_countEnded_24 : decode cX0_countEnded 24 = .ok (.iload_n 2, 1) := by decide +kernel
theorem dX0_countEnded_25 : decode cX0_countEnded 25 = .ok (.iaload, 1) := by decide +kernel
theorem dX0_countEnded_26 : decode cX0_countEnded 26 = .ok (.iconst 3, 1) := by decide +kernel
theorem dX0_countEnded_27 : decode cX0_countEnded 27 = .ok (.if_icmp .ne 6, 3) := by decide +kernel
theorem dX0_countEnded_30 : decode cX0_countEnded 30 = .ok (.iinc 1 1, 3) := by decide +kernel
theorem dX0_countEnded_33 : decode cX0_countEnded 33 = .ok (.iinc 2 1, 3) := by decide +kernel
theorem dX0_countEnded_36 : decode cX0_countEnded 36 = .ok (.goto (-32), 3) := by decide +kernel
theorem dX0_countEnded_39 : decode cX0_countEnded 39 = .ok (.iload_n 1, 1) := by decide +kernel
theorem dX0_countEnded_40 : decode cX0_countEnded 40 = .ok (.ireturn, 1) := by decide +kernel
theorem dX0_tellKept_0 : decode cX0_tellKept 0 = .ok (.aload_n 0, 1) := by decide +kernel
theorem dX0_tellKept_1 : decode cX0_tellKept 1 = .ok (.getfield 20, 3) := by decide +kernel
theorem dX0_tellKept_4 : decode cX0_tellKept 4 = .ok (.iload_n 1, 1) := by decide +kernel
theorem dX0_tellKept_5 : decode cX0_tellKept 5 = .ok (.iaload, 1) := by decide +kernel
theorem dX0_tellKept_6 : decode cX0_tellKept 6 = .ok (.iconst 2, 1) := by decide +kernel
theorem dX0_tellKept_7 : decode cX0_tellKept 7 = .ok (.if_icmp .eq 5, 3) := by decide +kernel
theorem dX0_tellKept_10 : decode cX0_tellKept 10 = .ok (.iconst 0, 1) := by decide +kernel
theorem dX0_tellKept_11 : decode cX0_tellKept 11 = .ok (.ireturn, 1) := by decide +kernel
theorem dX0_tellKept_12 : decode cX0_tellKept 12 = .ok (.aload_n 0, 1) := by decide +kernel
theorem dX0_tellKept_13 : decode cX0_tellKept 13 = .ok (.getfield 25, 3) := by decide +kernel
theorem dX0_tellKept_16 : decode cX0_tellKept 16 = .ok (.iload_n 1, 1) := by decide +kernel
theorem dX0_tellKept_17 : decode cX0_tellKept 17 = .ok (.aaload, 1) := by decide +kernel
theorem dX0_tellKept_18 : decode cX0_tellKept 18 = .ok (.getfield 42, 3) := by decide +kernel
theorem dX0_tellKept_21 : decode cX0_tellKept 21 = .ok (.istore_n 2, 1) := by decide +kernel
theorem dX0_tellKept_22 : decode cX0_tellKept 22 = .ok (.iload_n 2, 1) := by decide +kernel
theorem dX0_tellKept_23 : decode cX0_tellKept 23 = .ok (.ifCond .ne 7, 3) := by decide +kernel
theorem dX0_tellKept_26 : decode cX0_tellKept 26 = .ok (.iconst 1, 1) := by decide +kernel
theorem dX0_tellKept_27 : decode cX0_tellKept 27 = .ok (.goto 7, 3) := by decide +kernel
theorem dX0_tellKept_30 : decode cX0_tellKept 30 = .ok (.bipush 10, 2) := by decide +kernel
theorem dX0_tellKept_32 : decode cX0_tellKept 32 = .ok (.iload_n 2, 1) := by decide +kernel
theorem dX0_tellKept_33 : decode cX0_tellKept 33 = .ok (.iadd, 1) := by decide +kernel
theorem dX0_tellKept_34 : decode cX0_tellKept 34 = .ok (.ireturn, 1) := by decide +kernel
theorem dX0_tellItem_0 : decode cX0_tellItem 0 = .ok (.aload_n 0, 1) := by decide +kernel
theorem dX0_tellItem_1 : decode cX0_tellItem 1 = .ok (.getfield 9, 3) := by decide +kernel
theorem dX0_tellItem_4 : decode cX0_tellItem 4 = .ok (.iload_n 1, 1) := by decide +kernel
theorem dX0_tellItem_5 : decode cX0_tellItem 5 = .ok (.iaload, 1) := by decide +kernel
theorem dX0_tellItem_6 : decode cX0_tellItem 6 = .ok (.ifCond .ne 17, 3) := by decide +kernel
theorem dX0_tellItem_9 : decode cX0_tellItem 9 = .ok (.aload_n 0, 1) := by decide +kernel
theorem dX0_tellItem_10 : decode cX0_tellItem 10 = .ok (.getfield 34, 3) := by decide +kernel
theorem dX0_tellItem_13 : decode cX0_tellItem 13 = .ok (.getfield 46, 3) := by decide +kernel
theorem dX0_tellItem_16 : decode cX0_tellItem 16 = .ok (.iload_n 1, 1) := by decide +kernel
theorem dX0_tellItem_17 : decode cX0_tellItem 17 = .ok (.aaload, 1) := by decide +kernel
theorem dX0_tellItem_18 : decode cX0_tellItem 18 = .ok (.iload_n 2, 1) := by decide +kernel
theorem dX0_tellItem_19 : decode cX0_tellItem 19 = .ok (.iaload, 1) := by decide +kernel
theorem dX0_tellItem_20 : decode cX0_tellItem 20 = .ok (.goto 11, 3) := by decide +kernel
theorem dX0_tellItem_23 : decode cX0_tellItem 23 = .ok (.aload_n 0, 1) := by decide +kernel
theorem dX0_tellItem_24 : decode cX0_tellItem 24 = .ok (.getfield 17, 3) := by decide +kernel
theorem dX0_tellItem_27 : decode cX0_tellItem 27 = .ok (.iload_n 1, 1) := by decide +kernel
theorem dX0_tellItem_28 : decode cX0_tellItem 28 = .ok (.aaload, 1) := by decide +kernel
theorem dX0_tellItem_29 : decode cX0_tellItem 29 = .ok (.iload_n 2, 1) := by decide +kernel
theorem dX0_tellItem_30 : decode cX0_tellItem 30 = .ok (.iaload, 1) := by decide +kernel
theorem dX0_tellItem_31 : decode cX0_tellItem 31 = .ok (.ireturn, 1) := by decide +kernel
theorem dX0_obtain_0 : decode cX0_obtain 0 = .ok (.aload_n 0, 1) := by decide +kernel
theorem dX0_obtain_1 : decode cX0_obtain 1 = .ok (.getfield 34, 3) := by decide +kernel
theorem dX0_obtain_4 : decode cX0_obtain 4 = .ok (.iload_n 1, 1) := by decide +kernel
theorem dX0_obtain_5 : decode cX0_obtain 5 = .ok (.invokevirtual 51, 3) := by decide +kernel
theorem dX0_obtain_8 : decode cX0_obtain 8 = .ok (.ifCond .ne 14, 3) := by decide +kernel
theorem dX0_obtain_11 : decode cX0_obtain 11 = .ok (.aload_n 0, 1) := by decide +kernel
theorem dX0_obtain_12 : decode cX0_obtain 12 = .ok (.getfield 30, 3) := by decide +kernel
theorem dX0_obtain_15 : decode cX0_obtain 15 = .ok (.bipush 8, 2) := by decide +kernel
theorem dX0_obtain_17 : decode cX0_obtain 17 = .ok (.iload_n 1, 1) := by decide +kernel
theorem dX0_obtain_18 : decode cX0_obtain 18 = .ok (.invokevirtual 55, 3) := by decide +kernel
theorem dX0_obtain_21 : decode cX0_obtain 21 = .ok (.ireturn, 1) := by decide +kernel
theorem dX0_obtain_22 : decode cX0_obtain 22 = .ok (.aload_n 0, 1) := by decide +kernel
theorem dX0_obtain_23 : decode cX0_obtain 23 = .ok (.aload_n 0, 1) := by decide +kernel
theorem dX0_obtain_24 : decode cX0_obtain 24 = .ok (.getfield 34, 3) := by decide +kernel
theorem dX0_obtain_27 : decode cX0_obtain 27 = .ok (.getfield 59, 3) := by decide +kernel
theorem dX0_obtain_30 : decode cX0_obtain 30 = .ok (.iload_n 1, 1) := by decide +kernel
theorem dX0_obtain_31 : decode cX0_obtain 31 = .ok (.iaload, 1) := by decide +kernel
theorem dX0_obtain_32 : decode cX0_obtain 32 = .ok (.iload_n 2, 1) := by decide +kernel
theorem dX0_obtain_33 : decode cX0_obtain 33 = .ok (.iconst 1, 1) := by decide +kernel
theorem dX0_obtain_34 : decode cX0_obtain 34 = .ok (.iadd, 1) := by decide +kernel
theorem dX0_obtain_35 : decode cX0_obtain 35 = .ok (.invokevirtual 62, 3) := by decide +kernel
theorem dX0_obtain_38 : decode cX0_obtain 38 = .ok (.ifCond .ne 5, 3) := by decide +kernel
theorem dX0_obtain_41 : decode cX0_obtain 41 = .ok (.iconst 0, 1) := by decide +kernel
theorem dX0_obtain_42 : decode cX0_obtain 42 = .ok (.ireturn, 1) := by decide +kernel
theorem dX0_obtain_43 : decode cX0_obtain 43 = .ok (.aload_n 0, 1) := by decide +kernel
theorem dX0_obtain_44 : decode cX0_obtain 44 = .ok (.getfield 20, 3) := by decide +kernel
theorem dX0_obtain_47 : decode cX0_obtain 47 = .ok (.iload_n 1, 1) := by decide +kernel
theorem dX0_obtain_48 : decode cX0_obtain 48 = .ok (.iaload, 1) := by decide +kernel
theorem dX0_obtain_49 : decode cX0_obtain 49 = .ok (.iconst 2, 1) := by decide +kernel
theorem dX0_obtain_50 : decode cX0_obtain 50 = .ok (.if_icmp .ne 32, 3) := by decide +kernel
theorem dX0_obtain_53 : decode cX0_obtain 53 = .ok (.aload_n 0, 1) := by decide +kernel
theorem dX0_obtain_54 : decode cX0_obtain 54 = .ok (.getfield 30, 3) := by decide +kernel
theorem dX0_obtain_57 : decode cX0_obtain 57 = .ok (.aload_n 0, 1) := by decide +kernel
theorem dX0_obtain_58 : decode cX0_obtain 58 = .ok (.getfield 25, 3) := by decide +kernel
theorem dX0_obtain_61 : decode cX0_obtain 61 = .ok (.iload_n 1, 1) := by decide +kernel
theorem dX0_obtain_62 : decode cX0_obtain 62 = .ok (.aaload, 1) := by decide +kernel
theorem dX0_obtain_63 : decode cX0_obtain 63 = .ok (.invokevirtual 65, 3) := by decide +kernel
theorem dX0_obtain_66 : decode cX0_obtain 66 = .ok (.aload_n 0, 1) := by decide +kernel
theorem dX0_obtain_67 : decode cX0_obtain 67 = .ok (.getfield 30, 3) := by decide +kernel
theorem dX0_obtain_70 : decode cX0_obtain 70 = .ok (.getfield 42, 3) := by decide +kernel
theorem dX0_obtain_73 : decode cX0_obtain 73 = .ok (.ifCond .ne 7, 3) := by decide +kernel
theorem dX0_obtain_76 : decode cX0_obtain 76 = .ok (.iconst 1, 1) := by decide +kernel
theorem dX0_obtain_77 : decode cX0_obtain 77 = .ok (.goto 4, 3) := by decide +kernel
theorem dX0_obtain_80 : decode cX0_obtain 80 = .ok (.iconst 0, 1) := by decide +kernel
theorem dX0_obtain_81 : decode cX0_obtain 81 = .ok (.ireturn, 1) := by decide +kernel
theorem dX0_obtain_82 : decode cX0_obtain 82 = .ok (.aload_n 0, 1) := by decide +kernel
theorem dX0_obtain_83 : decode cX0_obtain 83 = .ok (.getfield 20, 3) := by decide +kernel
theorem dX0_obtain_86 : decode cX0_obtain 86 = .ok (.iload_n 1, 1) := by decide +kernel
theorem dX0_obtain_87 : decode cX0_obtain 87 = .ok (.iaload, 1) := by decide +kernel
theorem dX0_obtain_88 : decode cX0_obtain 88 = .ok (.iconst 1, 1) := by decide +kernel
theorem dX0_obtain_89 : decode cX0_obtain 89 = .ok (.if_icmp .eq 9, 3) := by decide +kernel
theorem dX0_obtain_92 : decode cX0_obtain 92 = .ok (.iload_n 2, 1) := by decide +kernel
theorem dX0_obtain_93 : decode cX0_obtain 93 = .ok (.bipush 66, 2) := by decide +kernel
theorem dX0_obtain_95 : decode cX0_obtain 95 = .ok (.if_icmp .le 13, 3) := by decide +kernel
theorem dX0_obtain_98 : decode cX0_obtain 98 = .ok (.aload_n 0, 1) := by decide +kernel
theorem dX0_obtain_99 : decode cX0_obtain 99 = .ok (.getfield 30, 3) := by decide +kernel
theorem dX0_obtain_102 : decode cX0_obtain 102 = .ok (.iconst 4, 1) := by decide +kernel
theorem dX0_obtain_103 : decode cX0_obtain 103 = .ok (.iload_n 1, 1) := by decide +kernel
theorem dX0_obtain_104 : decode cX0_obtain 104 = .ok (.invokevirtual 55, 3) := by decide +kernel
theorem dX0_obtain_107 : decode cX0_obtain 107 = .ok (.ireturn, 1) := by decide +kernel
theorem dX0_obtain_108 : decode cX0_obtain 108 = .ok (.aload_n 0, 1) := by decide +kernel
theorem dX0_obtain_109 : decode cX0_obtain 109 = .ok (.iload_n 1, 1) := by decide +kernel
theorem dX0_obtain_110 : decode cX0_obtain 110 = .ok (.iload_n 2, 1) := by decide +kernel
theorem dX0_obtain_111 : decode cX0_obtain 111 = .ok (.invokevirtual 69, 3) := by decide +kernel
theorem dX0_obtain_114 : decode cX0_obtain 114 = .ok (.ireturn, 1) := by decide +kernel
theorem dX0_work_0 : decode cX0_work 0 = .ok (.aload_n 0, 1) := by decide +kernel
theorem dX0_work_1 : decode cX0_work 1 = .ok (.getfield 20, 3) := by decide +kernel
theorem dX0_work_4 : decode cX0_work 4 = .ok (.iload_n 1, 1) := by decide +kernel
theorem dX0_work_5 : decode cX0_work 5 = .ok (.iconst 1, 1) := by decide +kernel
theorem dX0_work_6 : decode cX0_work 6 = .ok (.iastore, 1) := by decide +kernel
theorem dX0_work_7 : decode cX0_work 7 = .ok (.aload_n 0, 1) := by decide +kernel
theorem dX0_work_8 : decode cX0_work 8 = .ok (.dup, 1) := by decide +kernel
theorem dX0_work_9 : decode cX0_work 9 = .ok (.getfield 72, 3) := by decide +kernel
theorem dX0_work_12 : decode cX0_work 12 = .ok (.iconst 1, 1) := by decide +kernel
theorem dX0_work_13 : decode cX0_work 13 = .ok (.iadd, 1) := by decide +kernel
theorem dX0_work_14 : decode cX0_work 14 = .ok (.putfield 72, 3) := by decide +kernel
theorem dX0_work_17 : decode cX0_work 17 = .ok (.aload_n 0, 1) := by decide +kernel
theorem dX0_work_18 : decode cX0_work 18 = .ok (.getfield 38, 3) := by decide +kernel
theorem dX0_work_21 : decode cX0_work 21 = .ok (.iconst 3, 1) := by decide +kernel
theorem dX0_work_22 : decode cX0_work 22 = .ok (.iload_n 1, 1) := by decide +kernel
theorem dX0_work_23 : decode cX0_work 23 = .ok (.invokevirtual 75, 3) := by decide +kernel
theorem dX0_work_26 : decode cX0_work 26 = .ok (.aload_n 0, 1) := by decide +kernel
theorem dX0_work_27 : decode cX0_work 27 = .ok (.iload_n 1, 1) := by decide +kernel
theorem dX0_work_28 : decode cX0_work 28 = .ok (.iload_n 2, 1) := by decide +kernel
theorem dX0_work_29 : decode cX0_work 29 = .ok (.iconst 1, 1) := by decide +kernel
theorem dX0_work_30 : decode cX0_work 30 = .ok (.iadd, 1) := by decide +kernel
theorem dX0_work_31 : decode cX0_work 31 = .ok (.invokevirtual 81, 3) := by decide +kernel
theorem dX0_work_34 : decode cX0_work 34 = .ok (.istore_n 3, 1) := by decide +kernel
theorem dX0_work_35 : decode cX0_work 35 = .ok (.aload_n 0, 1) := by decide +kernel
theorem dX0_work_36 : decode cX0_work 36 = .ok (.getfield 25, 3) := by decide +kernel
theorem dX0_work_39 : decode cX0_work 39 = .ok (.iload_n 1, 1) := by decide +kernel
theorem dX0_work_40 : decode cX0_work 40 = .ok (.aaload, 1) := by decide +kernel
theorem dX0_work_41 : decode cX0_work 41 = .ok (.aload_n 0, 1) := by decide +kernel
theorem dX0_work_42 : decode cX0_work 42 = .ok (.getfield 30, 3) := by decide +kernel
theorem dX0_work_45 : decode cX0_work 45 = .ok (.invokevirtual 65, 3) := by decide +kernel
theorem dX0_work_48 : decode cX0_work 48 = .ok (.aload_n 0, 1) := by decide +kernel
theorem dX0_work_49 : decode cX0_work 49 = .ok (.getfield 20, 3) := by decide +kernel
theorem dX0_work_52 : decode cX0_work 52 = .ok (.iload_n 1, 1) := by decide +kernel
theorem dX0_work_53 : decode cX0_work 53 = .ok (.iconst 2, 1) := by decide +kernel
theorem dX0_work_54 : decode cX0_work 54 = .ok (.iastore, 1) := by decide +kernel
theorem dX0_work_55 : decode cX0_work 55 = .ok (.aload_n 0, 1) := by decide +kernel
theorem dX0_work_56 : decode cX0_work 56 = .ok (.getfield 38, 3) := by decide +kernel
theorem dX0_work_59 : decode cX0_work 59 = .ok (.iload_n 3, 1) := by decide +kernel
theorem dX0_work_60 : decode cX0_work 60 = .ok (.ifCond .eq 7, 3) := by decide +kernel
theorem dX0_work_63 : decode cX0_work 63 = .ok (.iconst 4, 1) := by decide +kernel
theorem dX0_work_64 : decode cX0_work 64 = .ok (.goto 4, 3) := by decide +kernel
theorem dX0_work_67 : decode cX0_work 67 = .ok (.iconst 5, 1) := by decide +kernel
theorem dX0_work_68 : decode cX0_work 68 = .ok (.iload_n 1, 1) := by decide +kernel
theorem dX0_work_69 : decode cX0_work 69 = .ok (.invokevirtual 75, 3) := by decide +kernel
theorem dX0_work_72 : decode cX0_work 72 = .ok (.iload_n 3, 1) := by decide +kernel
theorem dX0_work_73 : decode cX0_work 73 = .ok (.ireturn, 1) := by decide +kernel
theorem dX0_reckon_0 : decode cX0_reckon 0 = .ok (.aload_n 0, 1) := by decide +kernel
theorem dX0_reckon_1 : decode cX0_reckon 1 = .ok (.getfield 34, 3) := by decide +kernel
theorem dX0_reckon_4 : decode cX0_reckon 4 = .ok (.getfield 84, 3) := by decide +kernel
theorem dX0_reckon_7 : decode cX0_reckon 7 = .ok (.iload_n 1, 1) := by decide +kernel
theorem dX0_reckon_8 : decode cX0_reckon 8 = .ok (.iaload, 1) := by decide +kernel
theorem dX0_reckon_9 : decode cX0_reckon 9 = .ok (.istore_n 3, 1) := by decide +kernel
theorem dX0_reckon_10 : decode cX0_reckon 10 = .ok (.aload_n 0, 1) := by decide +kernel
theorem dX0_reckon_11 : decode cX0_reckon 11 = .ok (.getfield 34, 3) := by decide +kernel
theorem dX0_reckon_14 : decode cX0_reckon 14 = .ok (.getfield 87, 3) := by decide +kernel
theorem dX0_reckon_17 : decode cX0_reckon 17 = .ok (.iload_n 1, 1) := by decide +kernel
theorem dX0_reckon_18 : decode cX0_reckon 18 = .ok (.iaload, 1) := by decide +kernel
theorem dX0_reckon_19 : decode cX0_reckon 19 = .ok (.istore 4, 2) := by decide +kernel
theorem dX0_reckon_21 : decode cX0_reckon 21 = .ok (.aload_n 0, 1) := by decide +kernel
theorem dX0_reckon_22 : decode cX0_reckon 22 = .ok (.getfield 34, 3) := by decide +kernel
theorem dX0_reckon_25 : decode cX0_reckon 25 = .ok (.getfield 90, 3) := by decide +kernel
theorem dX0_reckon_28 : decode cX0_reckon 28 = .ok (.iload_n 1, 1) := by decide +kernel
theorem dX0_reckon_29 : decode cX0_reckon 29 = .ok (.iaload, 1) := by decide +kernel
theorem dX0_reckon_30 : decode cX0_reckon 30 = .ok (.tableswitch 332 0 11 #[62, 71, 106, 115, 124, 162, 332, 189, 236, 250, 266, 292], 62) := by decide +kernel
theorem dX0_reckon_92 : decode cX0_reckon 92 = .ok (.aload_n 0, 1) := by decide +kernel
theorem dX0_reckon_93 : decode cX0_reckon 93 = .ok (.getfield 30, 3) := by decide +kernel
theorem dX0_reckon_96 : decode cX0_reckon 96 = .ok (.iload_n 3, 1) := by decide +kernel
theorem dX0_reckon_97 : decode cX0_reckon 97 = .ok (.invokevirtual 93, 3) := by decide +kernel
theorem dX0_reckon_100 : decode cX0_reckon 100 = .ok (.ireturn, 1) := by decide +kernel
theorem dX0_reckon_101 : decode cX0_reckon 101 = .ok (.aload_n 0, 1) := by decide +kernel
theorem dX0_reckon_102 : decode cX0_reckon 102 = .ok (.iload_n 3, 1) := by decide +kernel
theorem dX0_reckon_103 : decode cX0_reckon 103 = .ok (.iload_n 2, 1) := by decide +kernel
theorem dX0_reckon_104 : decode cX0_reckon 104 = .ok (.invokevirtual 96, 3) := by decide +kernel
theorem dX0_reckon_107 : decode cX0_reckon 107 = .ok (.ifCond .eq 27, 3) := by decide +kernel
theorem dX0_reckon_110 : decode cX0_reckon 110 = .ok (.aload_n 0, 1) := by decide +kernel
theorem dX0_reckon_111 : decode cX0_reckon 111 = .ok (.getfield 30, 3) := by decide +kernel
theorem dX0_reckon_114 : decode cX0_reckon 114 = .ok (.aload_n 0, 1) := by decide +kernel
theorem dX0_reckon_115 : decode cX0_reckon 115 = .ok (.getfield 30, 3) := by decide +kernel
theorem dX0_reckon_118 : decode cX0_reckon 118 = .ok (.getfield 99, 3) := by decide +kernel
theorem dX0_reckon_121 : decode cX0_reckon 121 = .ok (.iload 4, 2) := by decide +kernel
theorem dX0_reckon_123 : decode cX0_reckon 123 = .ok (.iadd, 1) := by decide +kernel
theorem dX0_reckon_124 : decode cX0_reckon 124 = .ok (.invokevirtual 93, 3) := by decide +kernel
theorem dX0_reckon_127 : decode cX0_reckon 127 = .ok (.ifCond .eq 7, 3) := by decide +kernel
theorem dX0_reckon_130 : decode cX0_reckon 130 = .ok (.iconst 1, 1) := by decide +kernel
theorem dX0_reckon_131 : decode cX0_reckon 131 = .ok (.goto 4, 3) := by decide +kernel
theorem dX0_reckon_134 : decode cX0_reckon 134 = .ok (.iconst 0, 1) := by decide +kernel
theorem dX0_reckon_135 : decode cX0_reckon 135 = .ok (.ireturn, 1) := by decide +kernel
theorem dX0_reckon_136 : decode cX0_reckon 136 = .ok (.aload_n 0, 1) := by decide +kernel
theorem dX0_reckon_137 : decode cX0_reckon 137 = .ok (.iload_n 3, 1) := by decide +kernel
theorem dX0_reckon_138 : decode cX0_reckon 138 = .ok (.iload 4, 2) := by decide +kernel
theorem dX0_reckon_140 : decode cX0_reckon 140 = .ok (.iload_n 2, 1) := by decide +kernel
theorem dX0_reckon_141 : decode cX0_reckon 141 = .ok (.invokevirtual 102, 3) := by decide +kernel
theorem dX0_reckon_144 : decode cX0_reckon 144 = .ok (.ireturn, 1) := by decide +kernel
theorem dX0_reckon_145 : decode cX0_reckon 145 = .ok (.aload_n 0, 1) := by decide +kernel
theorem dX0_reckon_146 : decode cX0_reckon 146 = .ok (.iload_n 3, 1) := by decide +kernel
theorem dX0_reckon_147 : decode cX0_reckon 147 = .ok (.iload 4, 2) := by decide +kernel
theorem dX0_reckon_149 : decode cX0_reckon 149 = .ok (.iload_n 2, 1) := by decide +kernel
theorem dX0_reckon_150 : decode cX0_reckon 150 = .ok (.invokevirtual 106, 3) := by decide +kernel
theorem dX0_reckon_153 : decode cX0_reckon 153 = .ok (.ireturn, 1) := by decide +kernel
theorem dX0_reckon_154 : decode cX0_reckon 154 = .ok (.aload_n 0, 1) := by decide +kernel
theorem dX0_reckon_155 : decode cX0_reckon 155 = .ok (.iload_n 3, 1) := by decide +kernel
theorem dX0_reckon_156 : decode cX0_reckon 156 = .ok (.iload_n 2, 1) := by decide +kernel
theorem dX0_reckon_157 : decode cX0_reckon 157 = .ok (.invokevirtual 96, 3) := by decide +kernel
theorem dX0_reckon_160 : decode cX0_reckon 160 = .ok (.ifCond .eq 30, 3) := by decide +kernel
theorem dX0_reckon_163 : decode cX0_reckon 163 = .ok (.aload_n 0, 1) := by decide +kernel
theorem dX0_reckon_164 : decode cX0_reckon 164 = .ok (.aload_n 0, 1) := by decide +kernel
theorem dX0_reckon_165 : decode cX0_reckon 165 = .ok (.getfield 34, 3) := by decide +kernel
theorem dX0_reckon_168 : decode cX0_reckon 168 = .ok (.getfield 59, 3) := by decide +kernel
theorem dX0_reckon_171 : decode cX0_reckon 171 = .ok (.iload_n 1, 1) := by decide +kernel
theorem dX0_reckon_172 : decode cX0_reckon 172 = .ok (.iaload, 1) := by decide +kernel
theorem dX0_reckon_173 : decode cX0_reckon 173 = .ok (.aload_n 0, 1) := by decide +kernel
theorem dX0_reckon_174 : decode cX0_reckon 174 = .ok (.getfield 30, 3) := by decide +kernel
theorem dX0_reckon_177 : decode cX0_reckon 177 = .ok (.getfield 99, 3) := by decide +kernel
theorem dX0_reckon_180 : decode cX0_reckon 180 = .ok (.invokevirtual 109, 3) := by decide +kernel
theorem dX0_reckon_183 : decode cX0_reckon 183 = .ok (.ifCond .eq 7, 3) := by decide +kernel
theorem dX0_reckon_186 : decode cX0_reckon 186 = .ok (.iconst 1, 1) := by decide +kernel
theorem dX0_reckon_187 : decode cX0_reckon 187 = .ok (.goto 4, 3) := by decide +kernel
theorem dX0_reckon_190 : decode cX0_reckon 190 = .ok (.iconst 0, 1) := by decide +kernel
theorem dX0_reckon_191 : decode cX0_reckon 191 = .ok (.ireturn, 1) := by decide +kernel
theorem dX0_reckon_192 : decode cX0_reckon 192 = .ok (.aload_n 0, 1) := by decide +kernel
theorem dX0_reckon_193 : decode cX0_reckon 193 = .ok (.iload_n 3, 1) := by decide +kernel
theorem dX0_reckon_194 : decode cX0_reckon 194 = .ok (.iload_n 2, 1) := by decide +kernel
theorem dX0_reckon_195 : decode cX0_reckon 195 = .ok (.invokevirtual 96, 3) := by decide +kernel
theorem dX0_reckon_198 : decode cX0_reckon 198 = .ok (.ifCond .ne 15, 3) := by decide +kernel
theorem dX0_reckon_201 : decode cX0_reckon 201 = .ok (.aload_n 0, 1) := by decide +kernel
theorem dX0_reckon_202 : decode cX0_reckon 202 = .ok (.getfield 30, 3) := by decide +kernel
theorem dX0_reckon_205 : decode cX0_reckon 205 = .ok (.iload 4, 2) := by decide +kernel
theorem dX0_reckon_207 : decode cX0_reckon 207 = .ok (.invokevirtual 93, 3) := by decide +kernel
theorem dX0_reckon_210 : decode cX0_reckon 210 = .ok (.ifCond .eq 7, 3) := by decide +kernel
theorem dX0_reckon_213 : decode cX0_reckon 213 = .ok (.iconst 1, 1) := by decide +kernel
theorem dX0_reckon_214 : decode cX0_reckon 214 = .ok (.goto 4, 3) := by decide +kernel
theorem dX0_reckon_217 : decode cX0_reckon 217 = .ok (.iconst 0, 1) := by decide +kernel
theorem dX0_reckon_218 : decode cX0_reckon 218 = .ok (.ireturn, 1) := by decide +kernel
theorem dX0_reckon_219 : decode cX0_reckon 219 = .ok (.aload_n 0, 1) := by decide +kernel
theorem dX0_reckon_220 : decode cX0_reckon 220 = .ok (.iload_n 3, 1) := by decide +kernel
theorem dX0_reckon_221 : decode cX0_reckon 221 = .ok (.iload_n 2, 1) := by decide +kernel
theorem dX0_reckon_222 : decode cX0_reckon 222 = .ok (.invokevirtual 96, 3) := by decide +kernel
theorem dX0_reckon_225 : decode cX0_reckon 225 = .ok (.ifCond .eq 39, 3) := by decide +kernel
theorem dX0_reckon_228 : decode cX0_reckon 228 = .ok (.aload_n 0, 1) := by decide +kernel
theorem dX0_reckon_229 : decode cX0_reckon 229 = .ok (.aload_n 0, 1) := by decide +kernel
theorem dX0_reckon_230 : decode cX0_reckon 230 = .ok (.getfield 30, 3) := by decide +kernel
theorem dX0_reckon_233 : decode cX0_reckon 233 = .ok (.getfield 99, 3) := by decide +kernel
theorem dX0_reckon_236 : decode cX0_reckon 236 = .ok (.ifCond .eq 8, 3) := by decide +kernel
theorem dX0_reckon_239 : decode cX0_reckon 239 = .ok (.iload 4, 2) := by decide +kernel
theorem dX0_reckon_241 : decode cX0_reckon 241 = .ok (.goto 12, 3) := by decide +kernel
theorem dX0_reckon_244 : decode cX0_reckon 244 = .ok (.aload_n 0, 1) := by decide +kernel
theorem dX0_reckon_245 : decode cX0_reckon 245 = .ok (.getfield 34, 3) := by decide +kernel
theorem dX0_reckon_248 : decode cX0_reckon 248 = .ok (.getfield 112, 3) := by decide +kernel
theorem dX0_reckon_251 : decode cX0_reckon 251 = .ok (.iload_n 1, 1) := by decide +kernel
theorem dX0_reckon_252 : decode cX0_reckon 252 = .ok (.iaload, 1) := by decide +kernel
theorem dX0_reckon_253 : decode cX0_reckon 253 = .ok (.iload_n 2, 1) := by decide +kernel
theorem dX0_reckon_254 : decode cX0_reckon 254 = .ok (.invokevirtual 96, 3) := by decide +kernel
theorem dX0_reckon_257 : decode cX0_reckon 257 = .ok (.ifCond .eq 7, 3) := by decide +kernel
theorem dX0_reckon_260 : decode cX0_reckon 260 = .ok (.iconst 1, 1) := by decide +kernel
theorem dX0_reckon_261 : decode cX0_reckon 261 = .ok (.goto 4, 3) := by decide +kernel
theorem dX0_reckon_264 : decode cX0_reckon 264 = .ok (.iconst 0, 1) := by decide +kernel
theorem dX0_reckon_265 : decode cX0_reckon 265 = .ok (.ireturn, 1) := by decide +kernel
theorem dX0_reckon_266 : decode cX0_reckon 266 = .ok (.aload_n 0, 1) := by decide +kernel
theorem dX0_reckon_267 : decode cX0_reckon 267 = .ok (.getfield 30, 3) := by decide +kernel
theorem dX0_reckon_270 : decode cX0_reckon 270 = .ok (.aload_n 0, 1) := by decide +kernel
theorem dX0_reckon_271 : decode cX0_reckon 271 = .ok (.getfield 9, 3) := by decide +kernel
theorem dX0_reckon_274 : decode cX0_reckon 274 = .ok (.iload_n 3, 1) := by decide +kernel
theorem dX0_reckon_275 : decode cX0_reckon 275 = .ok (.iaload, 1) := by decide +kernel
theorem dX0_reckon_276 : decode cX0_reckon 276 = .ok (.invokevirtual 93, 3) := by decide +kernel
theorem dX0_reckon_279 : decode cX0_reckon 279 = .ok (.ireturn, 1) := by decide +kernel
theorem dX0_reckon_280 : decode cX0_reckon 280 = .ok (.aload_n 0, 1) := by decide +kernel
theorem dX0_reckon_281 : decode cX0_reckon 281 = .ok (.getfield 30, 3) := by decide +kernel
theorem dX0_reckon_284 : decode cX0_reckon 284 = .ok (.aload_n 0, 1) := by decide +kernel
theorem dX0_reckon_285 : decode cX0_reckon 285 = .ok (.getfield 34, 3) := by decide +kernel
theorem dX0_reckon_288 : decode cX0_reckon 288 = .ok (.iload_n 3, 1) := by decide +kernel
theorem dX0_reckon_289 : decode cX0_reckon 289 = .ok (.invokevirtual 115, 3) := by decide +kernel
theorem dX0_reckon_292 : decode cX0_reckon 292 = .ok (.invokevirtual 93, 3) := by decide +kernel
theorem dX0_reckon_295 : decode cX0_reckon 295 = .ok (.ireturn, 1) := by decide +kernel
theorem dX0_reckon_296 : decode cX0_reckon 296 = .ok (.aload_n 0, 1) := by decide +kernel
theorem dX0_reckon_297 : decode cX0_reckon 297 = .ok (.iload_n 3, 1) := by decide +kernel
theorem dX0_reckon_298 : decode cX0_reckon 298 = .ok (.iload_n 2, 1) := by decide +kernel
theorem dX0_reckon_299 : decode cX0_reckon 299 = .ok (.invokevirtual 62, 3) := by decide +kernel
theorem dX0_reckon_302 : decode cX0_reckon 302 = .ok (.ifCond .eq 18, 3) := by decide +kernel
theorem dX0_reckon_305 : decode cX0_reckon 305 = .ok (.aload_n 0, 1) := by decide +kernel
theorem dX0_reckon_306 : decode cX0_reckon 306 = .ok (.getfield 30, 3) := by decide +kernel
theorem dX0_reckon_309 : decode cX0_reckon 309 = .ok (.iconst 1, 1) := by decide +kernel
theorem dX0_reckon_310 : decode cX0_reckon 310 = .ok (.invokevirtual 93, 3) := by decide +kernel
theorem dX0_reckon_313 : decode cX0_reckon 313 = .ok (.ifCond .eq 7, 3) := by decide +kernel
theorem dX0_reckon_316 : decode cX0_reckon 316 = .ok (.iconst 1, 1) := by decide +kernel
theorem dX0_reckon_317 : decode cX0_reckon 317 = .ok (.goto 4, 3) := by decide +kernel
theorem dX0_reckon_320 : decode cX0_reckon 320 = .ok (.iconst 0, 1) := by decide +kernel
theorem dX0_reckon_321 : decode cX0_reckon 321 = .ok (.ireturn, 1) := by decide +kernel
theorem dX0_reckon_322 : decode cX0_reckon 322 = .ok (.aload_n 0, 1) := by decide +kernel
theorem dX0_reckon_323 : decode cX0_reckon 323 = .ok (.iload_n 3, 1) := by decide +kernel
theorem dX0_reckon_324 : decode cX0_reckon 324 = .ok (.iload_n 2, 1) := by decide +kernel
theorem dX0_reckon_325 : decode cX0_reckon 325 = .ok (.invokevirtual 96, 3) := by decide +kernel
theorem dX0_reckon_328 : decode cX0_reckon 328 = .ok (.ifCond .eq 32, 3) := by decide +kernel
theorem dX0_reckon_331 : decode cX0_reckon 331 = .ok (.aload_n 0, 1) := by decide +kernel
theorem dX0_reckon_332 : decode cX0_reckon 332 = .ok (.aload_n 0, 1) := by decide +kernel
theorem dX0_reckon_333 : decode cX0_reckon 333 = .ok (.getfield 34, 3) := by decide +kernel
theorem dX0_reckon_336 : decode cX0_reckon 336 = .ok (.getfield 59, 3) := by decide +kernel
theorem dX0_reckon_339 : decode cX0_reckon 339 = .ok (.iload_n 1, 1) := by decide +kernel
theorem dX0_reckon_340 : decode cX0_reckon 340 = .ok (.iaload, 1) := by decide +kernel
theorem dX0_reckon_341 : decode cX0_reckon 341 = .ok (.iload 4, 2) := by decide +kernel
theorem dX0_reckon_343 : decode cX0_reckon 343 = .ok (.aload_n 0, 1) := by decide +kernel
theorem dX0_reckon_344 : decode cX0_reckon 344 = .ok (.getfield 30, 3) := by decide +kernel
theorem dX0_reckon_347 : decode cX0_reckon 347 = .ok (.getfield 99, 3) := by decide +kernel
theorem dX0_reckon_350 : decode cX0_reckon 350 = .ok (.invokevirtual 119, 3) := by decide +kernel
theorem dX0_reckon_353 : decode cX0_reckon 353 = .ok (.ifCond .eq 7, 3) := by decide +kernel
theorem dX0_reckon_356 : decode cX0_reckon 356 = .ok (.iconst 1, 1) := by decide +kernel
theorem dX0_reckon_357 : decode cX0_reckon 357 = .ok (.goto 4, 3) := by decide +kernel
theorem dX0_reckon_360 : decode cX0_reckon 360 = .ok (.iconst 0, 1) := by decide +kernel
theorem dX0_reckon_361 : decode cX0_reckon 361 = .ok (.ireturn, 1) := by decide +kernel
theorem dX0_reckon_362 : decode cX0_reckon 362 = .ok (.aload_n 0, 1) := by decide +kernel
theorem dX0_reckon_363 : decode cX0_reckon 363 = .ok (.getfield 30, 3) := by decide +kernel
theorem dX0_reckon_366 : decode cX0_reckon 366 = .ok (.iconst 3, 1) := by decide +kernel
theorem dX0_reckon_367 : decode cX0_reckon 367 = .ok (.iload_n 3, 1) := by decide +kernel
theorem dX0_reckon_368 : decode cX0_reckon 368 = .ok (.invokevirtual 55, 3) := by decide +kernel
theorem dX0_reckon_371 : decode cX0_reckon 371 = .ok (.ireturn, 1) := by decide +kernel
theorem dX0_multiply_0 : decode cX0_multiply 0 = .ok (.aload_n 0, 1) := by decide +kernel
theorem dX0_multiply_1 : decode cX0_multiply 1 = .ok (.iload_n 1, 1) := by decide +kernel
theorem dX0_multiply_2 : decode cX0_multiply 2 = .ok (.iload_n 3, 1) := by decide +kernel
theorem dX0_multiply_3 : decode cX0_multiply 3 = .ok (.invokevirtual 96, 3) := by decide +kernel
theorem dX0_multiply_6 : decode cX0_multiply 6 = .ok (.ifCond .ne 5, 3) := by decide +kernel
theorem dX0_multiply_9 : decode cX0_multiply 9 = .ok (.iconst 0, 1) := by decide +kernel
theorem dX0_multiply_10 : decode cX0_multiply 10 = .ok (.ireturn, 1) := by decide +kernel
theorem dX0_multiply_11 : decode cX0_multiply 11 = .ok (.aload_n 0, 1) := by decide +kernel
theorem dX0_multiply_12 : decode cX0_multiply 12 = .ok (.getfield 30, 3) := by decide +kernel
theorem dX0_multiply_15 : decode cX0_multiply 15 = .ok (.getfield 99, 3) := by decide +kernel
theorem dX0_multiply_18 : decode cX0_multiply 18 = .ok (.istore 4, 2) := by decide +kernel
theorem dX0_multiply_20 : decode cX0_multiply 20 = .ok (.aload_n 0, 1) := by decide +kernel
theorem dX0_multiply_21 : decode cX0_multiply 21 = .ok (.iload_n 2, 1) := by decide +kernel
theorem dX0_multiply_22 : decode cX0_multiply 22 = .ok (.iload_n 3, 1) := by decide +kernel
theorem dX0_multiply_23 : decode cX0_multiply 23 = .ok (.invokevirtual 96, 3) := by decide +kernel
theorem dX0_multiply_26 : decode cX0_multiply 26 = .ok (.ifCond .eq 27, 3) := by decide +kernel
theorem dX0_multiply_29 : decode cX0_multiply 29 = .ok (.aload_n 0, 1) := by decide +kernel
theorem dX0_multiply_30 : decode cX0_multiply 30 = .ok (.getfield 30, 3) := by decide +kernel
theorem dX0_multiply_33 : decode cX0_multiply 33 = .ok (.iload 4, 2) := by decide +kernel
theorem dX0_multiply_35 : decode cX0_multiply 35 = .ok (.aload_n 0, 1) := by decide +kernel
theorem dX0_multiply_36 : decode cX0_multiply 36 = .ok (.getfield 30, 3) := by decide +kernel
theorem dX0_multiply_39 : decode cX0_multiply 39 = .ok (.getfield 99, 3) := by decide +kernel
theorem dX0_multiply_42 : decode cX0_multiply 42 = .ok (.imul, 1) := by decide +kernel
theorem dX0_multiply_43 : decode cX0_multiply 43 = .ok (.invokevirtual 93, 3) := by decide +kernel
theorem dX0_multiply_46 : decode cX0_multiply 46 = .ok (.ifCond .eq 7, 3) := by decide +kernel
theorem dX0_multiply_49 : decode cX0_multiply 49 = .ok (.iconst 1, 1) := by decide +kernel
theorem dX0_multiply_50 : decode cX0_multiply 50 = .ok (.goto 4, 3) := by decide +kernel
theorem dX0_multiply_53 : decode cX0_multiply 53 = .ok (.iconst 0, 1) := by decide +kernel
theorem dX0_multiply_54 : decode cX0_multiply 54 = .ok (.ireturn, 1) := by decide +kernel
theorem dX0_divide_0 : decode cX0_divide 0 = .ok (.aload_n 0, 1) := by decide +kernel
theorem dX0_divide_1 : decode cX0_divide 1 = .ok (.iload_n 1, 1) := by decide +kernel
theorem dX0_divide_2 : decode cX0_divide 2 = .ok (.iload_n 3, 1) := by decide +kernel
theorem dX0_divide_3 : decode cX0_divide 3 = .ok (.invokevirtual 96, 3) := by decide +kernel
theorem dX0_divide_6 : decode cX0_divide 6 = .ok (.ifCond .ne 5, 3) := by decide +kernel
theorem dX0_divide_9 : decode cX0_divide 9 = .ok (.iconst 0, 1) := by decide +kernel
theorem dX0_divide_10 : decode cX0_divide 10 = .ok (.ireturn, 1) := by decide +kernel
theorem dX0_divide_11 : decode cX0_divide 11 = .ok (.aload_n 0, 1) := by decide +kernel
theorem dX0_divide_12 : decode cX0_divide 12 = .ok (.getfield 30, 3) := by decide +kernel
theorem dX0_divide_15 : decode cX0_divide 15 = .ok (.getfield 99, 3) := by decide +kernel
theorem dX0_divide_18 : decode cX0_divide 18 = .ok (.istore 4, 2) := by decide +kernel
theorem dX0_divide_20 : decode cX0_divide 20 = .ok (.aload_n 0, 1) := by decide +kernel
theorem dX0_divide_21 : decode cX0_divide 21 = .ok (.iload_n 2, 1) := by decide +kernel
theorem dX0_divide_22 : decode cX0_divide 22 = .ok (.iload_n 3, 1) := by decide +kernel
theorem dX0_divide_23 : decode cX0_divide 23 = .ok (.invokevirtual 96, 3) := by decide +kernel
theorem dX0_divide_26 : decode cX0_divide 26 = .ok (.ifCond .ne 5, 3) := by decide +kernel
theorem dX0_divide_29 : decode cX0_divide 29 = .ok (.iconst 0, 1) := by decide +kernel
theorem dX0_divide_30 : decode cX0_divide 30 = .ok (.ireturn, 1) := by decide +kernel
theorem dX0_divide_31 : decode cX0_divide 31 = .ok (.aload_n 0, 1) := by decide +kernel
theorem dX0_divide_32 : decode cX0_divide 32 = .ok (.getfield 30, 3) := by decide +kernel
theorem dX0_divide_35 : decode cX0_divide 35 = .ok (.getfield 99, 3) := by decide +kernel
theorem dX0_divide_38 : decode cX0_divide 38 = .ok (.istore 5, 2) := by decide +kernel
theorem dX0_divide_40 : decode cX0_divide 40 = .ok (.iload 5, 2) := by decide +kernel
theorem dX0_divide_42 : decode cX0_divide 42 = .ok (.ifCond .ne 15, 3) := by decide +kernel
theorem dX0_divide_45 : decode cX0_divide 45 = .ok (.aload_n 0, 1) := by decide +kernel
theorem dX0_divide_46 : decode cX0_divide 46 = .ok (.getfield 30, 3) := by decide +kernel
theorem dX0_divide_49 : decode cX0_divide 49 = .ok (.iconst 1, 1) := by decide +kernel
theorem dX0_divide_50 : decode cX0_divide 50 = .ok (.iconst 0, 1) := by decide +kernel
theorem dX0_divide_51 : decode cX0_divide 51 = .ok (.invokevirtual 55, 3) := by decide +kernel
theorem dX0_divide_54 : decode cX0_divide 54 = .ok (.goto 15, 3) := by decide +kernel
theorem dX0_divide_57 : decode cX0_divide 57 = .ok (.aload_n 0, 1) := by decide +kernel
theorem dX0_divide_58 : decode cX0_divide 58 = .ok (.getfield 30, 3) := by decide +kernel
theorem dX0_divide_61 : decode cX0_divide 61 = .ok (.iload 4, 2) := by decide +kernel
theorem dX0_divide_63 : decode cX0_divide 63 = .ok (.iload 5, 2) := by decide +kernel
theorem dX0_divide_65 : decode cX0_divide 65 = .ok (.idiv, 1) := by decide +kernel
theorem dX0_divide_66 : decode cX0_divide 66 = .ok (.invokevirtual 93, 3) := by decide +kernel
theorem dX0_divide_69 : decode cX0_divide 69 = .ok (.ireturn, 1) := by decide +kernel
theorem dX0_readItem_0 : decode cX0_readItem 0 = .ok (.aload_n 0, 1) := by decide +kernel
theorem dX0_readItem_1 : decode cX0_readItem 1 = .ok (.getfield 34, 3) := by decide +kernel
theorem dX0_readItem_4 : decode cX0_readItem 4 = .ok (.iload_n 1, 1) := by decide +kernel
theorem dX0_readItem_5 : decode cX0_readItem 5 = .ok (.iload_n 2, 1) := by decide +kernel
theorem dX0_readItem_6 : decode cX0_readItem 6 = .ok (.invokevirtual 122, 3) := by decide +kernel
theorem dX0_readItem_9 : decode cX0_readItem 9 = .ok (.ifCond .eq 21, 3) := by decide +kernel
theorem dX0_readItem_12 : decode cX0_readItem 12 = .ok (.aload_n 0, 1) := by decide +kernel
theorem dX0_readItem_13 : decode cX0_readItem 13 = .ok (.getfield 30, 3) := by decide +kernel
theorem dX0_readItem_16 : decode cX0_readItem 16 = .ok (.aload_n 0, 1) := by decide +kernel
theorem dX0_readItem_17 : decode cX0_readItem 17 = .ok (.getfield 17, 3) := by decide +kernel
theorem dX0_readItem_20 : decode cX0_readItem 20 = .ok (.iload_n 1, 1) := by decide +kernel
theorem dX0_readItem_21 : decode cX0_readItem 21 = .ok (.aaload, 1) := by decide +kernel
theorem dX0_readItem_22 : decode cX0_readItem 22 = .ok (.iload_n 2, 1) := by decide +kernel
theorem dX0_readItem_23 : decode cX0_readItem 23 = .ok (.iaload, 1) := by decide +kernel
theorem dX0_readItem_24 : decode cX0_readItem 24 = .ok (.invokevirtual 93, 3) := by decide +kernel
theorem dX0_readItem_27 : decode cX0_readItem 27 = .ok (.goto 12, 3) := by decide +kernel
theorem dX0_readItem_30 : decode cX0_readItem 30 = .ok (.aload_n 0, 1) := by decide +kernel
theorem dX0_readItem_31 : decode cX0_readItem 31 = .ok (.getfield 30, 3) := by decide +kernel
theorem dX0_readItem_34 : decode cX0_readItem 34 = .ok (.iconst 2, 1) := by decide +kernel
theorem dX0_readItem_35 : decode cX0_readItem 35 = .ok (.iconst 0, 1) := by decide +kernel
theorem dX0_readItem_36 : decode cX0_readItem 36 = .ok (.invokevirtual 55, 3) := by decide +kernel
theorem dX0_readItem_39 : decode cX0_readItem 39 = .ok (.ireturn, 1) := by decide +kernel
theorem dX0_writeItem_0 : decode cX0_writeItem 0 = .ok (.aload_n 0, 1) := by decide +kernel
theorem dX0_writeItem_1 : decode cX0_writeItem 1 = .ok (.getfield 34, 3) := by decide +kernel
theorem dX0_writeItem_4 : decode cX0_writeItem 4 = .ok (.iload_n 1, 1) := by decide +kernel
theorem dX0_writeItem_5 : decode cX0_writeItem 5 = .ok (.iload_n 2, 1) := by decide +kernel
theorem dX0_writeItem_6 : decode cX0_writeItem 6 = .ok (.invokevirtual 122, 3) := by decide +kernel
theorem dX0_writeItem_9 : decode cX0_writeItem 9 = .ok (.ifCond .ne 13, 3) := by decide +kernel
theorem dX0_writeItem_12 : decode cX0_writeItem 12 = .ok (.aload_n 0, 1) := by decide +kernel
theorem dX0_writeItem_13 : decode cX0_writeItem 13 = .ok (.getfield 30, 3) := by decide +kernel
theorem dX0_writeItem_16 : decode cX0_writeItem 16 = .ok (.iconst 2, 1) := by decide +kernel
theorem dX0_writeItem_17 : decode cX0_writeItem 17 = .ok (.iconst 0, 1) := by decide +kernel
theorem dX0_writeItem_18 : decode cX0_writeItem 18 = .ok (.invokevirtual 55, 3) := by decide +kernel
theorem dX0_writeItem_21 : decode cX0_writeItem 21 = .ok (.ireturn, 1) := by decide +kernel
theorem dX0_writeItem_22 : decode cX0_writeItem 22 = .ok (.aload_n 0, 1) := by decide +kernel
theorem dX0_writeItem_23 : decode cX0_writeItem 23 = .ok (.getfield 17, 3) := by decide +kernel
theorem dX0_writeItem_26 : decode cX0_writeItem 26 = .ok (.iload_n 1, 1) := by decide +kernel
theorem dX0_writeItem_27 : decode cX0_writeItem 27 = .ok (.aaload, 1) := by decide +kernel
theorem dX0_writeItem_28 : decode cX0_writeItem 28 = .ok (.iload_n 2, 1) := by decide +kernel
theorem dX0_writeItem_29 : decode cX0_writeItem 29 = .ok (.iload_n 3, 1) := by decide +kernel
theorem dX0_writeItem_30 : decode cX0_writeItem 30 = .ok (.iastore, 1) := by decide +kernel
theorem dX0_writeItem_31 : decode cX0_writeItem 31 = .ok (.aload_n 0, 1) := by decide +kernel
theorem dX0_writeItem_32 : decode cX0_writeItem 32 = .ok (.getfield 30, 3) := by decide +kernel
theorem dX0_writeItem_35 : decode cX0_writeItem 35 = .ok (.iload_n 3, 1) := by decide +kernel
theorem dX0_writeItem_36 : decode cX0_writeItem 36 = .ok (.invokevirtual 93, 3) := by decide +kernel
theorem dX0_writeItem_39 : decode cX0_writeItem 39 = .ok (.ireturn, 1) := by decide +kernel
theorem dX0_begin_0 : decode cX0_begin 0 = .ok (.aload_n 0, 1) := by decide +kernel
theorem dX0_begin_1 : decode cX0_begin 1 = .ok (.getfield 9, 3) := by decide +kernel
theorem dX0_begin_4 : decode cX0_begin 4 = .ok (.iload_n 1, 1) := by decide +kernel
theorem dX0_begin_5 : decode cX0_begin 5 = .ok (.iaload, 1) := by decide +kernel
theorem dX0_begin_6 : decode cX0_begin 6 = .ok (.iconst 1, 1) := by decide +kernel
theorem dX0_begin_7 : decode cX0_begin 7 = .ok (.if_icmp .eq 13, 3) := by decide +kernel
theorem dX0_begin_10 : decode cX0_begin 10 = .ok (.aload_n 0, 1) := by decide +kernel
theorem dX0_begin_11 : decode cX0_begin 11 = .ok (.getfield 9, 3) := by decide +kernel
theorem dX0_begin_14 : decode cX0_begin 14 = .ok (.iload_n 1, 1) := by decide +kernel
theorem dX0_begin_15 : decode cX0_begin 15 = .ok (.iaload, 1) := by decide +kernel
theorem dX0_begin_16 : decode cX0_begin 16 = .ok (.iconst 2, 1) := by decide +kernel
theorem dX0_begin_17 : decode cX0_begin 17 = .ok (.if_icmp .ne 5, 3) := by decide +kernel
theorem dX0_begin_20 : decode cX0_begin 20 = .ok (.iconst 1, 1) := by decide +kernel
theorem dX0_begin_21 : decode cX0_begin 21 = .ok (.ireturn, 1) := by decide +kernel
theorem dX0_begin_22 : decode cX0_begin 22 = .ok (.aload_n 0, 1) := by decide +kernel
theorem dX0_begin_23 : decode cX0_begin 23 = .ok (.getfield 9, 3) := by decide +kernel
theorem dX0_begin_26 : decode cX0_begin 26 = .ok (.iload_n 1, 1) := by decide +kernel
theorem dX0_begin_27 : decode cX0_begin 27 = .ok (.iaload, 1) := by decide +kernel
theorem dX0_begin_28 : decode cX0_begin 28 = .ok (.iconst 3, 1) := by decide +kernel
theorem dX0_begin_29 : decode cX0_begin 29 = .ok (.if_icmp .eq 9, 3) := by decide +kernel
theorem dX0_begin_32 : decode cX0_begin 32 = .ok (.iload_n 2, 1) := by decide +kernel
theorem dX0_begin_33 : decode cX0_begin 33 = .ok (.bipush 66, 2) := by decide +kernel
theorem dX0_begin_35 : decode cX0_begin 35 = .ok (.if_icmp .le 14, 3) := by decide +kernel
theorem dX0_begin_38 : decode cX0_begin 38 = .ok (.aload_n 0, 1) := by decide +kernel
theorem dX0_begin_39 : decode cX0_begin 39 = .ok (.getfield 30, 3) := by decide +kernel
theorem dX0_begin_42 : decode cX0_begin 42 = .ok (.bipush 6, 2) := by decide +kernel
theorem dX0_begin_44 : decode cX0_begin 44 = .ok (.iload_n 1, 1) := by decide +kernel
theorem dX0_begin_45 : decode cX0_begin 45 = .ok (.invokevirtual 55, 3) := by decide +kernel
theorem dX0_begin_48 : decode cX0_begin 48 = .ok (.ireturn, 1) := by decide +kernel
theorem dX0_begin_49 : decode cX0_begin 49 = .ok (.aload_n 0, 1) := by decide +kernel
theorem dX0_begin_50 : decode cX0_begin 50 = .ok (.getfield 9, 3) := by decide +kernel
theorem dX0_begin_53 : decode cX0_begin 53 = .ok (.iload_n 1, 1) := by decide +kernel
theorem dX0_begin_54 : decode cX0_begin 54 = .ok (.iconst 2, 1) := by decide +kernel
theorem dX0_begin_55 : decode cX0_begin 55 = .ok (.iastore, 1) := by decide +kernel
theorem dX0_begin_56 : decode cX0_begin 56 = .ok (.aload_n 0, 1) := by decide +kernel
theorem dX0_begin_57 : decode cX0_begin 57 = .ok (.getfield 38, 3) := by decide +kernel
theorem dX0_begin_60 : decode cX0_begin 60 = .ok (.iconst 0, 1) := by decide +kernel
theorem dX0_begin_61 : decode cX0_begin 61 = .ok (.iload_n 1, 1) := by decide +kernel
theorem dX0_begin_62 : decode cX0_begin 62 = .ok (.invokevirtual 75, 3) := by decide +kernel
theorem dX0_begin_65 : decode cX0_begin 65 = .ok (.aload_n 0, 1) := by decide +kernel
theorem dX0_begin_66 : decode cX0_begin 66 = .ok (.getfield 34, 3) := by decide +kernel
theorem dX0_begin_69 : decode cX0_begin 69 = .ok (.getfield 46, 3) := by decide +kernel
theorem dX0_begin_72 : decode cX0_begin 72 = .ok (.iload_n 1, 1) := by decide +kernel
theorem dX0_begin_73 : decode cX0_begin 73 = .ok (.aaload, 1) := by decide +kernel
theorem dX0_begin_74 : decode cX0_begin 74 = .ok (.iconst 0, 1) := by decide +kernel
theorem dX0_begin_75 : decode cX0_begin 75 = .ok (.aload_n 0, 1) := by decide +kernel
theorem dX0_begin_76 : decode cX0_begin 76 = .ok (.getfield 17, 3) := by decide +kernel
theorem dX0_begin_79 : decode cX0_begin 79 = .ok (.iload_n 1, 1) := by decide +kernel
theorem dX0_begin_80 : decode cX0_begin 80 = .ok (.aaload, 1) := by decide +kernel
theorem dX0_begin_81 : decode cX0_begin 81 = .ok (.iconst 0, 1) := by decide +kernel
theorem dX0_begin_82 : decode cX0_begin 82 = .ok (.bipush 8, 2) := by decide +kernel
theorem dX0_begin_84 : decode cX0_begin 84 = .ok (.invokestatic 125, 3) := by decide +kernel
theorem dX0_begin_87 : decode cX0_begin 87 = .ok (.aload_n 0, 1) := by decide +kernel
theorem dX0_begin_88 : decode cX0_begin 88 = .ok (.iload_n 1, 1) := by decide +kernel
theorem dX0_begin_89 : decode cX0_begin 89 = .ok (.iload_n 2, 1) := by decide +kernel
theorem dX0_begin_90 : decode cX0_begin 90 = .ok (.iconst 1, 1) := by decide +kernel
theorem dX0_begin_91 : decode cX0_begin 91 = .ok (.iadd, 1) := by decide +kernel
theorem dX0_begin_92 : decode cX0_begin 92 = .ok (.invokevirtual 131, 3) := by decide +kernel
theorem dX0_begin_95 : decode cX0_begin 95 = .ok (.ifCond .eq 18, 3) := by decide +kernel
theorem dX0_begin_98 : decode cX0_begin 98 = .ok (.aload_n 0, 1) := by decide +kernel
theorem dX0_begin_99 : decode cX0_begin 99 = .ok (.iload_n 1, 1) := by decide +kernel
theorem dX0_begin_100 : decode cX0_begin 100 = .ok (.iload_n 2, 1) := by decide +kernel
theorem dX0_begin_101 : decode cX0_begin 101 = .ok (.iconst 1, 1) := by decide +kernel
theorem dX0_begin_102 : decode cX0_begin 102 = .ok (.iadd, 1) := by decide +kernel
theorem dX0_begin_103 : decode cX0_begin 103 = .ok (.invokevirtual 134, 3) := by decide +kernel
theorem dX0_begin_106 : decode cX0_begin 106 = .ok (.ifCond .eq 7, 3) := by decide +kernel
theorem dX0_begin_109 : decode cX0_begin 109 = .ok (.iconst 1, 1) := by decide +kernel
theorem dX0_begin_110 : decode cX0_begin 110 = .ok (.goto 4, 3) := by decide +kernel
theorem dX0_begin_113 : decode cX0_begin 113 = .ok (.iconst 0, 1) := by decide +kernel
theorem dX0_begin_114 : decode cX0_begin 114 = .ok (.istore_n 3, 1) := by decide +kernel
theorem dX0_begin_115 : decode cX0_begin 115 = .ok (.aload_n 0, 1) := by decide +kernel
theorem dX0_begin_116 : decode cX0_begin 116 = .ok (.getfield 9, 3) := by decide +kernel
theorem dX0_begin_119 : decode cX0_begin 119 = .ok (.iload_n 1, 1) := by decide +kernel
theorem dX0_begin_120 : decode cX0_begin 120 = .ok (.iload_n 3, 1) := by decide +kernel
theorem dX0_begin_121 : decode cX0_begin 121 = .ok (.ifCond .eq 7, 3) := by decide +kernel
theorem dX0_begin_124 : decode cX0_begin 124 = .ok (.iconst 1, 1) := by decide +kernel
theorem dX0_begin_125 : decode cX0_begin 125 = .ok (.goto 4, 3) := by decide +kernel
theorem dX0_begin_128 : decode cX0_begin 128 = .ok (.iconst 3, 1) := by decide +kernel
theorem dX0_begin_129 : decode cX0_begin 129 = .ok (.iastore, 1) := by decide +kernel
theorem dX0_begin_130 : decode cX0_begin 130 = .ok (.aload_n 0, 1) := by decide +kernel
theorem dX0_begin_131 : decode cX0_begin 131 = .ok (.getfield 38, 3) := by decide +kernel
theorem dX0_begin_134 : decode cX0_begin 134 = .ok (.iload_n 3, 1) := by decide +kernel
theorem dX0_begin_135 : decode cX0_begin 135 = .ok (.ifCond .eq 7, 3) := by decide +kernel
theorem dX0_begin_138 : decode cX0_begin 138 = .ok (.iconst 1, 1) := by decide +kernel
theorem dX0_begin_139 : decode cX0_begin 139 = .ok (.goto 4, 3) := by decide +kernel
theorem dX0_begin_142 : decode cX0_begin 142 = .ok (.iconst 2, 1) := by decide +kernel
theorem dX0_begin_143 : decode cX0_begin 143 = .ok (.iload_n 1, 1) := by decide +kernel
theorem dX0_begin_144 : decode cX0_begin 144 = .ok (.invokevirtual 75, 3) := by decide +kernel
theorem dX0_begin_147 : decode cX0_begin 147 = .ok (.iload_n 3, 1) := by decide +kernel
theorem dX0_begin_148 : decode cX0_begin 148 = .ok (.ifCond .ne 14, 3) := by decide +kernel
theorem dX0_begin_151 : decode cX0_begin 151 = .ok (.aload_n 0, 1) := by decide +kernel
theorem dX0_begin_152 : decode cX0_begin 152 = .ok (.getfield 30, 3) := by decide +kernel
theorem dX0_begin_155 : decode cX0_begin 155 = .ok (.iload_n 1, 1) := by decide +kernel
theorem dX0_begin_156 : decode cX0_begin 156 = .ok (.invokevirtual 137, 3) := by decide +kernel
theorem dX0_begin_159 : decode cX0_begin 159 = .ok (.ifCond .eq 7, 3) := by decide +kernel
theorem dX0_begin_162 : decode cX0_begin 162 = .ok (.iconst 1, 1) := by decide +kernel
theorem dX0_begin_163 : decode cX0_begin 163 = .ok (.goto 4, 3) := by decide +kernel
theorem dX0_begin_166 : decode cX0_begin 166 = .ok (.iconst 0, 1) := by decide +kernel
theorem dX0_begin_167 : decode cX0_begin 167 = .ok (.ireturn, 1) := by decide +kernel
theorem dX0_beginUsed_0 : decode cX0_beginUsed 0 = .ok (.iconst 0, 1) := by decide +kernel
theorem dX0_beginUsed_1 : decode cX0_beginUsed 1 = .ok (.istore_n 3, 1) := by decide +kernel
theorem dX0_beginUsed_2 : decode cX0_beginUsed 2 = .ok (.iload_n 3, 1) := by decide +kernel
theorem dX0_beginUsed_3 : decode cX0_beginUsed 3 = .ok (.aload_n 0, 1) := by decide +kernel
theorem dX0_beginUsed_4 : decode cX0_beginUsed 4 = .ok (.getfield 34, 3) := by decide +kernel
theorem dX0_beginUsed_7 : decode cX0_beginUsed 7 = .ok (.getfield 140, 3) := by decide +kernel
theorem dX0_beginUsed_10 : decode cX0_beginUsed 10 = .ok (.iload_n 1, 1) := by decide +kernel
theorem dX0_beginUsed_11 : decode cX0_beginUsed 11 = .ok (.iaload, 1) := by decide +kernel
theorem dX0_beginUsed_12 : decode cX0_beginUsed 12 = .ok (.if_icmp .ge 30, 3) := by decide +kernel
theorem dX0_beginUsed_15 : decode cX0_beginUsed 15 = .ok (.aload_n 0, 1) := by decide +kernel
theorem dX0_beginUsed_16 : decode cX0_beginUsed 16 = .ok (.aload_n 0, 1) := by decide +kernel
theorem dX0_beginUsed_17 : decode cX0_beginUsed 17 = .ok (.getfield 34, 3) := by decide +kernel
theorem dX0_beginUsed_20 : decode cX0_beginUsed 20 = .ok (.getfield 143, 3) := by decide +kernel
theorem dX0_beginUsed_23 : decode cX0_beginUsed 23 = .ok (.iload_n 1, 1) := by decide +kernel
theorem dX0_beginUsed_24 : decode cX0_beginUsed 24 = .ok (.aaload, 1) := by decide +kernel
theorem dX0_beginUsed_25 : decode cX0_beginUsed 25 = .ok (.iload_n 3, 1) := by decide +kernel
theorem dX0_beginUsed_26 : decode cX0_beginUsed 26 = .ok (.iaload, 1) := by decide +kernel
theorem dX0_beginUsed_27 : decode cX0_beginUsed 27 = .ok (.iload_n 2, 1) := by decide +kernel
theorem dX0_beginUsed_28 : decode cX0_beginUsed 28 = .ok (.invokevirtual 62, 3) := by decide +kernel
theorem dX0_beginUsed_31 : decode cX0_beginUsed 31 = .ok (.ifCond .ne 5, 3) := by decide +kernel
theorem dX0_beginUsed_34 : decode cX0_beginUsed 34 = .ok (.iconst 0, 1) := by decide +kernel
theorem dX0_beginUsed_35 : decode cX0_beginUsed 35 = .ok (.ireturn, 1) := by decide +kernel
theorem dX0_beginUsed_36 : decode cX0_beginUsed 36 = .ok (.iinc 3 1, 3) := by decide +kernel
theorem dX0_beginUsed_39 : decode cX0_beginUsed 39 = .ok (.goto (-37), 3) := by decide +kernel
theorem dX0_beginUsed_42 : decode cX0_beginUsed 42 = .ok (.iconst 1, 1) := by decide +kernel
theorem dX0_beginUsed_43 : decode cX0_beginUsed 43 = .ok (.ireturn, 1) := by decide +kernel
theorem dX0_doDeeds_0 : decode cX0_doDeeds 0 = .ok (.iconst 0, 1) := by decide +kernel
theorem dX0_doDeeds_1 : decode cX0_doDeeds 1 = .ok (.istore_n 3, 1) := by decide +kernel
theorem dX0_doDeeds_2 : decode cX0_doDeeds 2 = .ok (.iload_n 3, 1) := by decide +kernel
theorem dX0_doDeeds_3 : decode cX0_doDeeds 3 = .ok (.aload_n 0, 1) := by decide +kernel
theorem dX0_doDeeds_4 : decode cX0_doDeeds 4 = .ok (.getfield 34, 3) := by decide +kernel
theorem dX0_doDeeds_7 : decode cX0_doDeeds 7 = .ok (.getfield 146, 3) := by decide +kernel
theorem dX0_doDeeds_10 : decode cX0_doDeeds 10 = .ok (.iload_n 1, 1) := by decide +kernel
theorem dX0_doDeeds_11 : decode cX0_doDeeds 11 = .ok (.iaload, 1) := by decide +kernel
theorem dX0_doDeeds_12 : decode cX0_doDeeds 12 = .ok (.if_icmp .ge 41, 3) := by decide +kernel
theorem dX0_doDeeds_15 : decode cX0_doDeeds 15 = .ok (.aload_n 0, 1) := by decide +kernel
theorem dX0_doDeeds_16 : decode cX0_doDeeds 16 = .ok (.aload_n 0, 1) := by decide +kernel
theorem dX0_doDeeds_17 : decode cX0_doDeeds 17 = .ok (.getfield 34, 3) := by decide +kernel
theorem dX0_doDeeds_20 : decode cX0_doDeeds 20 = .ok (.getfield 149, 3) := by decide +kernel
theorem dX0_doDeeds_23 : decode cX0_doDeeds 23 = .ok (.iload_n 1, 1) := by decide +kernel
theorem dX0_doDeeds_24 : decode cX0_doDeeds 24 = .ok (.aaload, 1) := by decide +kernel
theorem dX0_doDeeds_25 : decode cX0_doDeeds 25 = .ok (.iload_n 3, 1) := by decide +kernel
theorem dX0_doDeeds_26 : decode cX0_doDeeds 26 = .ok (.iaload, 1) := by decide +kernel
theorem dX0_doDeeds_27 : decode cX0_doDeeds 27 = .ok (.aload_n 0, 1) := by decide +kernel
theorem dX0_doDeeds_28 : decode cX0_doDeeds 28 = .ok (.getfield 34, 3) := by decide +kernel
theorem dX0_doDeeds_31 : decode cX0_doDeeds 31 = .ok (.getfield 152, 3) := by decide +kernel
theorem dX0_doDeeds_34 : decode cX0_doDeeds 34 = .ok (.iload_n 1, 1) := by decide +kernel
theorem dX0_doDeeds_35 : decode cX0_doDeeds 35 = .ok (.aaload, 1) := by decide +kernel
theorem dX0_doDeeds_36 : decode cX0_doDeeds 36 = .ok (.iload_n 3, 1) := by decide +kernel
theorem dX0_doDeeds_37 : decode cX0_doDeeds 37 = .ok (.iaload, 1) := by decide +kernel
theorem dX0_doDeeds_38 : decode cX0_doDeeds 38 = .ok (.iload_n 2, 1) := by decide +kernel
theorem dX0_doDeeds_39 : decode cX0_doDeeds 39 = .ok (.invokevirtual 155, 3) := by decide +kernel
theorem dX0_doDeeds_42 : decode cX0_doDeeds 42 = .ok (.ifCond .ne 5, 3) := by decide +kernel
theorem dX0_doDeeds_45 : decode cX0_doDeeds 45 = .ok (.iconst 0, 1) := by decide +kernel
theorem dX0_doDeeds_46 : decode cX0_doDeeds 46 = .ok (.ireturn, 1) := by decide +kernel
theorem dX0_doDeeds_47 : decode cX0_doDeeds 47 = .ok (.iinc 3 1, 3) := by decide +kernel
theorem dX0_doDeeds_50 : decode cX0_doDeeds 50 = .ok (.goto (-48), 3) := by decide +kernel
theorem dX0_doDeeds_53 : decode cX0_doDeeds 53 = .ok (.iconst 1, 1) := by decide +kernel
theorem dX0_doDeeds_54 : decode cX0_doDeeds 54 = .ok (.ireturn, 1) := by decide +kernel
theorem dX0_doDeed_0 : decode cX0_doDeed 0 = .ok (.iload_n 1, 1) := by decide +kernel
theorem dX0_doDeed_1 : decode cX0_doDeed 1 = .ok (.lookupswitch 41 #[(0, 27), (1, 34)], 27) := by decide +kernel
theorem dX0_doDeed_28 : decode cX0_doDeed 28 = .ok (.aload_n 0, 1) := by decide +kernel
theorem dX0_doDeed_29 : decode cX0_doDeed 29 = .ok (.iload_n 2, 1) := by decide +kernel
theorem dX0_doDeed_30 : decode cX0_doDeed 30 = .ok (.iload_n 3, 1) := by decide +kernel
theorem dX0_doDeed_31 : decode cX0_doDeed 31 = .ok (.invokevirtual 96, 3) := by decide +kernel
theorem dX0_doDeed_34 : decode cX0_doDeed 34 = .ok (.ireturn, 1) := by decide +kernel
theorem dX0_doDeed_35 : decode cX0_doDeed 35 = .ok (.aload_n 0, 1) := by decide +kernel
theorem dX0_doDeed_36 : decode cX0_doDeed 36 = .ok (.iload_n 2, 1) := by decide +kernel
theorem dX0_doDeed_37 : decode cX0_doDeed 37 = .ok (.iload_n 3, 1) := by decide +kernel
theorem dX0_doDeed_38 : decode cX0_doDeed 38 = .ok (.invokevirtual 62, 3) := by decide +kernel
theorem dX0_doDeed_41 : decode cX0_doDeed 41 = .ok (.ireturn, 1) := by decide +kernel
theorem dX0_doDeed_42 : decode cX0_doDeed 42 = .ok (.aload_n 0, 1) := by decide +kernel
theorem dX0_doDeed_43 : decode cX0_doDeed 43 = .ok (.getfield 30, 3) := by decide +kernel
theorem dX0_doDeed_46 : decode cX0_doDeed 46 = .ok (.bipush 7, 2) := by decide +kernel
theorem dX0_doDeed_48 : decode cX0_doDeed 48 = .ok (.iload_n 2, 1) := by decide +kernel
theorem dX0_doDeed_49 : decode cX0_doDeed 49 = .ok (.invokevirtual 55, 3) := by decide +kernel
theorem dX0_doDeed_52 : decode cX0_doDeed 52 = .ok (.ireturn, 1) := by decide +kernel
theorem dX1_init_0 : decode cX1_init 0 = .ok (.aload_n 0, 1) := by decide +kernel
theorem dX1_init_1 : decode cX1_init 1 = .ok (.invokespecial 3, 3) := by decide +kernel
theorem dX1_init_4 : decode cX1_init 4 = .ok (.return_, 1) := by decide +kernel
theorem dX1_succeed_0 : decode cX1_succeed 0 = .ok (.aload_n 0, 1) := by decide +kernel
theorem dX1_succeed_1 : decode cX1_succeed 1 = .ok (.iload_n 1, 1) := by decide +kernel
theorem dX1_succeed_2 : decode cX1_succeed 2 = .ok (.putfield 9, 3) := by decide +kernel
theorem dX1_succeed_5 : decode cX1_succeed 5 = .ok (.aload_n 0, 1) := by decide +kernel
theorem dX1_succeed_6 : decode cX1_succeed 6 = .ok (.iconst 0, 1) := by decide +kernel
theorem dX1_succeed_7 : decode cX1_succeed 7 = .ok (.putfield 15, 3) := by decide +kernel
theorem dX1_succeed_10 : decode cX1_succeed 10 = .ok (.aload_n 0, 1) := by decide +kernel
theorem dX1_succeed_11 : decode cX1_succeed 11 = .ok (.iconst 0, 1) := by decide +kernel
theorem dX1_succeed_12 : decode cX1_succeed 12 = .ok (.putfield 18, 3) := by decide +kernel
theorem dX1_succeed_15 : decode cX1_succeed 15 = .ok (.aload_n 0, 1) := by decide +kernel
theorem dX1_succeed_16 : decode cX1_succeed 16 = .ok (.iconst 0, 1) := by decide +kernel
theorem dX1_succeed_17 : decode cX1_succeed 17 = .ok (.putfield 21, 3) := by decide +kernel
theorem dX1_succeed_20 : decode cX1_succeed 20 = .ok (.aload_n 0, 1) := by decide +kernel
theorem dX1_succeed_21 : decode cX1_succeed 21 = .ok (.iconst 0, 1) := by decide +kernel
theorem dX1_succeed_22 : decode cX1_succeed 22 = .ok (.putfield 24, 3) := by decide +kernel
theorem dX1_succeed_25 : decode cX1_succeed 25 = .ok (.iconst 1, 1) := by decide +kernel
theorem dX1_succeed_26 : decode cX1_succeed 26 = .ok (.ireturn, 1) := by decide +kernel
theorem dX1_fail_0 : decode cX1_fail 0 = .ok (.aload_n 0, 1) := by decide +kernel
theorem dX1_fail_1 : decode cX1_fail 1 = .ok (.iconst 0, 1) := by decide +kernel
theorem dX1_fail_2 : decode cX1_fail 2 = .ok (.putfield 9, 3) := by decide +kernel
theorem dX1_fail_5 : decode cX1_fail 5 = .ok (.aload_n 0, 1) := by decide +kernel
theorem dX1_fail_6 : decode cX1_fail 6 = .ok (.iload_n 1, 1) := by decide +kernel
theorem dX1_fail_7 : decode cX1_fail 7 = .ok (.putfield 15, 3) := by decide +kernel
theorem dX1_fail_10 : decode cX1_fail 10 = .ok (.aload_n 0, 1) := by decide +kernel
theorem dX1_fail_11 : decode cX1_fail 11 = .ok (.iload_n 2, 1) := by decide +kernel
theorem dX1_fail_12 : decode cX1_fail 12 = .ok (.putfield 18, 3) := by decide +kernel
theorem dX1_fail_15 : decode cX1_fail 15 = .ok (.aload_n 0, 1) := by decide +kernel
theorem dX1_fail_16 : decode cX1_fail 16 = .ok (.iload_n 1, 1) := by decide +kernel
theorem dX1_fail_17 : decode cX1_fail 17 = .ok (.putfield 21, 3) := by decide +kernel
theorem dX1_fail_20 : decode cX1_fail 20 = .ok (.aload_n 0, 1) := by decide +kernel
theorem dX1_fail_21 : decode cX1_fail 21 = .ok (.iload_n 2, 1) := by decide +kernel
theorem dX1_fail_22 : decode cX1_fail 22 = .ok (.putfield 24, 3) := by decide +kernel
theorem dX1_fail_25 : decode cX1_fail 25 = .ok (.iconst 0, 1) := by decide +kernel
theorem dX1_fail_26 : decode cX1_fail 26 = .ok (.ireturn, 1) := by decide +kernel
theorem dX1_failStart_0 : decode cX1_failStart 0 = .ok (.aload_n 0, 1) := by decide +kernel
theorem dX1_failStart_1 : decode cX1_failStart 1 = .ok (.iconst 5, 1) := by decide +kernel
theorem dX1_failStart_2 : decode cX1_failStart 2 = .ok (.putfield 15, 3) := by decide +kernel
theorem dX1_failStart_5 : decode cX1_failStart 5 = .ok (.aload_n 0, 1) := by decide +kernel
theorem dX1_failStart_6 : decode cX1_failStart 6 = .ok (.iload_n 1, 1) := by decide +kernel
theorem dX1_failStart_7 : decode cX1_failStart 7 = .ok (.putfield 18, 3) := by decide +kernel
theorem dX1_failStart_10 : decode cX1_failStart 10 = .ok (.iconst 0, 1) := by decide +kernel
theorem dX1_failStart_11 : decode cX1_failStart 11 = .ok (.ireturn, 1) := by decide +kernel
theorem dX1_copy_0 : decode cX1_copy 0 = .ok (.aload_n 0, 1) := by decide +kernel
theorem dX1_copy_1 : decode cX1_copy 1 = .ok (.aload_n 1, 1) := by decide +kernel
theorem dX1_copy_2 : decode cX1_copy 2 = .ok (.getfield 9, 3) := by decide +kernel
theorem dX1_copy_5 : decode cX1_copy 5 = .ok (.putfield 9, 3) := by decide +kernel
theorem dX1_copy_8 : decode cX1_copy 8 = .ok (.aload_n 0, 1) := by decide +kernel
theorem dX1_copy_9 : decode cX1_copy 9 = .ok (.aload_n 1, 1) := by decide +kernel
theorem dX1_copy_10 : decode cX1_copy 10 = .ok (.getfield 15, 3) := by decide +kernel
theorem dX1_copy_13 : decode cX1_copy 13 = .ok (.putfield 15, 3) := by decide +kernel
theorem dX1_copy_16 : decode cX1_copy 16 = .ok (.aload_n 0, 1) := by decide +kernel
theorem dX1_copy_17 : decode cX1_copy 17 = .ok (.aload_n 1, 1) := by decide +kernel
theorem dX1_copy_18 : decode cX1_copy 18 = .ok (.getfield 18, 3) := by decide +kernel
theorem dX1_copy_21 : decode cX1_copy 21 = .ok (.putfield 18, 3) := by decide +kernel
theorem dX1_copy_24 : decode cX1_copy 24 = .ok (.aload_n 0, 1) := by decide +kernel
theorem dX1_copy_25 : decode cX1_copy 25 = .ok (.aload_n 1, 1) := by decide +kernel
theorem dX1_copy_26 : decode cX1_copy 26 = .ok (.getfield 21, 3) := by decide +kernel
theorem dX1_copy_29 : decode cX1_copy 29 = .ok (.putfield 21, 3) := by decide +kernel
theorem dX1_copy_32 : decode cX1_copy 32 = .ok (.aload_n 0, 1) := by decide +kernel
theorem dX1_copy_33 : decode cX1_copy 33 = .ok (.aload_n 1, 1) := by decide +kernel
theorem dX1_copy_34 : decode cX1_copy 34 = .ok (.getfield 24, 3) := by decide +kernel
theorem dX1_copy_37 : decode cX1_copy 37 = .ok (.putfield 24, 3) := by decide +kernel
theorem dX1_copy_40 : decode cX1_copy 40 = .ok (.return_, 1) := by decide +kernel
theorem dX2_init_0 : decode cX2_init 0 = .ok (.aload_n 0, 1) := by decide +kernel
theorem dX2_init_1 : decode cX2_init 1 = .ok (.invokespecial 3, 3) := by decide +kernel
theorem dX2_init_4 : decode cX2_init 4 = .ok (.aload_n 0, 1) := by decide +kernel
theorem dX2_init_5 : decode cX2_init 5 = .ok (.bipush 12, 2) := by decide +kernel
theorem dX2_init_7 : decode cX2_init 7 = .ok (.newarray .int, 2) := by decide +kernel
theorem dX2_init_9 : decode cX2_init 9 = .ok (.putfield 9, 3) := by decide +kernel
theorem dX2_init_12 : decode cX2_init 12 = .ok (.aload_n 0, 1) := by decide +kernel
theorem dX2_init_13 : decode cX2_init 13 = .ok (.bipush 12, 2) := by decide +kernel
theorem dX2_init_15 : decode cX2_init 15 = .ok (.bipush 8, 2) := by decide +kernel
theorem dX2_init_17 : decode cX2_init 17 = .ok (.multianewarray 15 2, 4) := by decide +kernel
theorem dX2_init_21 : decode cX2_init 21 = .ok (.putfield 17, 3) := by decide +kernel
theorem dX2_init_24 : decode cX2_init 24 = .ok (.aload_n 0, 1) := by decide +kernel
theorem dX2_init_25 : decode cX2_init 25 = .ok (.bipush 12, 2) := by decide +kernel
theorem dX2_init_27 : decode cX2_init 27 = .ok (.newarray .int, 2) := by decide +kernel
theorem dX2_init_29 : decode cX2_init 29 = .ok (.putfield 20, 3) := by decide +kernel
theorem dX2_init_32 : decode cX2_init 32 = .ok (.aload_n 0, 1) := by decide +kernel
theorem dX2_init_33 : decode cX2_init 33 = .ok (.bipush 12, 2) := by decide +kernel
theorem dX2_init_35 : decode cX2_init 35 = .ok (.bipush 6, 2) := by decide +kernel
theorem dX2_init_37 : decode cX2_init 37 = .ok (.multianewarray 15 2, 4) := by decide +kernel
theorem dX2_init_41 : decode cX2_init 41 = .ok (.putfield 23, 3) := by decide +kernel
theorem dX2_init_44 : decode cX2_init 44 = .ok (.aload_n 0, 1) := by decide +kernel
theorem dX2_init_45 : decode cX2_init 45 = .ok (.bipush 12, 2) := by decide +kernel
theorem dX2_init_47 : decode cX2_init 47 = .ok (.newarray .int, 2) := by decide +kernel
theorem dX2_init_49 : decode cX2_init 49 = .ok (.putfield 26, 3) := by decide +kernel
theorem dX2_init_52 : decode cX2_init 52 = .ok (.aload_n 0, 1) := by decide +kernel
theorem dX2_init_53 : decode cX2_init 53 = .ok (.bipush 12, 2) := by decide +kernel
theorem dX2_init_55 : decode cX2_init 55 = .ok (.bipush 6, 2) := by decide +kernel
theorem dX2_init_57 : decode cX2_init 57 = .ok (.multianewarray 15 2, 4) := by decide +kernel
theorem dX2_init_61 : decode cX2_init 61 = .ok (.putfield 29, 3) := by decide +kernel
theorem dX2_init_64 : decode cX2_init 64 = .ok (.aload_n 0, 1) := by decide +kernel
theorem dX2_init_65 : decode cX2_init 65 = .ok (.bipush 12, 2) := by decide +kernel
theorem dX2_init_67 : decode cX2_init 67 = .ok (.bipush 6, 2) := by decide +kernel
theorem dX2_init_69 : decode cX2_init 69 = .ok (.multianewarray 15 2, 4) := by decide +kernel
theorem dX2_init_73 : decode cX2_init 73 = .ok (.putfield 32, 3) := by decide +kernel
theorem dX2_init_76 : decode cX2_init 76 = .ok (.aload_n 0, 1) := by decide +kernel
theorem dX2_init_77 : decode cX2_init 77 = .ok (.bipush 40, 2) := by decide +kernel
theorem dX2_init_79 : decode cX2_init 79 = .ok (.newarray .int, 2) := by decide +kernel
theorem dX2_init_81 : decode cX2_init 81 = .ok (.putfield 35, 3) := by decide +kernel
theorem dX2_init_84 : decode cX2_init 84 = .ok (.aload_n 0, 1) := by decide +kernel
theorem dX2_init_85 : decode cX2_init 85 = .ok (.bipush 40, 2) := by decide +kernel
theorem dX2_init_87 : decode cX2_init 87 = .ok (.newarray .int, 2) := by decide +kernel
theorem dX2_init_89 : decode cX2_init 89 = .ok (.putfield 38, 3) := by decide +kernel
theorem dX2_init_92 : decode cX2_init 92 = .ok (.aload_n 0, 1) := by decide +kernel
theorem dX2_init_93 : decode cX2_init 93 = .ok (.bipush 40, 2) := by decide +kernel
theorem dX2_init_95 : decode cX2_init 95 = .ok (.newarray .int, 2) := by decide +kernel
theorem dX2_init_97 : decode cX2_init 97 = .ok (.putfield 41, 3) := by decide +kernel
theorem dX2_init_100 : decode cX2_init 100 = .ok (.aload_n 0, 1) := by decide +kernel
theorem dX2_init_101 : decode cX2_init 101 = .ok (.bipush 40, 2) := by decide +kernel
theorem dX2_init_103 : decode cX2_init 103 = .ok (.newarray .int, 2) := by decide +kernel
theorem dX2_init_105 : decode cX2_init 105 = .ok (.putfield 44, 3) := by decide +kernel
theorem dX2_init_108 : decode cX2_init 108 = .ok (.aload_n 0, 1) := by decide +kernel
theorem dX2_init_109 : decode cX2_init 109 = .ok (.bipush 40, 2) := by decide +kernel
theorem dX2_init_111 : decode cX2_init 111 = .ok (.newarray .int, 2) := by decide +kernel
theorem dX2_init_113 : decode cX2_init 113 = .ok (.putfield 47, 3) := by decide +kernel
theorem dX2_init_116 : decode cX2_init 116 = .ok (.return_, 1) := by decide +kernel
theorem dX2_hasModule_0 : decode cX2_hasModule 0 = .ok (.iload_n 1, 1) := by decide +kernel
theorem dX2_hasModule_1 : decode cX2_hasModule 1 = .ok (.ifCond .lt 15, 3) := by decide +kernel
theorem dX2_hasModule_4 : decode cX2_hasModule 4 = .ok (.iload_n 1, 1) := by decide +kernel
theorem dX2_hasModule_5 : decode cX2_hasModule 5 = .ok (.aload_n 0, 1) := by decide +kernel
theorem dX2_hasModule_6 : decode cX2_hasModule 6 = .ok (.getfield 50, 3) := by decide +kernel
theorem dX2_hasModule_9 : decode cX2_hasModule 9 = .ok (.if_icmp .ge 7, 3) := by decide +kernel
theorem dX2_hasModule_12 : decode cX2_hasModule 12 = .ok (.iconst 1, 1) := by decide +kernel
theorem dX2_hasModule_13 : decode cX2_hasModule 13 = .ok (.goto 4, 3) := by decide +kernel
theorem dX2_hasModule_16 : decode cX2_hasModule 16 = .ok (.iconst 0, 1) := by decide +kernel
theorem dX2_hasModule_17 : decode cX2_hasModule 17 = .ok (.ireturn, 1) := by decide +kernel
theorem dX2_hasItem_0 : decode cX2_hasItem 0 = .ok (.aload_n 0, 1) := by decide +kernel
theorem dX2_hasItem_1 : decode cX2_hasItem 1 = .ok (.iload_n 1, 1) := by decide +kernel
theorem dX2_hasItem_2 : decode cX2_hasItem 2 = .ok (.invokevirtual 54, 3) := by decide +kernel
theorem dX2_hasItem_5 : decode cX2_hasItem 5 = .ok (.ifCond .eq 21, 3) := by decide +kernel
theorem dX2_hasItem_8 : decode cX2_hasItem 8 = .ok (.iload_n 2, 1) := by decide +kernel
theorem dX2_hasItem_9 : decode cX2_hasItem 9 = .ok (.ifCond .lt 17, 3) := by decide +kernel
theorem dX2_hasItem_12 : decode cX2_hasItem 12 = .ok (.iload_n 2, 1) := by decide +kernel
theorem dX2_hasItem_13 : decode cX2_hasItem 13 = .ok (.aload_n 0, 1) := by decide +kernel
theorem dX2_hasItem_14 : decode cX2_hasItem 14 = .ok (.getfield 9, 3) := by decide +kernel
theorem dX2_hasItem_17 : decode cX2_hasItem 17 = .ok (.iload_n 1, 1) := by decide +kernel
theorem dX2_hasItem_18 : decode cX2_hasItem 18 = .ok (.iaload, 1) := by decide +kernel
theorem dX2_hasItem_19 : decode cX2_hasItem 19 = .ok (.if_icmp .ge 7, 3) := by decide +kernel
theorem dX2_hasItem_22 : decode cX2_hasItem 22 = .ok (.iconst 1, 1) := by decide +kernel
theorem dX2_hasItem_23 : decode cX2_hasItem 23 = .ok (.goto 4, 3) := by decide +kernel
theorem dX2_hasItem_26 : decode cX2_hasItem 26 = .ok (.iconst 0, 1) := by decide +kernel
theorem dX2_hasItem_27 : decode cX2_hasItem 27 = .ok (.ireturn, 1) := by decide +kernel
theorem dX2_hasConstant_0 : decode cX2_hasConstant 0 = .ok (.iload_n 1, 1) := by decide +kernel
theorem dX2_hasConstant_1 : decode cX2_hasConstant 1 = .ok (.ifCond .lt 15, 3) := by decide +kernel
theorem dX2_hasConstant_4 : decode cX2_hasConstant 4 = .ok (.iload_n 1, 1) := by decide +kernel
theorem dX2_hasConstant_5 : decode cX2_hasConstant 5 = .ok (.aload_n 0, 1) := by decide +kernel
theorem dX2_hasConstant_6 : decode cX2_hasConstant 6 = .ok (.getfield 58, 3) := by decide +kernel
theorem dX2_hasConstant_9 : decode cX2_hasConstant 9 = .ok (.if_icmp .ge 7, 3) := by decide +kernel
theorem dX2_hasConstant_12 : decode cX2_hasConstant 12 = .ok (.iconst 1, 1) := by decide +kernel
theorem dX2_hasConstant_13 : decode cX2_hasConstant 13 = .ok (.goto 4, 3) := by decide +kernel
theorem dX2_hasConstant_16 : decode cX2_hasConstant 16 = .ok (.iconst 0, 1) := by decide +kernel
theorem dX2_hasConstant_17 : decode cX2_hasConstant 17 = .ok (.ireturn, 1) := by decide +kernel
theorem dX2_addModule_0 : decode cX2_addModule 0 = .ok (.iload_n 1, 1) := by decide +kernel
theorem dX2_addModule_1 : decode cX2_addModule 1 = .ok (.ifCond .lt 9, 3) := by decide +kernel
theorem dX2_addModule_4 : decode cX2_addModule 4 = .ok (.iload_n 1, 1) := by decide +kernel
theorem dX2_addModule_5 : decode cX2_addModule 5 = .ok (.bipush 8, 2) := by decide +kernel
theorem dX2_addModule_7 : decode cX2_addModule 7 = .ok (.if_icmp .le 5, 3) := by decide +kernel
theorem dX2_addModule_10 : decode cX2_addModule 10 = .ok (.iconst (-1), 1) := by decide +kernel
theorem dX2_addModule_11 : decode cX2_addModule 11 = .ok (.ireturn, 1) := by decide +kernel
theorem dX2_addModule_12 : decode cX2_addModule 12 = .ok (.aload_n 0, 1) := by decide +kernel
theorem dX2_addModule_13 : decode cX2_addModule 13 = .ok (.getfield 50, 3) := by decide +kernel
theorem dX2_addModule_16 : decode cX2_addModule 16 = .ok (.bipush 12, 2) := by decide +kernel
theorem dX2_addModule_18 : decode cX2_addModule 18 = .ok (.if_icmp .lt 6, 3) := by decide +kernel
theorem dX2_addModule_21 : decode cX2_addModule 21 = .ok (.bipush (-2), 2) := by decide +kernel
theorem dX2_addModule_23 : decode cX2_addModule 23 = .ok (.ireturn, 1) := by decide +kernel
theorem dX2_addModule_24 : decode cX2_addModule 24 = .ok (.aload_n 0, 1) := by decide +kernel
theorem dX2_addModule_25 : decode cX2_addModule 25 = .ok (.getfield 9, 3) := by decide +kernel
theorem dX2_addModule_28 : decode cX2_addModule 28 = .ok (.aload_n 0, 1) := by decide +kernel
theorem dX2_addModule_29 : decode cX2_addModule 29 = .ok (.getfield 50, 3) := by decide +kernel
theorem dX2_addModule_32 : decode cX2_addModule 32 = .ok (.iload_n 1, 1) := by decide +kernel
theorem dX2_addModule_33 : decode cX2_addModule 33 = .ok (.iastore, 1) := by decide +kernel
theorem dX2_addModule_34 : decode cX2_addModule 34 = .ok (.aload_n 0, 1) := by decide +kernel
theorem dX2_addModule_35 : decode cX2_addModule 35 = .ok (.dup, 1) := by decide +kernel
theorem dX2_addModule_36 : decode cX2_addModule 36 = .ok (.getfield 50, 3) := by decide +kernel
theorem dX2_addModule_39 : decode cX2_addModule 39 = .ok (.dup_x1, 1) := by decide +kernel
theorem dX2_addModule_40 : decode cX2_addModule 40 = .ok (.iconst 1, 1) := by decide +kernel
theorem dX2_addModule_41 : decode cX2_addModule 41 = .ok (.iadd, 1) := by decide +kernel
theorem dX2_addModule_42 : decode cX2_addModule 42 = .ok (.putfield 50, 3) := by decide +kernel
theorem dX2_addModule_45 : decode cX2_addModule 45 = .ok (.ireturn, 1) := by decide +kernel
theorem dX2_setItem_0 : decode cX2_setItem 0 = .ok (.aload_n 0, 1) := by decide +kernel
theorem dX2_setItem_1 : decode cX2_setItem 1 = .ok (.iload_n 1, 1) := by decide +kernel
theorem dX2_setItem_2 : decode cX2_setItem 2 = .ok (.iload_n 2, 1) := by decide +kernel
theorem dX2_setItem_3 : decode cX2_setItem 3 = .ok (.invokevirtual 61, 3) := by decide +kernel
theorem dX2_setItem_6 : decode cX2_setItem 6 = .ok (.ifCond .ne 5, 3) := by decide +kernel
theorem dX2_setItem_9 : decode cX2_setItem 9 = .ok (.iconst (-1), 1) := by decide +kernel
theorem dX2_setItem_10 : decode cX2_setItem 10 = .ok (.ireturn, 1) := by decide +kernel
theorem dX2_setItem_11 : decode cX2_setItem 11 = .ok (.aload_n 0, 1) := by decide +kernel
theorem dX2_setItem_12 : decode cX2_setItem 12 = .ok (.getfield 17, 3) := by decide +kernel
theorem dX2_setItem_15 : decode cX2_setItem 15 = .ok (.iload_n 1, 1) := by decide +kernel
theorem dX2_setItem_16 : decode cX2_setItem 16 = .ok (.aaload, 1) := by decide +kernel
theorem dX2_setItem_17 : decode cX2_setItem 17 = .ok (.iload_n 2, 1) := by decide +kernel
theorem dX2_setItem_18 : decode cX2_setItem 18 = .ok (.iload_n 3, 1) := by decide +kernel
theorem dX2_setItem_19 : decode cX2_setItem 19 = .ok (.iastore, 1) := by decide +kernel
theorem dX2_setItem_20 : decode cX2_setItem 20 = .ok (.iconst 1, 1) := by decide +kernel
theorem dX2_setItem_21 : decode cX2_setItem 21 = .ok (.ireturn, 1) := by decide +kernel
theorem dX2_addUsed_0 : decode cX2_addUsed 0 = .ok (.aload_n 0, 1) := by decide +kernel
theorem dX2_addUsed_1 : decode cX2_addUsed 1 = .ok (.iload_n 1, 1) := by decide +kernel
theorem dX2_addUsed_2 : decode cX2_addUsed 2 = .ok (.invokevirtual 54, 3) := by decide +kernel
theorem dX2_addUsed_5 : decode cX2_addUsed 5 = .ok (.ifCond .eq 11, 3) := by decide +kernel
theorem dX2_addUsed_8 : decode cX2_addUsed 8 = .ok (.aload_n 0, 1) := by decide +kernel
theorem dX2_addUsed_9 : decode cX2_addUsed 9 = .ok (.iload_n 2, 1) := by decide +kernel
theorem dX2_addUsed_10 : decode cX2_addUsed 10 = .ok (.invokevirtual 54, 3) := by decide +kernel
theorem dX2_addUsed_13 : decode cX2_addUsed 13 = .ok (.ifCond .ne 5, 3) := by decide +kernel
theorem dX2_addUsed_16 : decode cX2_addUsed 16 = .ok (.iconst (-1), 1) := by decide +kernel
theorem dX2_addUsed_17 : decode cX2_addUsed 17 = .ok (.ireturn, 1) := by decide +kernel
theorem dX2_addUsed_18 : decode cX2_addUsed 18 = .ok (.aload_n 0, 1) := by decide +kernel
theorem dX2_addUsed_19 : decode cX2_addUsed 19 = .ok (.getfield 20, 3) := by decide +kernel
theorem dX2_addUsed_22 : decode cX2_addUsed 22 = .ok (.iload_n 1, 1) := by decide +kernel
theorem dX2_addUsed_23 : decode cX2_addUsed 23 = .ok (.iaload, 1) := by decide +kernel
theorem dX2_addUsed_24 : decode cX2_addUsed 24 = .ok (.bipush 6, 2) := by decide +kernel
theorem dX2_addUsed_26 : decode cX2_addUsed 26 = .ok (.if_icmp .lt 6, 3) := by decide +kernel
theorem dX2_addUsed_29 : decode cX2_addUsed 29 = .ok (.bipush (-2), 2) := by decide +kernel
theorem dX2_addUsed_31 : decode cX2_addUsed 31 = .ok (.ireturn, 1) := by decide +kernel
theorem dX2_addUsed_32 : decode cX2_addUsed 32 = .ok (.aload_n 0, 1) := by decide +kernel
theorem dX2_addUsed_33 : decode cX2_addUsed 33 = .ok (.getfield 23, 3) := by decide +kernel
theorem dX2_addUsed_36 : decode cX2_addUsed 36 = .ok (.iload_n 1, 1) := by decide +kernel
theorem dX2_addUsed_37 : decode cX2_addUsed 37 = .ok (.aaload, 1) := by decide +kernel
theorem dX2_addUsed_38 : decode cX2_addUsed 38 = .ok (.aload_n 0, 1) := by decide +kernel
theorem dX2_addUsed_39 : decode cX2_addUsed 39 = .ok (.getfield 20, 3) := by decide +kernel
theorem dX2_addUsed_42 : decode cX2_addUsed 42 = .ok (.iload_n 1, 1) := by decide +kernel
theorem dX2_addUsed_43 : decode cX2_addUsed 43 = .ok (.iaload, 1) := by decide +kernel
theorem dX2_addUsed_44 : decode cX2_addUsed 44 = .ok (.iload_n 2, 1) := by decide +kernel
theorem dX2_addUsed_45 : decode cX2_addUsed 45 = .ok (.iastore, 1) := by decide +kernel
theorem dX2_addUsed_46 : decode cX2_addUsed 46 = .ok (.aload_n 0, 1) := by decide +kernel
theorem dX2_addUsed_47 : decode cX2_addUsed 47 = .ok (.getfield 20, 3) := by decide +kernel
theorem dX2_addUsed_50 : decode cX2_addUsed 50 = .ok (.iload_n 1, 1) := by decide +kernel
theorem dX2_addUsed_51 : decode cX2_addUsed 51 = .ok (.dup2, 1) := by decide +kernel
theorem dX2_addUsed_52 : decode cX2_addUsed 52 = .ok (.iaload, 1) := by decide +kernel
theorem dX2_addUsed_53 : decode cX2_addUsed 53 = .ok (.iconst 1, 1) := by decide +kernel
theorem dX2_addUsed_54 : decode cX2_addUsed 54 = .ok (.iadd, 1) := by decide +kernel
theorem dX2_addUsed_55 : decode cX2_addUsed 55 = .ok (.iastore, 1) := by decide +kernel
theorem dX2_addUsed_56 : decode cX2_addUsed 56 = .ok (.aload_n 0, 1) := by decide +kernel
theorem dX2_addUsed_57 : decode cX2_addUsed 57 = .ok (.getfield 20, 3) := by decide +kernel
theorem dX2_addUsed_60 : decode cX2_addUsed 60 = .ok (.iload_n 1, 1) := by decide +kernel
theorem dX2_addUsed_61 : decode cX2_addUsed 61 = .ok (.iaload, 1) := by decide +kernel
theorem dX2_addUsed_62 : decode cX2_addUsed 62 = .ok (.ireturn, 1) := by decide +kernel
theorem dX2_addDeed_0 : decode cX2_addDeed 0 = .ok (.aload_n 0, 1) := by decide +kernel
theorem dX2_addDeed_1 : decode cX2_addDeed 1 = .ok (.iload_n 1, 1) := by decide +kernel
theorem dX2_addDeed_2 : decode cX2_addDeed 2 = .ok (.invokevirtual 54, 3) := by decide +kernel
theorem dX2_addDeed_5 : decode cX2_addDeed 5 = .ok (.ifCond .eq 12, 3) := by decide +kernel
theorem dX2_addDeed_8 : decode cX2_addDeed 8 = .ok (.aload_n 0, 1) := by decide +kernel
theorem dX2_addDeed_9 : decode cX2_addDeed 9 = .ok (.iload_n 2, 1) := by decide +kernel
theorem dX2_addDeed_10 : decode cX2_addDeed 10 = .ok (.iload_n 3, 1) := by decide +kernel
theorem dX2_addDeed_11 : decode cX2_addDeed 11 = .ok (.invokevirtual 65, 3) := by decide +kernel
theorem dX2_addDeed_14 : decode cX2_addDeed 14 = .ok (.ifCond .ne 5, 3) := by decide +kernel
theorem dX2_addDeed_17 : decode cX2_addDeed 17 = .ok (.iconst (-1), 1) := by decide +kernel
theorem dX2_addDeed_18 : decode cX2_addDeed 18 = .ok (.ireturn, 1) := by decide +kernel
theorem dX2_addDeed_19 : decode cX2_addDeed 19 = .ok (.aload_n 0, 1) := by decide +kernel
theorem dX2_addDeed_20 : decode cX2_addDeed 20 = .ok (.getfield 26, 3) := by decide +kernel
theorem dX2_addDeed_23 : decode cX2_addDeed 23 = .ok (.iload_n 1, 1) := by decide +kernel
theorem dX2_addDeed_24 : decode cX2_addDeed 24 = .ok (.iaload, 1) := by decide +kernel
theorem dX2_addDeed_25 : decode cX2_addDeed 25 = .ok (.istore 4, 2) := by decide +kernel
theorem dX2_addDeed_27 : decode cX2_addDeed 27 = .ok (.iload 4, 2) := by decide +kernel
theorem dX2_addDeed_29 : decode cX2_addDeed 29 = .ok (.bipush 6, 2) := by decide +kernel
theorem dX2_addDeed_31 : decode cX2_addDeed 31 = .ok (.if_icmp .lt 6, 3) := by decide +kernel
theorem dX2_addDeed_34 : decode cX2_addDeed 34 = .ok (.bipush (-2), 2) := by decide +kernel
theorem dX2_addDeed_36 : decode cX2_addDeed 36 = .ok (.ireturn, 1) := by decide +kernel
theorem dX2_addDeed_37 : decode cX2_addDeed 37 = .ok (.aload_n 0, 1) := by decide +kernel
theorem dX2_addDeed_38 : decode cX2_addDeed 38 = .ok (.getfield 29, 3) := by decide +kernel
theorem dX2_addDeed_41 : decode cX2_addDeed 41 = .ok (.iload_n 1, 1) := by decide +kernel
theorem dX2_addDeed_42 : decode cX2_addDeed 42 = .ok (.aaload, 1) := by decide +kernel
theorem dX2_addDeed_43 : decode cX2_addDeed 43 = .ok (.iload 4, 2) := by decide +kernel
theorem dX2_addDeed_45 : decode cX2_addDeed 45 = .ok (.iload_n 2, 1) := by decide +kernel
theorem dX2_addDeed_46 : decode cX2_addDeed 46 = .ok (.iastore, 1) := by decide +kernel
theorem dX2_addDeed_47 : decode cX2_addDeed 47 = .ok (.aload_n 0, 1) := by decide +kernel
theorem dX2_addDeed_48 : decode cX2_addDeed 48 = .ok (.getfield 32, 3) := by decide +kernel
theorem dX2_addDeed_51 : decode cX2_addDeed 51 = .ok (.iload_n 1, 1) := by decide +kernel
theorem dX2_addDeed_52 : decode cX2_addDeed 52 = .ok (.aaload, 1) := by decide +kernel
theorem dX2_addDeed_53 : decode cX2_addDeed 53 = .ok (.iload 4, 2) := by decide +kernel
theorem dX2_addDeed_55 : decode cX2_addDeed 55 = .ok (.iload_n 3, 1) := by decide +kernel
theorem dX2_addDeed_56 : decode cX2_addDeed 56 = .ok (.iastore, 1) := by decide +kernel
theorem dX2_addDeed_57 : decode cX2_addDeed 57 = .ok (.aload_n 0, 1) := by decide +kernel
theorem dX2_addDeed_58 : decode cX2_addDeed 58 = .ok (.getfield 26, 3) := by decide +kernel
theorem dX2_addDeed_61 : decode cX2_addDeed 61 = .ok (.iload_n 1, 1) := by decide +kernel
theorem dX2_addDeed_62 : decode cX2_addDeed 62 = .ok (.iload 4, 2) := by decide +kernel
theorem dX2_addDeed_64 : decode cX2_addDeed 64 = .ok (.iconst 1, 1) := by decide +kernel
theorem dX2_addDeed_65 : decode cX2_addDeed 65 = .ok (.iadd, 1) := by decide +kernel
theorem dX2_addDeed_66 : decode cX2_addDeed 66 = .ok (.iastore, 1) := by decide +kernel
theorem dX2_addDeed_67 : decode cX2_addDeed 67 = .ok (.iload 4, 2) := by decide +kernel
theorem dX2_addDeed_69 : decode cX2_addDeed 69 = .ok (.iconst 1, 1) := by decide +kernel
theorem dX2_addDeed_70 : decode cX2_addDeed 70 = .ok (.iadd, 1) := by decide +kernel
theorem dX2_addDeed_71 : decode cX2_addDeed 71 = .ok (.ireturn, 1) := by decide +kernel
theorem dX2_isDeed_0 : decode cX2_isDeed 0 = .ok (.iload_n 1, 1) := by decide +kernel
theorem dX2_isDeed_1 : decode cX2_isDeed 1 = .ok (.lookupswitch 39 #[(0, 27), (1, 33)], 27) := by decide +kernel
theorem dX2_isDeed_28 : decode cX2_isDeed 28 = .ok (.aload_n 0, 1) := by decide +kernel
theorem dX2_isDeed_29 : decode cX2_isDeed 29 = .ok (.iload_n 2, 1) := by decide +kernel
theorem dX2_isDeed_30 : decode cX2_isDeed 30 = .ok (.invokevirtual 68, 3) := by decide +kernel
theorem dX2_isDeed_33 : decode cX2_isDeed 33 = .ok (.ireturn, 1) := by decide +kernel
theorem dX2_isDeed_34 : decode cX2_isDeed 34 = .ok (.aload_n 0, 1) := by decide +kernel
theorem dX2_isDeed_35 : decode cX2_isDeed 35 = .ok (.iload_n 2, 1) := by decide +kernel
theorem dX2_isDeed_36 : decode cX2_isDeed 36 = .ok (.invokevirtual 54, 3) := by decide +kernel
theorem dX2_isDeed_39 : decode cX2_isDeed 39 = .ok (.ireturn, 1) := by decide +kernel
theorem dX2_isDeed_40 : decode cX2_isDeed 40 = .ok (.iload_n 1, 1) := by decide +kernel
theorem dX2_isDeed_41 : decode cX2_isDeed 41 = .ok (.iconst 2, 1) := by decide +kernel
theorem dX2_isDeed_42 : decode cX2_isDeed 42 = .ok (.if_icmp .ne 7, 3) := by decide +kernel
theorem dX2_isDeed_45 : decode cX2_isDeed 45 = .ok (.iconst 1, 1) := by decide +kernel
theorem dX2_isDeed_46 : decode cX2_isDeed 46 = .ok (.goto 4, 3) := by decide +kernel
theorem dX2_isDeed_49 : decode cX2_isDeed 49 = .ok (.iconst 0, 1) := by decide +kernel
theorem dX2_isDeed_50 : decode cX2_isDeed 50 = .ok (.ireturn, 1) := by decide +kernel
theorem dX2_addConstant_0 : decode cX2_addConstant 0 = .ok (.aload_n 0, 1) := by decide +kernel
theorem dX2_addConstant_1 : decode cX2_addConstant 1 = .ok (.iload_n 1, 1) := by decide +kernel
theorem dX2_addConstant_2 : decode cX2_addConstant 2 = .ok (.invokevirtual 54, 3) := by decide +kernel
theorem dX2_addConstant_5 : decode cX2_addConstant 5 = .ok (.ifCond .eq 16, 3) := by decide +kernel
theorem dX2_addConstant_8 : decode cX2_addConstant 8 = .ok (.aload_n 0, 1) := by decide +kernel
theorem dX2_addConstant_9 : decode cX2_addConstant 9 = .ok (.iload_n 2, 1) := by decide +kernel
theorem dX2_addConstant_10 : decode cX2_addConstant 10 = .ok (.iload_n 3, 1) := by decide +kernel
theorem dX2_addConstant_11 : decode cX2_addConstant 11 = .ok (.iload 4, 2) := by decide +kernel
theorem dX2_addConstant_13 : decode cX2_addConstant 13 = .ok (.iload 5, 2) := by decide +kernel
theorem dX2_addConstant_15 : decode cX2_addConstant 15 = .ok (.invokevirtual 71, 3) := by decide +kernel
theorem dX2_addConstant_18 : decode cX2_addConstant 18 = .ok (.ifCond .ne 5, 3) := by decide +kernel
theorem dX2_addConstant_21 : decode cX2_addConstant 21 = .ok (.iconst (-1), 1) := by decide +kernel
theorem dX2_addConstant_22 : decode cX2_addConstant 22 = .ok (.ireturn, 1) := by decide +kernel
theorem dX2_addConstant_23 : decode cX2_addConstant 23 = .ok (.aload_n 0, 1) := by decide +kernel
theorem dX2_addConstant_24 : decode cX2_addConstant 24 = .ok (.getfield 58, 3) := by decide +kernel
theorem dX2_addConstant_27 : decode cX2_addConstant 27 = .ok (.bipush 40, 2) := by decide +kernel
theorem dX2_addConstant_29 : decode cX2_addConstant 29 = .ok (.if_icmp .lt 6, 3) := by decide +kernel
theorem dX2_addConstant_32 : decode cX2_addConstant 32 = .ok (.bipush (-2), 2) := by decide +kernel
theorem dX2_addConstant_34 : decode cX2_addConstant 34 = .ok (.ireturn, 1) := by decide +kernel
theorem dX2_addConstant_35 : decode cX2_addConstant 35 = .ok (.aload_n 0, 1) := by decide +kernel
theorem dX2_addConstant_36 : decode cX2_addConstant 36 = .ok (.getfield 35, 3) := by decide +kernel
theorem dX2_addConstant_39 : decode cX2_addConstant 39 = .ok (.aload_n 0, 1) := by decide +kernel
theorem dX2_addConstant_40 : decode cX2_addConstant 40 = .ok (.getfield 58, 3) := by decide +kernel
theorem dX2_addConstant_43 : decode cX2_addConstant 43 = .ok (.iload_n 1, 1) := by decide +kernel
theorem dX2_addConstant_44 : decode cX2_addConstant 44 = .ok (.iastore, 1) := by decide +kernel
theorem dX2_addConstant_45 : decode cX2_addConstant 45 = .ok (.aload_n 0, 1) := by decide +kernel
theorem dX2_addConstant_46 : decode cX2_addConstant 46 = .ok (.getfield 38, 3) := by decide +kernel
theorem dX2_addConstant_49 : decode cX2_addConstant 49 = .ok (.aload_n 0, 1) := by decide +kernel
theorem dX2_addConstant_50 : decode cX2_addConstant 50 = .ok (.getfield 58, 3) := by decide +kernel
theorem dX2_addConstant_53 : decode cX2_addConstant 53 = .ok (.iload_n 2, 1) := by decide +kernel
theorem dX2_addConstant_54 : decode cX2_addConstant 54 = .ok (.iastore, 1) := by decide +kernel
theorem dX2_addConstant_55 : decode cX2_addConstant 55 = .ok (.aload_n 0, 1) := by decide +kernel
theorem dX2_addConstant_56 : decode cX2_addConstant 56 = .ok (.getfield 41, 3) := by decide +kernel
theorem dX2_addConstant_59 : decode cX2_addConstant 59 = .ok (.aload_n 0, 1) := by decide +kernel
theorem dX2_addConstant_60 : decode cX2_addConstant 60 = .ok (.getfield 58, 3) := by decide +kernel
theorem dX2_addConstant_63 : decode cX2_addConstant 63 = .ok (.iload_n 3, 1) := by decide +kernel
theorem dX2_addConstant_64 : decode cX2_addConstant 64 = .ok (.iastore, 1) := by decide +kernel
theorem dX2_addConstant_65 : decode cX2_addConstant 65 = .ok (.aload_n 0, 1) := by decide +kernel
theorem dX2_addConstant_66 : decode cX2_addConstant 66 = .ok (.getfield 44, 3) := by decide +kernel
theorem dX2_addConstant_69 : decode cX2_addConstant 69 = .ok (.aload_n 0, 1) := by decide +kernel
theorem dX2_addConstant_70 : decode cX2_addConstant 70 = .ok (.getfield 58, 3) := by decide +kernel
theorem dX2_addConstant_73 : decode cX2_addConstant 73 = .ok (.iload 4, 2) := by decide +kernel
theorem dX2_addConstant_75 : decode cX2_addConstant 75 = .ok (.iastore, 1) := by decide +kernel
theorem dX2_addConstant_76 : decode cX2_addConstant 76 = .ok (.aload_n 0, 1) := by decide +kernel
theorem dX2_addConstant_77 : decode cX2_addConstant 77 = .ok (.getfield 47, 3) := by decide +kernel
theorem dX2_addConstant_80 : decode cX2_addConstant 80 = .ok (.aload_n 0, 1) := by decide +kernel
theorem dX2_addConstant_81 : decode cX2_addConstant 81 = .ok (.getfield 58, 3) := by decide +kernel
theorem dX2_addConstant_84 : decode cX2_addConstant 84 = .ok (.iload 5, 2) := by decide +kernel
theorem dX2_addConstant_86 : decode cX2_addConstant 86 = .ok (.iastore, 1) := by decide +kernel
theorem dX2_addConstant_87 : decode cX2_addConstant 87 = .ok (.aload_n 0, 1) := by decide +kernel
theorem dX2_addConstant_88 : decode cX2_addConstant 88 = .ok (.dup, 1) := by decide +kernel
theorem dX2_addConstant_89 : decode cX2_addConstant 89 = .ok (.getfield 58, 3) := by decide +kernel
theorem dX2_addConstant_92 : decode cX2_addConstant 92 = .ok (.dup_x1, 1) := by decide +kernel
theorem dX2_addConstant_93 : decode cX2_addConstant 93 = .ok (.iconst 1, 1) := by decide +kernel
theorem dX2_addConstant_94 : decode cX2_addConstant 94 = .ok (.iadd, 1) := by decide +kernel
theorem dX2_addConstant_95 : decode cX2_addConstant 95 = .ok (.putfield 58, 3) := by decide +kernel
theorem dX2_addConstant_98 : decode cX2_addConstant 98 = .ok (.ireturn, 1) := by decide +kernel
theorem dX2_isFormula_0 : decode cX2_isFormula 0 = .ok (.iload_n 1, 1) := by decide +kernel
theorem dX2_isFormula_1 : decode cX2_isFormula 1 = .ok (.ifCond .lt 11, 3) := by decide +kernel
theorem dX2_isFormula_4 : decode cX2_isFormula 4 = .ok (.iload_n 1, 1) := by decide +kernel
theorem dX2_isFormula_5 : decode cX2_isFormula 5 = .ok (.getstatic 75, 3) := by decide +kernel
theorem dX2_isFormula_8 : decode cX2_isFormula 8 = .ok (.arraylength, 1) := by decide +kernel
theorem dX2_isFormula_9 : decode cX2_isFormula 9 = .ok (.if_icmp .lt 5, 3) := by decide +kernel
theorem dX2_isFormula_12 : decode cX2_isFormula 12 = .ok (.iconst 0, 1) := by decide +kernel
theorem dX2_isFormula_13 : decode cX2_isFormula 13 = .ok (.ireturn, 1) := by decide +kernel
theorem dX2_isFormula_14 : decode cX2_isFormula 14 = .ok (.iload_n 1, 1) := by decide +kernel
theorem dX2_isFormula_15 : decode cX2_isFormula 15 = .ok (.bipush 8, 2) := by decide +kernel
theorem dX2_isFormula_17 : decode cX2_isFormula 17 = .ok (.if_icmp .eq 15, 3) := by decide +kernel
theorem dX2_isFormula_20 : decode cX2_isFormula 20 = .ok (.iload_n 1, 1) := by decide +kernel
theorem dX2_isFormula_21 : decode cX2_isFormula 21 = .ok (.bipush 9, 2) := by decide +kernel
theorem dX2_isFormula_23 : decode cX2_isFormula 23 = .ok (.if_icmp .eq 9, 3) := by decide +kernel
theorem dX2_isFormula_26 : decode cX2_isFormula 26 = .ok (.iload_n 1, 1) := by decide +kernel
theorem dX2_isFormula_27 : decode cX2_isFormula 27 = .ok (.bipush 10, 2) := by decide +kernel
theorem dX2_isFormula_29 : decode cX2_isFormula 29 = .ok (.if_icmp .ne 9, 3) := by decide +kernel
theorem dX2_isFormula_32 : decode cX2_isFormula 32 = .ok (.aload_n 0, 1) := by decide +kernel
theorem dX2_isFormula_33 : decode cX2_isFormula 33 = .ok (.iload_n 2, 1) := by decide +kernel
theorem dX2_isFormula_34 : decode cX2_isFormula 34 = .ok (.invokevirtual 54, 3) := by decide +kernel
theorem dX2_isFormula_37 : decode cX2_isFormula 37 = .ok (.ireturn, 1) := by decide +kernel
theorem dX2_isFormula_38 : decode cX2_isFormula 38 = .ok (.getstatic 75, 3) := by decide +kernel
theorem dX2_isFormula_41 : decode cX2_isFormula 41 = .ok (.iload_n 1, 1) := by decide +kernel
theorem dX2_isFormula_42 : decode cX2_isFormula 42 = .ok (.iaload, 1) := by decide +kernel
theorem dX2_isFormula_43 : decode cX2_isFormula 43 = .ok (.istore 5, 2) := by decide +kernel
theorem dX2_isFormula_45 : decode cX2_isFormula 45 = .ok (.iload 5, 2) := by decide +kernel
theorem dX2_isFormula_47 : decode cX2_isFormula 47 = .ok (.iconst 1, 1) := by decide +kernel
theorem dX2_isFormula_48 : decode cX2_isFormula 48 = .ok (.if_icmp .lt 11, 3) := by decide +kernel
theorem dX2_isFormula_51 : decode cX2_isFormula 51 = .ok (.aload_n 0, 1) := by decide +kernel
theorem dX2_isFormula_52 : decode cX2_isFormula 52 = .ok (.iload_n 2, 1) := by decide +kernel
theorem dX2_isFormula_53 : decode cX2_isFormula 53 = .ok (.invokevirtual 68, 3) := by decide +kernel
theorem dX2_isFormula_56 : decode cX2_isFormula 56 = .ok (.ifCond .eq 36, 3) := by decide +kernel
theorem dX2_isFormula_59 : decode cX2_isFormula 59 = .ok (.iload 5, 2) := by decide +kernel
theorem dX2_isFormula_61 : decode cX2_isFormula 61 = .ok (.iconst 2, 1) := by decide +kernel
theorem dX2_isFormula_62 : decode cX2_isFormula 62 = .ok (.if_icmp .lt 11, 3) := by decide +kernel
theorem dX2_isFormula_65 : decode cX2_isFormula 65 = .ok (.aload_n 0, 1) := by decide +kernel
theorem dX2_isFormula_66 : decode cX2_isFormula 66 = .ok (.iload_n 3, 1) := by decide +kernel
theorem dX2_isFormula_67 : decode cX2_isFormula 67 = .ok (.invokevirtual 68, 3) := by decide +kernel
theorem dX2_isFormula_70 : decode cX2_isFormula 70 = .ok (.ifCond .eq 22, 3) := by decide +kernel
theorem dX2_isFormula_73 : decode cX2_isFormula 73 = .ok (.iload 5, 2) := by decide +kernel
theorem dX2_isFormula_75 : decode cX2_isFormula 75 = .ok (.iconst 3, 1) := by decide +kernel
theorem dX2_isFormula_76 : decode cX2_isFormula 76 = .ok (.if_icmp .lt 12, 3) := by decide +kernel
theorem dX2_isFormula_79 : decode cX2_isFormula 79 = .ok (.aload_n 0, 1) := by decide +kernel
theorem dX2_isFormula_80 : decode cX2_isFormula 80 = .ok (.iload 4, 2) := by decide +kernel
theorem dX2_isFormula_82 : decode cX2_isFormula 82 = .ok (.invokevirtual 68, 3) := by decide +kernel
theorem dX2_isFormula_85 : decode cX2_isFormula 85 = .ok (.ifCond .eq 7, 3) := by decide +kernel
theorem dX2_isFormula_88 : decode cX2_isFormula 88 = .ok (.iconst 1, 1) := by decide +kernel
theorem dX2_isFormula_89 : decode cX2_isFormula 89 = .ok (.goto 4, 3) := by decide +kernel
theorem dX2_isFormula_92 : decode cX2_isFormula 92 = .ok (.iconst 0, 1) := by decide +kernel
theorem dX2_isFormula_93 : decode cX2_isFormula 93 = .ok (.ireturn, 1) := by decide +kernel
theorem dX2_mayBeConstant_0 : decode cX2_mayBeConstant 0 = .ok (.iload_n 1, 1) := by decide +kernel
theorem dX2_mayBeConstant_1 : decode cX2_mayBeConstant 1 = .ok (.ifCond .lt 13, 3) := by decide +kernel
theorem dX2_mayBeConstant_4 : decode cX2_mayBeConstant 4 = .ok (.iload_n 1, 1) := by decide +kernel
theorem dX2_mayBeConstant_5 : decode cX2_mayBeConstant 5 = .ok (.bipush 40, 2) := by decide +kernel
theorem dX2_mayBeConstant_7 : decode cX2_mayBeConstant 7 = .ok (.if_icmp .ge 7, 3) := by decide +kernel
theorem dX2_mayBeConstant_10 : decode cX2_mayBeConstant 10 = .ok (.iconst 1, 1) := by decide +kernel
theorem dX2_mayBeConstant_11 : decode cX2_mayBeConstant 11 = .ok (.goto 4, 3) := by decide +kernel
theorem dX2_mayBeConstant_14 : decode cX2_mayBeConstant 14 = .ok (.iconst 0, 1) := by decide +kernel
theorem dX2_mayBeConstant_15 : decode cX2_mayBeConstant 15 = .ok (.ireturn, 1) := by decide +kernel
theorem dX2_countConstants_0 : decode cX2_countConstants 0 = .ok (.iconst 0, 1) := by decide +kernel
theorem dX2_countConstants_1 : decode cX2_countConstants 1 = .ok (.istore_n 2, 1) := by decide +kernel
theorem dX2_countConstants_2 : decode cX2_countConstants 2 = .ok (.iconst 0, 1) := by decide +kernel
theorem dX2_countConstants_3 : decode cX2_countConstants 3 = .ok (.istore_n 3, 1) := by decide +kernel
theorem dX2_countConstants_4 : decode cX2_countConstants 4 = .ok (.iload_n 3, 1) := by decide +kernel
theorem dX2_countConstants_5 : decode cX2_countConstants 5 = .ok (.aload_n 0, 1) := by decide +kernel
theorem dX2_countConstants_6 : decode cX2_countConstants 6 = .ok (.getfield 58, 3) := by decide +kernel
theorem dX2_countConstants_9 : decode cX2_countConstants 9 = .ok (.if_icmp .ge 22, 3) := by decide +kernel
theorem dX2_countConstants_12 : decode cX2_countConstants 12 = .ok (.aload_n 0, 1) := by decide +kernel
theorem dX2_countConstants_13 : decode cX2_countConstants 13 = .ok (.getfield 35, 3) := by decide +kernel
theorem dX2_countConstants_16 : decode cX2_countConstants 16 = .ok (.iload_n 3, 1) := by decide +kernel
theorem dX2_countConstants_17 : decode cX2_countConstants 17 = .ok (.iaload, 1) := by decide +kernel
theorem dX2_countConstants_18 : decode cX2_countConstants 18 = .ok (.iload_n 1, 1) := by decide +kernel
theorem dX2_countConstants_19 : decode cX2_countConstants 19 = .ok (.if_icmp .ne 6, 3) := by decide +kernel
theorem dX2_countConstants_22 : decode cX2_countConstants 22 = .ok (.iinc 2 1, 3) := by decide +kernel
theorem dX2_countConstants_25 : decode cX2_countConstants 25 = .ok (.iinc 3 1, 3) := by decide +kernel
theorem dX2_countConstants_28 : decode cX2_countConstants 28 = .ok (.goto (-24), 3) := by decide +kernel
theorem dX2_countConstants_31 : decode cX2_countConstants 31 = .ok (.iload_n 2, 1) := by decide +kernel
theorem dX2_countConstants_32 : decode cX2_countConstants 32 = .ok (.ireturn, 1) := by decide +kernel
theorem dX3_init_0 : decode cX3_init 0 = .ok (.aload_n 0, 1) := by decide +kernel
theorem dX3_init_1 : decode cX3_init 1 = .ok (.invokespecial 3, 3) := by decide +kernel
theorem dX3_init_4 : decode cX3_init 4 = .ok (.aload_n 0, 1) := by decide +kernel
theorem dX3_init_5 : decode cX3_init 5 = .ok (.sipush 200, 3) := by decide +kernel
theorem dX3_init_8 : decode cX3_init 8 = .ok (.newarray .int, 2) := by decide +kernel
theorem dX3_init_10 : decode cX3_init 10 = .ok (.putfield 9, 3) := by decide +kernel
theorem dX3_init_13 : decode cX3_init 13 = .ok (.aload_n 0, 1) := by decide +kernel
theorem dX3_init_14 : decode cX3_init 14 = .ok (.sipush 200, 3) := by decide +kernel
theorem dX3_init_17 : decode cX3_init 17 = .ok (.newarray .int, 2) := by decide +kernel
theorem dX3_init_19 : decode cX3_init 19 = .ok (.putfield 15, 3) := by decide +kernel
theorem dX3_init_22 : decode cX3_init 22 = .ok (.return_, 1) := by decide +kernel
theorem dX3_clear_0 : decode cX3_clear 0 = .ok (.aload_n 0, 1) := by decide +kernel
theorem dX3_clear_1 : decode cX3_clear 1 = .ok (.iconst 0, 1) := by decide +kernel
theorem dX3_clear_2 : decode cX3_clear 2 = .ok (.putfield 18, 3) := by decide +kernel
theorem dX3_clear_5 : decode cX3_clear 5 = .ok (.return_, 1) := by decide +kernel
theorem dX3_note_0 : decode cX3_note 0 = .ok (.aload_n 0, 1) := by decide +kernel
theorem dX3_note_1 : decode cX3_note 1 = .ok (.getfield 18, 3) := by decide +kernel
theorem dX3_note_4 : decode cX3_note 4 = .ok (.sipush 200, 3) := by decide +kernel
theorem dX3_note_7 : decode cX3_note 7 = .ok (.if_icmp .ge 33, 3) := by decide +kernel
theorem dX3_note_10 : decode cX3_note 10 = .ok (.aload_n 0, 1) := by decide +kernel
theorem dX3_note_11 : decode cX3_note 11 = .ok (.getfield 9, 3) := by decide +kernel
theorem dX3_note_14 : decode cX3_note 14 = .ok (.aload_n 0, 1) := by decide +kernel
theorem dX3_note_15 : decode cX3_note 15 = .ok (.getfield 18, 3) := by decide +kernel
theorem dX3_note_18 : decode cX3_note 18 = .ok (.iload_n 1, 1) := by decide +kernel
theorem dX3_note_19 : decode cX3_note 19 = .ok (.iastore, 1) := by decide +kernel
theorem dX3_note_20 : decode cX3_note 20 = .ok (.aload_n 0, 1) := by decide +kernel
theorem dX3_note_21 : decode cX3_note 21 = .ok (.getfield 15, 3) := by decide +kernel
theorem dX3_note_24 : decode cX3_note 24 = .ok (.aload_n 0, 1) := by decide +kernel
theorem dX3_note_25 : decode cX3_note 25 = .ok (.getfield 18, 3) := by decide +kernel
theorem dX3_note_28 : decode cX3_note 28 = .ok (.iload_n 2, 1) := by decide +kernel
theorem dX3_note_29 : decode cX3_note 29 = .ok (.iastore, 1) := by decide +kernel
theorem dX3_note_30 : decode cX3_note 30 = .ok (.aload_n 0, 1) := by decide +kernel
theorem dX3_note_31 : decode cX3_note 31 = .ok (.dup, 1) := by decide +kernel
theorem dX3_note_32 : decode cX3_note 32 = .ok (.getfield 18, 3) := by decide +kernel
theorem dX3_note_35 : decode cX3_note 35 = .ok (.iconst 1, 1) := by decide +kernel
theorem dX3_note_36 : decode cX3_note 36 = .ok (.iadd, 1) := by decide +kernel
theorem dX3_note_37 : decode cX3_note 37 = .ok (.putfield 18, 3) := by decide +kernel
theorem dX3_note_40 : decode cX3_note 40 = .ok (.return_, 1) := by decide +kernel
theorem dX4_init_0 : decode cX4_init 0 = .ok (.aload_n 0, 1) := by decide +kernel
theorem dX4_init_1 : decode cX4_init 1 = .ok (.invokespecial 3, 3) := by decide +kernel
theorem dX4_init_4 : decode cX4_init 4 = .ok (.aload_n 0, 1) := by decide +kernel
theorem dX4_init_5 : decode cX4_init 5 = .ok (.new 9, 3) := by decide +kernel
theorem dX4_init_8 : decode cX4_init 8 = .ok (.dup, 1) := by decide +kernel
theorem dX4_init_9 : decode cX4_init 9 = .ok (.invokespecial 11, 3) := by decide +kernel
theorem dX4_init_12 : decode cX4_init 12 = .ok (.putfield 12, 3) := by decide +kernel
theorem dX4_init_15 : decode cX4_init 15 = .ok (.aload_n 0, 1) := by decide +kernel
theorem dX4_init_16 : decode cX4_init 16 = .ok (.new 16, 3) := by decide +kernel
theorem dX4_init_19 : decode cX4_init 19 = .ok (.dup, 1) := by decide +kernel
theorem dX4_init_20 : decode cX4_init 20 = .ok (.invokespecial 18, 3) := by decide +kernel
theorem dX4_init_23 : decode cX4_init 23 = .ok (.putfield 19, 3) := by decide +kernel
theorem dX4_init_26 : decode cX4_init 26 = .ok (.aload_n 0, 1) := by decide +kernel
theorem dX4_init_27 : decode cX4_init 27 = .ok (.iconst 3, 1) := by decide +kernel
theorem dX4_init_28 : decode cX4_init 28 = .ok (.anewarray 23, 3) := by decide +kernel
theorem dX4_init_31 : decode cX4_init 31 = .ok (.putfield 25, 3) := by decide +kernel
theorem dX4_init_34 : decode cX4_init 34 = .ok (.iconst 0, 1) := by decide +kernel
theorem dX4_init_35 : decode cX4_init 35 = .ok (.istore_n 1, 1) := by decide +kernel
theorem dX4_init_36 : decode cX4_init 36 = .ok (.iload_n 1, 1) := by decide +kernel
theorem dX4_init_37 : decode cX4_init 37 = .ok (.iconst 3, 1) := by decide +kernel
theorem dX4_init_38 : decode cX4_init 38 = .ok (.if_icmp .ge 30, 3) := by decide +kernel
theorem dX4_init_41 : decode cX4_init 41 = .ok (.aload_n 0, 1) := by decide +kernel
theorem dX4_init_42 : decode cX4_init 42 = .ok (.getfield 25, 3) := by decide +kernel
theorem dX4_init_45 : decode cX4_init 45 = .ok (.iload_n 1, 1) := by decide +kernel
theorem dX4_init_46 : decode cX4_init 46 = .ok (.new 23, 3) := by decide +kernel
theorem dX4_init_49 : decode cX4_init 49 = .ok (.dup, 1) := by decide +kernel
theorem dX4_init_50 : decode cX4_init 50 = .ok (.aload_n 0, 1) := by decide +kernel
theorem dX4_init_51 : decode cX4_init 51 = .ok (.getfield 12, 3) := by decide +kernel
theorem dX4_init_54 : decode cX4_init 54 = .ok (.aload_n 0, 1) := by decide +kernel
theorem dX4_init_55 : decode cX4_init 55 = .ok (.getfield 19, 3) := by decide +kernel
theorem dX4_init_58 : decode cX4_init 58 = .ok (.invokespecial 29, 3) := by decide +kernel
theorem dX4_init_61 : decode cX4_init 61 = .ok (.aastore, 1) := by decide +kernel
theorem dX4_init_62 : decode cX4_init 62 = .ok (.iinc 1 1, 3) := by decide +kernel
theorem dX4_init_65 : decode cX4_init 65 = .ok (.goto (-29), 3) := by decide +kernel
theorem dX4_init_68 : decode cX4_init 68 = .ok (.aload_n 0, 1) := by decide +kernel
theorem dX4_init_69 : decode cX4_init 69 = .ok (.new 32, 3) := by decide +kernel
theorem dX4_init_72 : decode cX4_init 72 = .ok (.dup, 1) := by decide +kernel
theorem dX4_init_73 : decode cX4_init 73 = .ok (.invokespecial 34, 3) := by decide +kernel
theorem dX4_init_76 : decode cX4_init 76 = .ok (.putfield 35, 3) := by decide +kernel
theorem dX4_init_79 : decode cX4_init 79 = .ok (.aload_n 0, 1) := by decide +kernel
theorem dX4_init_80 : decode cX4_init 80 = .ok (.new 23, 3) := by decide +kernel
theorem dX4_init_83 : decode cX4_init 83 = .ok (.dup, 1) := by decide +kernel
theorem dX4_init_84 : decode cX4_init 84 = .ok (.aload_n 0, 1) := by decide +kernel
theorem dX4_init_85 : decode cX4_init 85 = .ok (.getfield 12, 3) := by decide +kernel
theorem dX4_init_88 : decode cX4_init 88 = .ok (.new 16, 3) := by decide +kernel
theorem dX4_init_91 : decode cX4_init 91 = .ok (.dup, 1) := by decide +kernel
theorem dX4_init_92 : decode cX4_init 92 = .ok (.invokespecial 18, 3) := by decide +kernel
theorem dX4_init_95 : decode cX4_init 95 = .ok (.invokespecial 29, 3) := by decide +kernel
theorem dX4_init_98 : decode cX4_init 98 = .ok (.putfield 39, 3) := by decide +kernel
theorem dX4_init_101 : decode cX4_init 101 = .ok (.aload_n 0, 1) := by decide +kernel
theorem dX4_init_102 : decode cX4_init 102 = .ok (.bipush 40, 2) := by decide +kernel
theorem dX4_init_104 : decode cX4_init 104 = .ok (.newarray .int, 2) := by decide +kernel
theorem dX4_init_106 : decode cX4_init 106 = .ok (.putfield 43, 3) := by decide +kernel
theorem dX4_init_109 : decode cX4_init 109 = .ok (.aload_n 0, 1) := by decide +kernel
theorem dX4_init_110 : decode cX4_init 110 = .ok (.bipush 40, 2) := by decide +kernel
theorem dX4_init_112 : decode cX4_init 112 = .ok (.newarray .int, 2) := by decide +kernel
theorem dX4_init_114 : decode cX4_init 114 = .ok (.putfield 47, 3) := by decide +kernel
theorem dX4_init_117 : decode cX4_init 117 = .ok (.aload_n 0, 1) := by decide +kernel
theorem dX4_init_118 : decode cX4_init 118 = .ok (.bipush 40, 2) := by decide +kernel
theorem dX4_init_120 : decode cX4_init 120 = .ok (.newarray .int, 2) := by decide +kernel
theorem dX4_init_122 : decode cX4_init 122 = .ok (.putfield 50, 3) := by decide +kernel
theorem dX4_init_125 : decode cX4_init 125 = .ok (.return_, 1) := by decide +kernel
theorem dX4_module_0 : decode cX4_module 0 = .ok (.aload_n 0, 1) := by decide +kernel
theorem dX4_module_1 : decode cX4_module 1 = .ok (.getfield 12, 3) := by decide +kernel
theorem dX4_module_4 : decode cX4_module 4 = .ok (.iload_n 1, 1) := by decide +kernel
theorem dX4_module_5 : decode cX4_module 5 = .ok (.invokevirtual 53, 3) := by decide +kernel
theorem dX4_module_8 : decode cX4_module 8 = .ok (.ireturn, 1) := by decide +kernel
theorem dX4_item_0 : decode cX4_item 0 = .ok (.aload_n 0, 1) := by decide +kernel
theorem dX4_item_1 : decode cX4_item 1 = .ok (.getfield 12, 3) := by decide +kernel
theorem dX4_item_4 : decode cX4_item 4 = .ok (.iload_n 1, 1) := by decide +kernel
theorem dX4_item_5 : decode cX4_item 5 = .ok (.iload_n 2, 1) := by decide +kernel
theorem dX4_item_6 : decode cX4_item 6 = .ok (.iload_n 3, 1) := by decide +kernel
theorem dX4_item_7 : decode cX4_item 7 = .ok (.invokevirtual 57, 3) := by decide +kernel
theorem dX4_item_10 : decode cX4_item 10 = .ok (.ireturn, 1) := by decide +kernel
theorem dX4_uses_0 : decode cX4_uses 0 = .ok (.aload_n 0, 1) := by decide +kernel
theorem dX4_uses_1 : decode cX4_uses 1 = .ok (.getfield 12, 3) := by decide +kernel
theorem dX4_uses_4 : decode cX4_uses 4 = .ok (.iload_n 1, 1) := by decide +kernel
theorem dX4_uses_5 : decode cX4_uses 5 = .ok (.iload_n 2, 1) := by decide +kernel
theorem dX4_uses_6 : decode cX4_uses 6 = .ok (.invokevirtual 61, 3) := by decide +kernel
theorem dX4_uses_9 : decode cX4_uses 9 = .ok (.ireturn, 1) := by decide +kernel
theorem dX4_deed_0 : decode cX4_deed 0 = .ok (.aload_n 0, 1) := by decide +kernel
theorem dX4_deed_1 : decode cX4_deed 1 = .ok (.getfield 12, 3) := by decide +kernel
theorem dX4_deed_4 : decode cX4_deed 4 = .ok (.iload_n 1, 1) := by decide +kernel
theorem dX4_deed_5 : decode cX4_deed 5 = .ok (.iload_n 2, 1) := by decide +kernel
theorem dX4_deed_6 : decode cX4_deed 6 = .ok (.iload_n 3, 1) := by decide +kernel
theorem dX4_deed_7 : decode cX4_deed 7 = .ok (.invokevirtual 65, 3) := by decide +kernel
theorem dX4_deed_10 : decode cX4_deed 10 = .ok (.ireturn, 1) := by decide +kernel
theorem dX4_constant_0 : decode cX4_constant 0 = .ok (.aload_n 0, 1) := by decide +kernel
theorem dX4_constant_1 : decode cX4_constant 1 = .ok (.getfield 12, 3) := by decide +kernel
theorem dX4_constant_4 : decode cX4_constant 4 = .ok (.iload_n 1, 1) := by decide +kernel
theorem dX4_constant_5 : decode cX4_constant 5 = .ok (.iload_n 2, 1) := by decide +kernel
theorem dX4_constant_6 : decode cX4_constant 6 = .ok (.iload_n 3, 1) := by decide +kernel
theorem dX4_constant_7 : decode cX4_constant 7 = .ok (.iload 4, 2) := by decide +kernel
theorem dX4_constant_9 : decode cX4_constant 9 = .ok (.iload 5, 2) := by decide +kernel
theorem dX4_constant_11 : decode cX4_constant 11 = .ok (.invokevirtual 68, 3) := by decide +kernel
theorem dX4_constant_14 : decode cX4_constant 14 = .ok (.ireturn, 1) := by decide +kernel
theorem dX4_need_0 : decode cX4_need 0 = .ok (.aload_n 0, 1) := by decide +kernel
theorem dX4_need_1 : decode cX4_need 1 = .ok (.iload_n 1, 1) := by decide +kernel
theorem dX4_need_2 : decode cX4_need 2 = .ok (.invokevirtual 72, 3) := by decide +kernel
theorem dX4_need_5 : decode cX4_need 5 = .ok (.astore_n 3, 1) := by decide +kernel
theorem dX4_need_6 : decode cX4_need 6 = .ok (.aload_n 3, 1) := by decide +kernel
theorem dX4_need_7 : decode cX4_need 7 = .ok (.ifnull 14, 3) := by decide +kernel
theorem dX4_need_10 : decode cX4_need 10 = .ok (.aload_n 0, 1) := by decide +kernel
theorem dX4_need_11 : decode cX4_need 11 = .ok (.getfield 12, 3) := by decide +kernel
theorem dX4_need_14 : decode cX4_need 14 = .ok (.iload_n 2, 1) := by decide +kernel
theorem dX4_need_15 : decode cX4_need 15 = .ok (.invokevirtual 76, 3) := by decide +kernel
theorem dX4_need_18 : decode cX4_need 18 = .ok (.ifCond .ne 5, 3) := by decide +kernel
theorem dX4_need_21 : decode cX4_need 21 = .ok (.iconst (-1), 1) := by decide +kernel
theorem dX4_need_22 : decode cX4_need 22 = .ok (.ireturn, 1) := by decide +kernel
theorem dX4_need_23 : decode cX4_need 23 = .ok (.aload_n 0, 1) := by decide +kernel
theorem dX4_need_24 : decode cX4_need 24 = .ok (.getfield 19, 3) := by decide +kernel
theorem dX4_need_27 : decode cX4_need 27 = .ok (.invokevirtual 80, 3) := by decide +kernel
theorem dX4_need_30 : decode cX4_need 30 = .ok (.aload_n 3, 1) := by decide +kernel
theorem dX4_need_31 : decode cX4_need 31 = .ok (.iload_n 2, 1) := by decide +kernel
theorem dX4_need_32 : decode cX4_need 32 = .ok (.iconst 0, 1) := by decide +kernel
theorem dX4_need_33 : decode cX4_need 33 = .ok (.invokevirtual 83, 3) := by decide +kernel
theorem dX4_need_36 : decode cX4_need 36 = .ok (.istore 4, 2) := by decide +kernel
theorem dX4_need_38 : decode cX4_need 38 = .ok (.iload 4, 2) := by decide +kernel
theorem dX4_need_40 : decode cX4_need 40 = .ok (.ifCond .eq 14, 3) := by decide +kernel
theorem dX4_need_43 : decode cX4_need 43 = .ok (.aload_n 0, 1) := by decide +kernel
theorem dX4_need_44 : decode cX4_need 44 = .ok (.aload_n 3, 1) := by decide +kernel
theorem dX4_need_45 : decode cX4_need 45 = .ok (.getfield 87, 3) := by decide +kernel
theorem dX4_need_48 : decode cX4_need 48 = .ok (.getfield 90, 3) := by decide +kernel
theorem dX4_need_51 : decode cX4_need 51 = .ok (.putfield 94, 3) := by decide +kernel
theorem dX4_need_54 : decode cX4_need 54 = .ok (.aload_n 0, 1) := by decide +kernel
theorem dX4_need_55 : decode cX4_need 55 = .ok (.aload_n 3, 1) := by decide +kernel
theorem dX4_need_56 : decode cX4_need 56 = .ok (.iload 4, 2) := by decide +kernel
theorem dX4_need_58 : decode cX4_need 58 = .ok (.invokevirtual 97, 3) := by decide +kernel
theorem dX4_need_61 : decode cX4_need 61 = .ok (.ireturn, 1) := by decide +kernel
theorem dX4_value_0 : decode cX4_value 0 = .ok (.aload_n 0, 1) := by decide +kernel
theorem dX4_value_1 : decode cX4_value 1 = .ok (.getfield 94, 3) := by decide +kernel
theorem dX4_value_4 : decode cX4_value 4 = .ok (.ireturn, 1) := by decide +kernel
theorem dX4_start_0 : decode cX4_start 0 = .ok (.aload_n 0, 1) := by decide +kernel
theorem dX4_start_1 : decode cX4_start 1 = .ok (.iload_n 1, 1) := by decide +kernel
theorem dX4_start_2 : decode cX4_start 2 = .ok (.invokevirtual 72, 3) := by decide +kernel
theorem dX4_start_5 : decode cX4_start 5 = .ok (.astore_n 3, 1) := by decide +kernel
theorem dX4_start_6 : decode cX4_start 6 = .ok (.aload_n 3, 1) := by decide +kernel
theorem dX4_start_7 : decode cX4_start 7 = .ok (.ifnull 14, 3) := by decide +kernel
theorem dX4_start_10 : decode cX4_start 10 = .ok (.aload_n 0, 1) := by decide +kernel
theorem dX4_start_11 : decode cX4_start 11 = .ok (.getfield 12, 3) := by decide +kernel
theorem dX4_start_14 : decode cX4_start 14 = .ok (.iload_n 2, 1) := by decide +kernel
theorem dX4_start_15 : decode cX4_start 15 = .ok (.invokevirtual 101, 3) := by decide +kernel
theorem dX4_start_18 : decode cX4_start 18 = .ok (.ifCond .ne 5, 3) := by decide +kernel
theorem dX4_start_21 : decode cX4_start 21 = .ok (.iconst (-1), 1) := by decide +kernel
theorem dX4_start_22 : decode cX4_start 22 = .ok (.ireturn, 1) := by decide +kernel
theorem dX4_start_23 : decode cX4_start 23 = .ok (.aload_n 0, 1) := by decide +kernel
theorem dX4_start_24 : decode cX4_start 24 = .ok (.getfield 19, 3) := by decide +kernel
theorem dX4_start_27 : decode cX4_start 27 = .ok (.invokevirtual 80, 3) := by decide +kernel
theorem dX4_start_30 : decode cX4_start 30 = .ok (.aload_n 0, 1) := by decide +kernel
theorem dX4_start_31 : decode cX4_start 31 = .ok (.aload_n 3, 1) := by decide +kernel
theorem dX4_start_32 : decode cX4_start 32 = .ok (.aload_n 3, 1) := by decide +kernel
theorem dX4_start_33 : decode cX4_start 33 = .ok (.iload_n 2, 1) := by decide +kernel
theorem dX4_start_34 : decode cX4_start 34 = .ok (.iconst 0, 1) := by decide +kernel
theorem dX4_start_35 : decode cX4_start 35 = .ok (.invokevirtual 104, 3) := by decide +kernel
theorem dX4_start_38 : decode cX4_start 38 = .ok (.invokevirtual 97, 3) := by decide +kernel
theorem dX4_start_41 : decode cX4_start 41 = .ok (.ireturn, 1) := by decide +kernel
theorem dX4_fault_0 : decode cX4_fault 0 = .ok (.iload_n 1, 1) := by decide +kernel
theorem dX4_fault_1 : decode cX4_fault 1 = .ok (.tableswitch 63 0 3 #[31, 39, 47, 55], 31) := by decide +kernel
theorem dX4_fault_32 : decode cX4_fault 32 = .ok (.aload_n 0, 1) := by decide +kernel
theorem dX4_fault_33 : decode cX4_fault 33 = .ok (.getfield 35, 3) := by decide +kernel
theorem dX4_fault_36 : decode cX4_fault 36 = .ok (.getfield 107, 3) := by decide +kernel
theorem dX4_fault_39 : decode cX4_fault 39 = .ok (.ireturn, 1) := by decide +kernel
theorem dX4_fault_40 : decode cX4_fault 40 = .ok (.aload_n 0, 1) := by decide +kernel
theorem dX4_fault_41 : decode cX4_fault 41 = .ok (.getfield 35, 3) := by decide +kernel
theorem dX4_fault_44 : decode cX4_fault 44 = .ok (.getfield 110, 3) := by decide +kernel
theorem dX4_fault_47 : decode cX4_fault 47 = .ok (.ireturn, 1) := by decide +kernel
theorem dX4_fault_48 : decode cX4_fault 48 = .ok (.aload_n 0, 1) := by decide +kernel
theorem dX4_fault_49 : decode cX4_fault 49 = .ok (.getfield 35, 3) := by decide +kernel
theorem dX4_fault_52 : decode cX4_fault 52 = .ok (.getfield 113, 3) := by decide +kernel
theorem dX4_fault_55 : decode cX4_fault 55 = .ok (.ireturn, 1) := by decide +kernel
theorem dX4_fault_56 : decode cX4_fault 56 = .ok (.aload_n 0, 1) := by decide +kernel
theorem dX4_fault_57 : decode cX4_fault 57 = .ok (.getfield 35, 3) := by decide +kernel
theorem dX4_fault_60 : decode cX4_fault 60 = .ok (.getfield 116, 3) := by decide +kernel
theorem dX4_fault_63 : decode cX4_fault 63 = .ok (.ireturn, 1) := by decide +kernel
theorem dX4_fault_64 : decode cX4_fault 64 = .ok (.iconst (-1), 1) := by decide +kernel
theorem dX4_fault_65 : decode cX4_fault 65 = .ok (.ireturn, 1) := by decide +kernel
theorem dX4_state_0 : decode cX4_state 0 = .ok (.aload_n 0, 1) := by decide +kernel
theorem dX4_state_1 : decode cX4_state 1 = .ok (.iload_n 1, 1) := by decide +kernel
theorem dX4_state_2 : decode cX4_state 2 = .ok (.invokevirtual 72, 3) := by decide +kernel
theorem dX4_state_5 : decode cX4_state 5 = .ok (.astore_n 3, 1) := by decide +kernel
theorem dX4_state_6 : decode cX4_state 6 = .ok (.aload_n 3, 1) := by decide +kernel
theorem dX4_state_7 : decode cX4_state 7 = .ok (.ifnull 14, 3) := by decide +kernel
theorem dX4_state_10 : decode cX4_state 10 = .ok (.aload_n 0, 1) := by decide +kernel
theorem dX4_state_11 : decode cX4_state 11 = .ok (.getfield 12, 3) := by decide +kernel
theorem dX4_state_14 : decode cX4_state 14 = .ok (.iload_n 2, 1) := by decide +kernel
theorem dX4_state_15 : decode cX4_state 15 = .ok (.invokevirtual 101, 3) := by decide +kernel
theorem dX4_state_18 : decode cX4_state 18 = .ok (.ifCond .ne 7, 3) := by decide +kernel
theorem dX4_state_21 : decode cX4_state 21 = .ok (.iconst (-1), 1) := by decide +kernel
theorem dX4_state_22 : decode cX4_state 22 = .ok (.goto 9, 3) := by decide +kernel
theorem dX4_state_25 : decode cX4_state 25 = .ok (.aload_n 3, 1) := by decide +kernel
theorem dX4_state_26 : decode cX4_state 26 = .ok (.getfield 119, 3) := by decide +kernel
theorem dX4_state_29 : decode cX4_state 29 = .ok (.iload_n 2, 1) := by decide +kernel
theorem dX4_state_30 : decode cX4_state 30 = .ok (.iaload, 1) := by decide +kernel
theorem dX4_state_31 : decode cX4_state 31 = .ok (.ireturn, 1) := by decide +kernel
theorem dX4_kept_0 : decode cX4_kept 0 = .ok (.aload_n 0, 1) := by decide +kernel
theorem dX4_kept_1 : decode cX4_kept 1 = .ok (.iload_n 1, 1) := by decide +kernel
theorem dX4_kept_2 : decode cX4_kept 2 = .ok (.invokevirtual 72, 3) := by decide +kernel
theorem dX4_kept_5 : decode cX4_kept 5 = .ok (.astore_n 3, 1) := by decide +kernel
theorem dX4_kept_6 : decode cX4_kept 6 = .ok (.aload_n 3, 1) := by decide +kernel
theorem dX4_kept_7 : decode cX4_kept 7 = .ok (.ifnull 14, 3) := by decide +kernel
theorem dX4_kept_10 : decode cX4_kept 10 = .ok (.aload_n 0, 1) := by decide +kernel
theorem dX4_kept_11 : decode cX4_kept 11 = .ok (.getfield 12, 3) := by decide +kernel
theorem dX4_kept_14 : decode cX4_kept 14 = .ok (.iload_n 2, 1) := by decide +kernel
theorem dX4_kept_15 : decode cX4_kept 15 = .ok (.invokevirtual 76, 3) := by decide +kernel
theorem dX4_kept_18 : decode cX4_kept 18 = .ok (.ifCond .ne 7, 3) := by decide +kernel
theorem dX4_kept_21 : decode cX4_kept 21 = .ok (.iconst (-1), 1) := by decide +kernel
theorem dX4_kept_22 : decode cX4_kept 22 = .ok (.goto 8, 3) := by decide +kernel
theorem dX4_kept_25 : decode cX4_kept 25 = .ok (.aload_n 3, 1) := by decide +kernel
theorem dX4_kept_26 : decode cX4_kept 26 = .ok (.iload_n 2, 1) := by decide +kernel
theorem dX4_kept_27 : decode cX4_kept 27 = .ok (.invokevirtual 122, 3) := by decide +kernel
theorem dX4_kept_30 : decode cX4_kept 30 = .ok (.ireturn, 1) := by decide +kernel
theorem dX4_row_0 : decode cX4_row 0 = .ok (.aload_n 0, 1) := by decide +kernel
theorem dX4_row_1 : decode cX4_row 1 = .ok (.iload_n 1, 1) := by decide +kernel
theorem dX4_row_2 : decode cX4_row 2 = .ok (.invokevirtual 72, 3) := by decide +kernel
theorem dX4_row_5 : decode cX4_row 5 = .ok (.astore 4, 2) := by decide +kernel
theorem dX4_row_7 : decode cX4_row 7 = .ok (.aload 4, 2) := by decide +kernel
theorem dX4_row_9 : decode cX4_row 9 = .ok (.ifnull 14, 3) := by decide +kernel
theorem dX4_row_12 : decode cX4_row 12 = .ok (.aload_n 0, 1) := by decide +kernel
theorem dX4_row_13 : decode cX4_row 13 = .ok (.getfield 12, 3) := by decide +kernel
theorem dX4_row_16 : decode cX4_row 16 = .ok (.iload_n 2, 1) := by decide +kernel
theorem dX4_row_17 : decode cX4_row 17 = .ok (.invokevirtual 101, 3) := by decide +kernel
theorem dX4_row_20 : decode cX4_row 20 = .ok (.ifCond .ne 5, 3) := by decide +kernel
theorem dX4_row_23 : decode cX4_row 23 = .ok (.iconst (-1), 1) := by decide +kernel
theorem dX4_row_24 : decode cX4_row 24 = .ok (.ireturn, 1) := by decide +kernel
theorem dX4_row_25 : decode cX4_row 25 = .ok (.aload_n 0, 1) := by decide +kernel
theorem dX4_row_26 : decode cX4_row 26 = .ok (.getfield 12, 3) := by decide +kernel
theorem dX4_row_29 : decode cX4_row 29 = .ok (.iload_n 2, 1) := by decide +kernel
theorem dX4_row_30 : decode cX4_row 30 = .ok (.iload_n 3, 1) := by decide +kernel
theorem dX4_row_31 : decode cX4_row 31 = .ok (.invokevirtual 125, 3) := by decide +kernel
theorem dX4_row_34 : decode cX4_row 34 = .ok (.ifCond .eq 13, 3) := by decide +kernel
theorem dX4_row_37 : decode cX4_row 37 = .ok (.aload 4, 2) := by decide +kernel
theorem dX4_row_39 : decode cX4_row 39 = .ok (.iload_n 2, 1) := by decide +kernel
theorem dX4_row_40 : decode cX4_row 40 = .ok (.iload_n 3, 1) := by decide +kernel
theorem dX4_row_41 : decode cX4_row 41 = .ok (.invokevirtual 128, 3) := by decide +kernel
theorem dX4_row_44 : decode cX4_row 44 = .ok (.goto 5, 3) := by decide +kernel
theorem dX4_row_47 : decode cX4_row 47 = .ok (.bipush (-3), 2) := by decide +kernel
theorem dX4_row_49 : decode cX4_row 49 = .ok (.ireturn, 1) := by decide +kernel
theorem dX4_trace_0 : decode cX4_trace 0 = .ok (.iload_n 2, 1) := by decide +kernel
theorem dX4_trace_1 : decode cX4_trace 1 = .ok (.ifCond .eq 10, 3) := by decide +kernel
theorem dX4_trace_4 : decode cX4_trace 4 = .ok (.iload_n 2, 1) := by decide +kernel
theorem dX4_trace_5 : decode cX4_trace 5 = .ok (.iconst 1, 1) := by decide +kernel
theorem dX4_trace_6 : decode cX4_trace 6 = .ok (.if_icmp .eq 5, 3) := by decide +kernel
theorem dX4_trace_9 : decode cX4_trace 9 = .ok (.iconst (-1), 1) := by decide +kernel
theorem dX4_trace_10 : decode cX4_trace 10 = .ok (.ireturn, 1) := by decide +kernel
theorem dX4_trace_11 : decode cX4_trace 11 = .ok (.iload_n 1, 1) := by decide +kernel
theorem dX4_trace_12 : decode cX4_trace 12 = .ok (.ifCond .lt 14, 3) := by decide +kernel
theorem dX4_trace_15 : decode cX4_trace 15 = .ok (.iload_n 1, 1) := by decide +kernel
theorem dX4_trace_16 : decode cX4_trace 16 = .ok (.aload_n 0, 1) := by decide +kernel
theorem dX4_trace_17 : decode cX4_trace 17 = .ok (.getfield 19, 3) := by decide +kernel
theorem dX4_trace_20 : decode cX4_trace 20 = .ok (.getfield 131, 3) := by decide +kernel
theorem dX4_trace_23 : decode cX4_trace 23 = .ok (.if_icmp .lt 6, 3) := by decide +kernel
theorem dX4_trace_26 : decode cX4_trace 26 = .ok (.bipush (-3), 2) := by decide +kernel
theorem dX4_trace_28 : decode cX4_trace 28 = .ok (.ireturn, 1) := by decide +kernel
theorem dX4_trace_29 : decode cX4_trace 29 = .ok (.iload_n 2, 1) := by decide +kernel
theorem dX4_trace_30 : decode cX4_trace 30 = .ok (.ifCond .ne 15, 3) := by decide +kernel
theorem dX4_trace_33 : decode cX4_trace 33 = .ok (.aload_n 0, 1) := by decide +kernel
theorem dX4_trace_34 : decode cX4_trace 34 = .ok (.getfield 19, 3) := by decide +kernel
theorem dX4_trace_37 : decode cX4_trace 37 = .ok (.getfield 134, 3) := by decide +kernel
theorem dX4_trace_40 : decode cX4_trace 40 = .ok (.iload_n 1, 1) := by decide +kernel
theorem dX4_trace_41 : decode cX4_trace 41 = .ok (.iaload, 1) := by decide +kernel
theorem dX4_trace_42 : decode cX4_trace 42 = .ok (.goto 12, 3) := by decide +kernel
theorem dX4_trace_45 : decode cX4_trace 45 = .ok (.aload_n 0, 1) := by decide +kernel
theorem dX4_trace_46 : decode cX4_trace 46 = .ok (.getfield 19, 3) := by decide +kernel
theorem dX4_trace_49 : decode cX4_trace 49 = .ok (.getfield 137, 3) := by decide +kernel
theorem dX4_trace_52 : decode cX4_trace 52 = .ok (.iload_n 1, 1) := by decide +kernel
theorem dX4_trace_53 : decode cX4_trace 53 = .ok (.iaload, 1) := by decide +kernel
theorem dX4_trace_54 : decode cX4_trace 54 = .ok (.ireturn, 1) := by decide +kernel
theorem dX4_forget_0 : decode cX4_forget 0 = .ok (.aload_n 0, 1) := by decide +kernel
theorem dX4_forget_1 : decode cX4_forget 1 = .ok (.iload_n 1, 1) := by decide +kernel
theorem dX4_forget_2 : decode cX4_forget 2 = .ok (.invokevirtual 72, 3) := by decide +kernel
theorem dX4_forget_5 : decode cX4_forget 5 = .ok (.astore_n 2, 1) := by decide +kernel
theorem dX4_forget_6 : decode cX4_forget 6 = .ok (.aload_n 2, 1) := by decide +kernel
theorem dX4_forget_7 : decode cX4_forget 7 = .ok (.ifnonnull 5, 3) := by decide +kernel
theorem dX4_forget_10 : decode cX4_forget 10 = .ok (.iconst (-1), 1) := by decide +kernel
theorem dX4_forget_11 : decode cX4_forget 11 = .ok (.ireturn, 1) := by decide +kernel
theorem dX4_forget_12 : decode cX4_forget 12 = .ok (.aload_n 2, 1) := by decide +kernel
theorem dX4_forget_13 : decode cX4_forget 13 = .ok (.invokevirtual 140, 3) := by decide +kernel
theorem dX4_forget_16 : decode cX4_forget 16 = .ok (.istore_n 3, 1) := by decide +kernel
theorem dX4_forget_17 : decode cX4_forget 17 = .ok (.aload_n 2, 1) := by decide +kernel
theorem dX4_forget_18 : decode cX4_forget 18 = .ok (.invokevirtual 144, 3) := by decide +kernel
theorem dX4_forget_21 : decode cX4_forget 21 = .ok (.iload_n 3, 1) := by decide +kernel
theorem dX4_forget_22 : decode cX4_forget 22 = .ok (.ireturn, 1) := by decide +kernel
theorem dX4_alike_0 : decode cX4_alike 0 = .ok (.aload_n 0, 1) := by decide +kernel
theorem dX4_alike_1 : decode cX4_alike 1 = .ok (.getfield 145, 3) := by decide +kernel
theorem dX4_alike_4 : decode cX4_alike 4 = .ok (.bipush 40, 2) := by decide +kernel
theorem dX4_alike_6 : decode cX4_alike 6 = .ok (.if_icmp .lt 6, 3) := by decide +kernel
theorem dX4_alike_9 : decode cX4_alike 9 = .ok (.bipush (-2), 2) := by decide +kernel
theorem dX4_alike_11 : decode cX4_alike 11 = .ok (.ireturn, 1) := by decide +kernel
theorem dX4_alike_12 : decode cX4_alike 12 = .ok (.aload_n 0, 1) := by decide +kernel
theorem dX4_alike_13 : decode cX4_alike 13 = .ok (.dup, 1) := by decide +kernel
theorem dX4_alike_14 : decode cX4_alike 14 = .ok (.getfield 145, 3) := by decide +kernel
theorem dX4_alike_17 : decode cX4_alike 17 = .ok (.iconst 1, 1) := by decide +kernel
theorem dX4_alike_18 : decode cX4_alike 18 = .ok (.iadd, 1) := by decide +kernel
theorem dX4_alike_19 : decode cX4_alike 19 = .ok (.putfield 145, 3) := by decide +kernel
theorem dX4_alike_22 : decode cX4_alike 22 = .ok (.aload_n 0, 1) := by decide +kernel
theorem dX4_alike_23 : decode cX4_alike 23 = .ok (.invokevirtual 148, 3) := by decide +kernel
theorem dX4_alike_26 : decode cX4_alike 26 = .ok (.aload_n 0, 1) := by decide +kernel
theorem dX4_alike_27 : decode cX4_alike 27 = .ok (.iload_n 1, 1) := by decide +kernel
theorem dX4_alike_28 : decode cX4_alike 28 = .ok (.invokevirtual 151, 3) := by decide +kernel
theorem dX4_alike_31 : decode cX4_alike 31 = .ok (.aload_n 0, 1) := by decide +kernel
theorem dX4_alike_32 : decode cX4_alike 32 = .ok (.invokevirtual 155, 3) := by decide +kernel
theorem dX4_alike_35 : decode cX4_alike 35 = .ok (.ireturn, 1) := by decide +kernel
theorem dX4_told_0 : decode cX4_told 0 = .ok (.iload_n 1, 1) := by decide +kernel
theorem dX4_told_1 : decode cX4_told 1 = .ok (.tableswitch 60 0 3 #[31, 39, 47, 55], 31) := by decide +kernel
theorem dX4_told_32 : decode cX4_told 32 = .ok (.aload_n 0, 1) := by decide +kernel
theorem dX4_told_33 : decode cX4_told 33 = .ok (.getfield 12, 3) := by decide +kernel
theorem dX4_told_36 : decode cX4_told 36 = .ok (.getfield 158, 3) := by decide +kernel
theorem dX4_told_39 : decode cX4_told 39 = .ok (.ireturn, 1) := by decide +kernel
theorem dX4_told_40 : decode cX4_told 40 = .ok (.aload_n 0, 1) := by decide +kernel
theorem dX4_told_41 : decode cX4_told 41 = .ok (.getfield 12, 3) := by decide +kernel
theorem dX4_told_44 : decode cX4_told 44 = .ok (.getfield 161, 3) := by decide +kernel
theorem dX4_told_47 : decode cX4_told 47 = .ok (.ireturn, 1) := by decide +kernel
theorem dX4_told_48 : decode cX4_told 48 = .ok (.aload_n 0, 1) := by decide +kernel
theorem dX4_told_49 : decode cX4_told 49 = .ok (.getfield 19, 3) := by decide +kernel
theorem dX4_told_52 : decode cX4_told 52 = .ok (.getfield 131, 3) := by decide +kernel
theorem dX4_told_55 : decode cX4_told 55 = .ok (.ireturn, 1) := by decide +kernel
theorem dX4_told_56 : decode cX4_told 56 = .ok (.aload_n 0, 1) := by decide +kernel
theorem dX4_told_57 : decode cX4_told 57 = .ok (.invokevirtual 164, 3) := by decide +kernel
theorem dX4_told_60 : decode cX4_told 60 = .ok (.ireturn, 1) := by decide +kernel
theorem dX4_told_61 : decode cX4_told 61 = .ok (.iconst (-1), 1) := by decide +kernel
theorem dX4_told_62 : decode cX4_told 62 = .ok (.ireturn, 1) := by decide +kernel
theorem dX4_loaderAt_0 : decode cX4_loaderAt 0 = .ok (.iload_n 1, 1) := by decide +kernel
theorem dX4_loaderAt_1 : decode cX4_loaderAt 1 = .ok (.ifCond .lt 17, 3) := by decide +kernel
theorem dX4_loaderAt_4 : decode cX4_loaderAt 4 = .ok (.iload_n 1, 1) := by decide +kernel
theorem dX4_loaderAt_5 : decode cX4_loaderAt 5 = .ok (.iconst 3, 1) := by decide +kernel
theorem dX4_loaderAt_6 : decode cX4_loaderAt 6 = .ok (.if_icmp .ge 12, 3) := by decide +kernel
theorem dX4_loaderAt_9 : decode cX4_loaderAt 9 = .ok (.aload_n 0, 1) := by decide +kernel
theorem dX4_loaderAt_10 : decode cX4_loaderAt 10 = .ok (.getfield 25, 3) := by decide +kernel
theorem dX4_loaderAt_13 : decode cX4_loaderAt 13 = .ok (.iload_n 1, 1) := by decide +kernel
theorem dX4_loaderAt_14 : decode cX4_loaderAt 14 = .ok (.aaload, 1) := by decide +kernel
theorem dX4_loaderAt_15 : decode cX4_loaderAt 15 = .ok (.goto 4, 3) := by decide +kernel
theorem dX4_loaderAt_18 : decode cX4_loaderAt 18 = .ok (.aconst_null, 1) := by decide +kernel
theorem dX4_loaderAt_19 : decode cX4_loaderAt 19 = .ok (.areturn, 1) := by decide +kernel
theorem dX4_answer_0 : decode cX4_answer 0 = .ok (.iload_n 2, 1) := by decide +kernel
theorem dX4_answer_1 : decode cX4_answer 1 = .ok (.ifCond .eq 14, 3) := by decide +kernel
theorem dX4_answer_4 : decode cX4_answer 4 = .ok (.aload_n 0, 1) := by decide +kernel
theorem dX4_answer_5 : decode cX4_answer 5 = .ok (.getfield 35, 3) := by decide +kernel
theorem dX4_answer_8 : decode cX4_answer 8 = .ok (.iconst 0, 1) := by decide +kernel
theorem dX4_answer_9 : decode cX4_answer 9 = .ok (.invokevirtual 167, 3) := by decide +kernel
theorem dX4_answer_12 : decode cX4_answer 12 = .ok (.pop, 1) := by decide +kernel
theorem dX4_answer_13 : decode cX4_answer 13 = .ok (.iconst 1, 1) := by decide +kernel
theorem dX4_answer_14 : decode cX4_answer 14 = .ok (.ireturn, 1) := by decide +kernel
theorem dX4_answer_15 : decode cX4_answer 15 = .ok (.aload_n 0, 1) := by decide +kernel
theorem dX4_answer_16 : decode cX4_answer 16 = .ok (.getfield 35, 3) := by decide +kernel
theorem dX4_answer_19 : decode cX4_answer 19 = .ok (.aload_n 1, 1) := by decide +kernel
theorem dX4_answer_20 : decode cX4_answer 20 = .ok (.getfield 87, 3) := by decide +kernel
theorem dX4_answer_23 : decode cX4_answer 23 = .ok (.invokevirtual 170, 3) := by decide +kernel
theorem dX4_answer_26 : decode cX4_answer 26 = .ok (.bipush (-10), 2) := by decide +kernel
theorem dX4_answer_28 : decode cX4_answer 28 = .ok (.aload_n 0, 1) := by decide +kernel
theorem dX4_answer_29 : decode cX4_answer 29 = .ok (.getfield 35, 3) := by decide +kernel
theorem dX4_answer_32 : decode cX4_answer 32 = .ok (.getfield 107, 3) := by decide +kernel
theorem dX4_answer_35 : decode cX4_answer 35 = .ok (.isub, 1) := by decide +kernel
theorem dX4_answer_36 : decode cX4_answer 36 = .ok (.ireturn, 1) := by decide +kernel
theorem dX4_countWorked_0 : decode cX4_countWorked 0 = .ok (.iconst 0, 1) := by decide +kernel
theorem dX4_countWorked_1 : decode cX4_countWorked 1 = .ok (.istore_n 1, 1) := by decide +kernel
theorem dX4_countWorked_2 : decode cX4_countWorked 2 = .ok (.iconst 0, 1) := by decide +kernel
theorem dX4_countWorked_3 : decode cX4_countWorked 3 = .ok (.istore_n 2, 1) := by decide +kernel
theorem dX4_countWorked_4 : decode cX4_countWorked 4 = .ok (.iload_n 2, 1) := by decide +kernel
theorem dX4_countWorked_5 : decode cX4_countWorked 5 = .ok (.iconst 3, 1) := by decide +kernel
theorem dX4_countWorked_6 : decode cX4_countWorked 6 = .ok (.if_icmp .ge 21, 3) := by decide +kernel
theorem dX4_countWorked_9 : decode cX4_countWorked 9 = .ok (.iload_n 1, 1) := by decide +kernel
theorem dX4_countWorked_10 : decode cX4_countWorked 10 = .ok (.aload_n 0, 1) := by decide +kernel
theorem dX4_countWorked_11 : decode cX4_countWorked 11 = .ok (.getfield 25, 3) := by decide +kernel
theorem dX4_countWorked_14 : decode cX4_countWorked 14 = .ok (.iload_n 2, 1) := by decide +kernel
theorem dX4_countWorked_15 : decode cX4_countWorked 15 = .ok (.aaload, 1) := by decide +kernel
theorem dX4_countWorked_16 : decode cX4_countWorked 16 = .ok (.getfield 174, 3) := by decide +kernel
theorem dX4_countWorked_19 : decode cX4_countWorked 19 = .ok (.iadd, 1) := by decide +kernel
theorem dX4_countWorked_20 : decode cX4_countWorked 20 = .ok (.istore_n 1, 1) := by decide +kernel
theorem dX4_countWorked_21 : decode cX4_countWorked 21 = .ok (.iinc 2 1, 3) := by decide +kernel
theorem dX4_countWorked_24 : decode cX4_countWorked 24 = .ok (.goto (-20), 3) := by decide +kernel
theorem dX4_countWorked_27 : decode cX4_countWorked 27 = .ok (.iload_n 1, 1) := by decide +kernel
theorem dX4_countWorked_28 : decode cX4_countWorked 28 = .ok (.ireturn, 1) := by decide +kernel
theorem dX4_needByNumbers_0 : decode cX4_needByNumbers 0 = .ok (.aload_n 0, 1) := by decide +kernel
theorem dX4_needByNumbers_1 : decode cX4_needByNumbers 1 = .ok (.getfield 39, 3) := by decide +kernel
theorem dX4_needByNumbers_4 : decode cX4_needByNumbers 4 = .ok (.invokevirtual 144, 3) := by decide +kernel
theorem dX4_needByNumbers_7 : decode cX4_needByNumbers 7 = .ok (.iconst 0, 1) := by decide +kernel
theorem dX4_needByNumbers_8 : decode cX4_needByNumbers 8 = .ok (.istore_n 1, 1) := by decide +kernel
theorem dX4_needByNumbers_9 : decode cX4_needByNumbers 9 = .ok (.iload_n 1, 1) := by decide +kernel
theorem dX4_needByNumbers_10 : decode cX4_needByNumbers 10 = .ok (.aload_n 0, 1) := by decide +kernel
theorem dX4_needByNumbers_11 : decode cX4_needByNumbers 11 = .ok (.getfield 12, 3) := by decide +kernel
theorem dX4_needByNumbers_14 : decode cX4_needByNumbers 14 = .ok (.getfield 161, 3) := by decide +kernel
theorem dX4_needByNumbers_17 : decode cX4_needByNumbers 17 = .ok (.if_icmp .ge 51, 3) := by decide +kernel
theorem dX4_needByNumbers_20 : decode cX4_needByNumbers 20 = .ok (.aload_n 0, 1) := by decide +kernel
theorem dX4_needByNumbers_21 : decode cX4_needByNumbers 21 = .ok (.getfield 39, 3) := by decide +kernel
theorem dX4_needByNumbers_24 : decode cX4_needByNumbers 24 = .ok (.iload_n 1, 1) := by decide +kernel
theorem dX4_needByNumbers_25 : decode cX4_needByNumbers 25 = .ok (.iconst 0, 1) := by decide +kernel
theorem dX4_needByNumbers_26 : decode cX4_needByNumbers 26 = .ok (.invokevirtual 83, 3) := by decide +kernel
theorem dX4_needByNumbers_29 : decode cX4_needByNumbers 29 = .ok (.pop, 1) := by decide +kernel
theorem dX4_needByNumbers_30 : decode cX4_needByNumbers 30 = .ok (.aload_n 0, 1) := by decide +kernel
theorem dX4_needByNumbers_31 : decode cX4_needByNumbers 31 = .ok (.getfield 47, 3) := by decide +kernel
theorem dX4_needByNumbers_34 : decode cX4_needByNumbers 34 = .ok (.iload_n 1, 1) := by decide +kernel
theorem dX4_needByNumbers_35 : decode cX4_needByNumbers 35 = .ok (.aload_n 0, 1) := by decide +kernel
theorem dX4_needByNumbers_36 : decode cX4_needByNumbers 36 = .ok (.getfield 39, 3) := by decide +kernel
theorem dX4_needByNumbers_39 : decode cX4_needByNumbers 39 = .ok (.getfield 87, 3) := by decide +kernel
theorem dX4_needByNumbers_42 : decode cX4_needByNumbers 42 = .ok (.getfield 107, 3) := by decide +kernel
theorem dX4_needByNumbers_45 : decode cX4_needByNumbers 45 = .ok (.iastore, 1) := by decide +kernel
theorem dX4_needByNumbers_46 : decode cX4_needByNumbers 46 = .ok (.aload_n 0, 1) := by decide +kernel
theorem dX4_needByNumbers_47 : decode cX4_needByNumbers 47 = .ok (.getfield 50, 3) := by decide +kernel
theorem dX4_needByNumbers_50 : decode cX4_needByNumbers 50 = .ok (.iload_n 1, 1) := by decide +kernel
theorem dX4_needByNumbers_51 : decode cX4_needByNumbers 51 = .ok (.aload_n 0, 1) := by decide +kernel
theorem dX4_needByNumbers_52 : decode cX4_needByNumbers 52 = .ok (.getfield 39, 3) := by decide +kernel
theorem dX4_needByNumbers_55 : decode cX4_needByNumbers 55 = .ok (.getfield 87, 3) := by decide +kernel
theorem dX4_needByNumbers_58 : decode cX4_needByNumbers 58 = .ok (.getfield 90, 3) := by decide +kernel
theorem dX4_needByNumbers_61 : decode cX4_needByNumbers 61 = .ok (.iastore, 1) := by decide +kernel
theorem dX4_needByNumbers_62 : decode cX4_needByNumbers 62 = .ok (.iinc 1 1, 3) := by decide +kernel
theorem dX4_needByNumbers_65 : decode cX4_needByNumbers 65 = .ok (.goto (-56), 3) := by decide +kernel
theorem dX4_needByNumbers_68 : decode cX4_needByNumbers 68 = .ok (.return_, 1) := by decide +kernel
theorem dX4_mixOrder_0 : decode cX4_mixOrder 0 = .ok (.iconst 0, 1) := by decide +kernel
theorem dX4_mixOrder_1 : decode cX4_mixOrder 1 = .ok (.istore_n 2, 1) := by decide +kernel
theorem dX4_mixOrder_2 : decode cX4_mixOrder 2 = .ok (.iload_n 2, 1) := by decide +kernel
theorem dX4_mixOrder_3 : decode cX4_mixOrder 3 = .ok (.aload_n 0, 1) := by decide +kernel
theorem dX4_mixOrder_4 : decode cX4_mixOrder 4 = .ok (.getfield 12, 3) := by decide +kernel
theorem dX4_mixOrder_7 : decode cX4_mixOrder 7 = .ok (.getfield 161, 3) := by decide +kernel
theorem dX4_mixOrder_10 : decode cX4_mixOrder 10 = .ok (.if_icmp .ge 16, 3) := by decide +kernel
theorem dX4_mixOrder_13 : decode cX4_mixOrder 13 = .ok (.aload_n 0, 1) := by decide +kernel
theorem dX4_mixOrder_14 : decode cX4_mixOrder 14 = .ok (.getfield 43, 3) := by decide +kernel
theorem dX4_mixOrder_17 : decode cX4_mixOrder 17 = .ok (.iload_n 2, 1) := by decide +kernel
theorem dX4_mixOrder_18 : decode cX4_mixOrder 18 = .ok (.iload_n 2, 1) := by decide +kernel
theorem dX4_mixOrder_19 : decode cX4_mixOrder 19 = .ok (.iastore, 1) := by decide +kernel
theorem dX4_mixOrder_20 : decode cX4_mixOrder 20 = .ok (.iinc 2 1, 3) := by decide +kernel
theorem dX4_mixOrder_23 : decode cX4_mixOrder 23 = .ok (.goto (-21), 3) := by decide +kernel
theorem dX4_mixOrder_26 : decode cX4_mixOrder 26 = .ok (.iload_n 1, 1) := by decide +kernel
theorem dX4_mixOrder_27 : decode cX4_mixOrder 27 = .ok (.istore_n 2, 1) := by decide +kernel
theorem dX4_mixOrder_28 : decode cX4_mixOrder 28 = .ok (.aload_n 0, 1) := by decide +kernel
theorem dX4_mixOrder_29 : decode cX4_mixOrder 29 = .ok (.getfield 12, 3) := by decide +kernel
theorem dX4_mixOrder_32 : decode cX4_mixOrder 32 = .ok (.getfield 161, 3) := by decide +kernel
theorem dX4_mixOrder_35 : decode cX4_mixOrder 35 = .ok (.iconst 1, 1) := by decide +kernel
theorem dX4_mixOrder_36 : decode cX4_mixOrder 36 = .ok (.isub, 1) := by decide +kernel
theorem dX4_mixOrder_37 : decode cX4_mixOrder 37 = .ok (.istore_n 3, 1) := by decide +kernel
theorem dX4_mixOrder_38 : decode cX4_mixOrder 38 = .ok (.iload_n 3, 1) := by decide +kernel
theorem dX4_mixOrder_39 : decode cX4_mixOrder 39 = .ok (.iconst 1, 1) := by decide +kernel
theorem dX4_mixOrder_40 : decode cX4_mixOrder 40 = .ok (.if_icmp .lt 58, 3) := by decide +kernel
theorem dX4_mixOrder_43 : decode cX4_mixOrder 43 = .ok (.iload_n 2, 1) := by decide +kernel
theorem dX4_mixOrder_44 : decode cX4_mixOrder 44 = .ok (.ldc 177, 2) := by decide +kernel
theorem dX4_mixOrder_46 : decode cX4_mixOrder 46 = .ok (.imul, 1) := by decide +kernel
theorem dX4_mixOrder_47 : decode cX4_mixOrder 47 = .ok (.sipush 12345, 3) := by decide +kernel
theorem dX4_mixOrder_50 : decode cX4_mixOrder 50 = .ok (.iadd, 1) := by decide +kernel
theorem dX4_mixOrder_51 : decode cX4_mixOrder 51 = .ok (.istore_n 2, 1) := by decide +kernel
theorem dX4_mixOrder_52 : decode cX4_mixOrder 52 = .ok (.iload_n 2, 1) := by decide +kernel
theorem dX4_mixOrder_53 : decode cX4_mixOrder 53 = .ok (.bipush 16, 2) := by decide +kernel
theorem dX4_mixOrder_55 : decode cX4_mixOrder 55 = .ok (.iushr, 1) := by decide +kernel
theorem dX4_mixOrder_56 : decode cX4_mixOrder 56 = .ok (.iload_n 3, 1) := by decide +kernel
theorem dX4_mixOrder_57 : decode cX4_mixOrder 57 = .ok (.iconst 1, 1) := by decide +kernel
theorem dX4_mixOrder_58 : decode cX4_mixOrder 58 = .ok (.iadd, 1) := by decide +kernel
theorem dX4_mixOrder_59 : decode cX4_mixOrder 59 = .ok (.irem, 1) := by decide +kernel
theorem dX4_mixOrder_60 : decode cX4_mixOrder 60 = .ok (.istore 4, 2) := by decide +kernel
theorem dX4_mixOrder_62 : decode cX4_mixOrder 62 = .ok (.aload_n 0, 1) := by decide +kernel
theorem dX4_mixOrder_63 : decode cX4_mixOrder 63 = .ok (.getfield 43, 3) := by decide +kernel
theorem dX4_mixOrder_66 : decode cX4_mixOrder 66 = .ok (.iload_n 3, 1) := by decide +kernel
theorem dX4_mixOrder_67 : decode cX4_mixOrder 67 = .ok (.iaload, 1) := by decide +kernel
theorem dX4_mixOrder_68 : decode cX4_mixOrder 68 = .ok (.istore 5, 2) := by decide +kernel
theorem dX4_mixOrder_70 : decode cX4_mixOrder 70 = .ok (.aload_n 0, 1) := by decide +kernel
theorem dX4_mixOrder_71 : decode cX4_mixOrder 71 = .ok (.getfield 43, 3) := by decide +kernel
theorem dX4_mixOrder_74 : decode cX4_mixOrder 74 = .ok (.iload_n 3, 1) := by decide +kernel
theorem dX4_mixOrder_75 : decode cX4_mixOrder 75 = .ok (.aload_n 0, 1) := by decide +kernel
theorem dX4_mixOrder_76 : decode cX4_mixOrder 76 = .ok (.getfield 43, 3) := by decide +kernel
theorem dX4_mixOrder_79 : decode cX4_mixOrder 79 = .ok (.iload 4, 2) := by decide +kernel
theorem dX4_mixOrder_81 : decode cX4_mixOrder 81 = .ok (.iaload, 1) := by decide +kernel
theorem dX4_mixOrder_82 : decode cX4_mixOrder 82 = .ok (.iastore, 1) := by decide +kernel
theorem dX4_mixOrder_83 : decode cX4_mixOrder 83 = .ok (.aload_n 0, 1) := by decide +kernel
theorem dX4_mixOrder_84 : decode cX4_mixOrder 84 = .ok (.getfield 43, 3) := by decide +kernel
theorem dX4_mixOrder_87 : decode cX4_mixOrder 87 = .ok (.iload 4, 2) := by decide +kernel
theorem dX4_mixOrder_89 : decode cX4_mixOrder 89 = .ok (.iload 5, 2) := by decide +kernel
theorem dX4_mixOrder_91 : decode cX4_mixOrder 91 = .ok (.iastore, 1) := by decide +kernel
theorem dX4_mixOrder_92 : decode cX4_mixOrder 92 = .ok (.iinc 3 (-1), 3) := by decide +kernel
theorem dX4_mixOrder_95 : decode cX4_mixOrder 95 = .ok (.goto (-57), 3) := by decide +kernel
theorem dX4_mixOrder_98 : decode cX4_mixOrder 98 = .ok (.return_, 1) := by decide +kernel
theorem dX4_countUnlike_0 : decode cX4_countUnlike 0 = .ok (.aload_n 0, 1) := by decide +kernel
theorem dX4_countUnlike_1 : decode cX4_countUnlike 1 = .ok (.getfield 39, 3) := by decide +kernel
theorem dX4_countUnlike_4 : decode cX4_countUnlike 4 = .ok (.invokevirtual 144, 3) := by decide +kernel
theorem dX4_countUnlike_7 : decode cX4_countUnlike 7 = .ok (.iconst 0, 1) := by decide +kernel
theorem dX4_countUnlike_8 : decode cX4_countUnlike 8 = .ok (.istore_n 1, 1) := by decide +kernel
theorem dX4_countUnlike_9 : decode cX4_countUnlike 9 = .ok (.iconst 0, 1) := by decide +kernel
theorem dX4_countUnlike_10 : decode cX4_countUnlike 10 = .ok (.istore_n 2, 1) := by decide +kernel
theorem dX4_countUnlike_11 : decode cX4_countUnlike 11 = .ok (.iload_n 2, 1) := by decide +kernel
theorem dX4_countUnlike_12 : decode cX4_countUnlike 12 = .ok (.aload_n 0, 1) := by decide +kernel
theorem dX4_countUnlike_13 : decode cX4_countUnlike 13 = .ok (.getfield 12, 3) := by decide +kernel
theorem dX4_countUnlike_16 : decode cX4_countUnlike 16 = .ok (.getfield 161, 3) := by decide +kernel
theorem dX4_countUnlike_19 : decode cX4_countUnlike 19 = .ok (.if_icmp .ge 67, 3) := by decide +kernel
theorem dX4_countUnlike_22 : decode cX4_countUnlike 22 = .ok (.aload_n 0, 1) := by decide +kernel
theorem dX4_countUnlike_23 : decode cX4_countUnlike 23 = .ok (.getfield 43, 3) := by decide +kernel
theorem dX4_countUnlike_26 : decode cX4_countUnlike 26 = .ok (.iload_n 2, 1) := by decide +kernel
theorem dX4_countUnlike_27 : decode cX4_countUnlike 27 = .ok (.iaload, 1) := by decide +kernel
theorem dX4_countUnlike_28 : decode cX4_countUnlike 28 = .ok (.istore_n 3, 1) := by decide +kernel
theorem dX4_countUnlike_29 : decode cX4_countUnlike 29 = .ok (.aload_n 0, 1) := by decide +kernel
theorem dX4_countUnlike_30 : decode cX4_countUnlike 30 = .ok (.getfield 39, 3) := by decide +kernel
theorem dX4_countUnlike_33 : decode cX4_countUnlike 33 = .ok (.iload_n 3, 1) := by decide +kernel
theorem dX4_countUnlike_34 : decode cX4_countUnlike 34 = .ok (.iconst 0, 1) := by decide +kernel
theorem dX4_countUnlike_35 : decode cX4_countUnlike 35 = .ok (.invokevirtual 83, 3) := by decide +kernel
theorem dX4_countUnlike_38 : decode cX4_countUnlike 38 = .ok (.pop, 1) := by decide +kernel
theorem dX4_countUnlike_39 : decode cX4_countUnlike 39 = .ok (.aload_n 0, 1) := by decide +kernel
theorem dX4_countUnlike_40 : decode cX4_countUnlike 40 = .ok (.getfield 39, 3) := by decide +kernel
theorem dX4_countUnlike_43 : decode cX4_countUnlike 43 = .ok (.getfield 87, 3) := by decide +kernel
theorem dX4_countUnlike_46 : decode cX4_countUnlike 46 = .ok (.getfield 107, 3) := by decide +kernel
theorem dX4_countUnlike_49 : decode cX4_countUnlike 49 = .ok (.aload_n 0, 1) := by decide +kernel
theorem dX4_countUnlike_50 : decode cX4_countUnlike 50 = .ok (.getfield 47, 3) := by decide +kernel
theorem dX4_countUnlike_53 : decode cX4_countUnlike 53 = .ok (.iload_n 3, 1) := by decide +kernel
theorem dX4_countUnlike_54 : decode cX4_countUnlike 54 = .ok (.iaload, 1) := by decide +kernel
theorem dX4_countUnlike_55 : decode cX4_countUnlike 55 = .ok (.if_icmp .ne 22, 3) := by decide +kernel
theorem dX4_countUnlike_58 : decode cX4_countUnlike 58 = .ok (.aload_n 0, 1) := by decide +kernel
theorem dX4_countUnlike_59 : decode cX4_countUnlike 59 = .ok (.getfield 39, 3) := by decide +kernel
theorem dX4_countUnlike_62 : decode cX4_countUnlike 62 = .ok (.getfield 87, 3) := by decide +kernel
theorem dX4_countUnlike_65 : decode cX4_countUnlike 65 = .ok (.getfield 90, 3) := by decide +kernel
theorem dX4_countUnlike_68 : decode cX4_countUnlike 68 = .ok (.aload_n 0, 1) := by decide +kernel
theorem dX4_countUnlike_69 : decode cX4_countUnlike 69 = .ok (.getfield 50, 3) := by decide +kernel
theorem dX4_countUnlike_72 : decode cX4_countUnlike 72 = .ok (.iload_n 3, 1) := by decide +kernel
theorem dX4_countUnlike_73 : decode cX4_countUnlike 73 = .ok (.iaload, 1) := by decide +kernel
theorem dX4_countUnlike_74 : decode cX4_countUnlike 74 = .ok (.if_icmp .eq 6, 3) := by decide +kernel
theorem dX4_countUnlike_77 : decode cX4_countUnlike 77 = .ok (.iinc 1 1, 3) := by decide +kernel
theorem dX4_countUnlike_80 : decode cX4_countUnlike 80 = .ok (.iinc 2 1, 3) := by decide +kernel
theorem dX4_countUnlike_83 : decode cX4_countUnlike 83 = .ok (.goto (-72), 3) := by decide +kernel
theorem dX4_countUnlike_86 : decode cX4_countUnlike 86 = .ok (.iload_n 1, 1) := by decide +kernel
theorem dX4_countUnlike_87 : decode cX4_countUnlike 87 = .ok (.ireturn, 1) := by decide +kernel
end
section
theorem dX5_init_0 : decode cX5_init 0 = .ok (.aload_n 0, 1) := by decide +kernel
theorem dX5_init_1 : decode cX5_init 1 = .ok (.invokespecial 1, 3) := by decide +kernel
theorem dX5_init_4 : decode cX5_init 4 = .ok (.aload_n 0, 1) := by decide +kernel
theorem dX5_init_5 : decode cX5_init 5 = .ok (.bipush 12, 2) := by decide +kernel
theorem dX5_init_7 : decode cX5_init 7 = .ok (.newarray .int, 2) := by decide +kernel
theorem dX5_init_9 : decode cX5_init 9 = .ok (.putfield 7, 3) := by decide +kernel
theorem dX5_init_12 : decode cX5_init 12 = .ok (.aload_n 0, 1) := by decide +kernel
theorem dX5_init_13 : decode cX5_init 13 = .ok (.bipush 96, 2) := by decide +kernel
theorem dX5_init_15 : decode cX5_init 15 = .ok (.newarray .int, 2) := by decide +kernel
theorem dX5_init_17 : decode cX5_init 17 = .ok (.putfield 13, 3) := by decide +kernel
theorem dX5_init_20 : decode cX5_init 20 = .ok (.aload_n 0, 1) := by decide +kernel
theorem dX5_init_21 : decode cX5_init 21 = .ok (.bipush 12, 2) := by decide +kernel
theorem dX5_init_23 : decode cX5_init 23 = .ok (.newarray .int, 2) := by decide +kernel
theorem dX5_init_25 : decode cX5_init 25 = .ok (.putfield 16, 3) := by decide +kernel
theorem dX5_init_28 : decode cX5_init 28 = .ok (.aload_n 0, 1) := by decide +kernel
theorem dX5_init_29 : decode cX5_init 29 = .ok (.bipush 72, 2) := by decide +kernel
theorem dX5_init_31 : decode cX5_init 31 = .ok (.newarray .int, 2) := by decide +kernel
theorem dX5_init_33 : decode cX5_init 33 = .ok (.putfield 19, 3) := by decide +kernel
theorem dX5_init_36 : decode cX5_init 36 = .ok (.aload_n 0, 1) := by decide +kernel
theorem dX5_init_37 : decode cX5_init 37 = .ok (.bipush 12, 2) := by decide +kernel
theorem dX5_init_39 : decode cX5_init 39 = .ok (.newarray .int, 2) := by decide +kernel
theorem dX5_init_41 : decode cX5_init 41 = .ok (.putfield 22, 3) := by decide +kernel
theorem dX5_init_44 : decode cX5_init 44 = .ok (.aload_n 0, 1) := by decide +kernel
theorem dX5_init_45 : decode cX5_init 45 = .ok (.bipush 72, 2) := by decide +kernel
theorem dX5_init_47 : decode cX5_init 47 = .ok (.newarray .int, 2) := by decide +kernel
theorem dX5_init_49 : decode cX5_init 49 = .ok (.putfield 25, 3) := by decide +kernel
theorem dX5_init_52 : decode cX5_init 52 = .ok (.aload_n 0, 1) := by decide +kernel
theorem dX5_init_53 : decode cX5_init 53 = .ok (.bipush 72, 2) := by decide +kernel
theorem dX5_init_55 : decode cX5_init 55 = .ok (.newarray .int, 2) := by decide +kernel
theorem dX5_init_57 : decode cX5_init 57 = .ok (.putfield 28, 3) := by decide +kernel
theorem dX5_init_60 : decode cX5_init 60 = .ok (.aload_n 0, 1) := by decide +kernel
theorem dX5_init_61 : decode cX5_init 61 = .ok (.bipush 40, 2) := by decide +kernel
theorem dX5_init_63 : decode cX5_init 63 = .ok (.newarray .int, 2) := by decide +kernel
theorem dX5_init_65 : decode cX5_init 65 = .ok (.putfield 31, 3) := by decide +kernel
theorem dX5_init_68 : decode cX5_init 68 = .ok (.aload_n 0, 1) := by decide +kernel
theorem dX5_init_69 : decode cX5_init 69 = .ok (.bipush 40, 2) := by decide +kernel
theorem dX5_init_71 : decode cX5_init 71 = .ok (.newarray .int, 2) := by decide +kernel
theorem dX5_init_73 : decode cX5_init 73 = .ok (.putfield 34, 3) := by decide +kernel
theorem dX5_init_76 : decode cX5_init 76 = .ok (.aload_n 0, 1) := by decide +kernel
theorem dX5_init_77 : decode cX5_init 77 = .ok (.bipush 40, 2) := by decide +kernel
theorem dX5_init_79 : decode cX5_init 79 = .ok (.newarray .int, 2) := by decide +kernel
theorem dX5_init_81 : decode cX5_init 81 = .ok (.putfield 37, 3) := by decide +kernel
theorem dX5_init_84 : decode cX5_init 84 = .ok (.aload_n 0, 1) := by decide +kernel
theorem dX5_init_85 : decode cX5_init 85 = .ok (.bipush 40, 2) := by decide +kernel
theorem dX5_init_87 : decode cX5_init 87 = .ok (.newarray .int, 2) := by decide +kernel
theorem dX5_init_89 : decode cX5_init 89 = .ok (.putfield 40, 3) := by decide +kernel
theorem dX5_init_92 : decode cX5_init 92 = .ok (.aload_n 0, 1) := by decide +kernel
theorem dX5_init_93 : decode cX5_init 93 = .ok (.bipush 40, 2) := by decide +kernel
theorem dX5_init_95 : decode cX5_init 95 = .ok (.newarray .int, 2) := by decide +kernel
theorem dX5_init_97 : decode cX5_init 97 = .ok (.putfield 43, 3) := by decide +kernel
theorem dX5_init_100 : decode cX5_init 100 = .ok (.aload_n 0, 1) := by decide +kernel
theorem dX5_init_101 : decode cX5_init 101 = .ok (.bipush 60, 2) := by decide +kernel
theorem dX5_init_103 : decode cX5_init 103 = .ok (.newarray .int, 2) := by decide +kernel
theorem dX5_init_105 : decode cX5_init 105 = .ok (.putfield 46, 3) := by decide +kernel
theorem dX5_init_108 : decode cX5_init 108 = .ok (.aload_n 0, 1) := by decide +kernel
theorem dX5_init_109 : decode cX5_init 109 = .ok (.sipush 480, 3) := by decide +kernel
theorem dX5_init_112 : decode cX5_init 112 = .ok (.newarray .int, 2) := by decide +kernel
theorem dX5_init_114 : decode cX5_init 114 = .ok (.putfield 49, 3) := by decide +kernel
theorem dX5_init_117 : decode cX5_init 117 = .ok (.aload_n 0, 1) := by decide +kernel
theorem dX5_init_118 : decode cX5_init 118 = .ok (.sipush 200, 3) := by decide +kernel
theorem dX5_init_121 : decode cX5_init 121 = .ok (.newarray .int, 2) := by decide +kernel
theorem dX5_init_123 : decode cX5_init 123 = .ok (.putfield 52, 3) := by decide +kernel
theorem dX5_init_126 : decode cX5_init 126 = .ok (.aload_n 0, 1) := by decide +kernel
theorem dX5_init_127 : decode cX5_init 127 = .ok (.sipush 200, 3) := by decide +kernel
theorem dX5_init_130 : decode cX5_init 130 = .ok (.newarray .int, 2) := by decide +kernel
theorem dX5_init_132 : decode cX5_init 132 = .ok (.putfield 55, 3) := by decide +kernel
theorem dX5_init_135 : decode cX5_init 135 = .ok (.aload_n 0, 1) := by decide +kernel
theorem dX5_init_136 : decode cX5_init 136 = .ok (.sipush 200, 3) := by decide +kernel
theorem dX5_init_139 : decode cX5_init 139 = .ok (.newarray .int, 2) := by decide +kernel
theorem dX5_init_141 : decode cX5_init 141 = .ok (.putfield 58, 3) := by decide +kernel
theorem dX5_init_144 : decode cX5_init 144 = .ok (.aload_n 0, 1) := by decide +kernel
theorem dX5_init_145 : decode cX5_init 145 = .ok (.sipush 200, 3) := by decide +kernel
theorem dX5_init_148 : decode cX5_init 148 = .ok (.newarray .int, 2) := by decide +kernel
theorem dX5_init_150 : decode cX5_init 150 = .ok (.putfield 61, 3) := by decide +kernel
theorem dX5_init_153 : decode cX5_init 153 = .ok (.aload_n 0, 1) := by decide +kernel
theorem dX5_init_154 : decode cX5_init 154 = .ok (.sipush 200, 3) := by decide +kernel
theorem dX5_init_157 : decode cX5_init 157 = .ok (.newarray .int, 2) := by decide +kernel
theorem dX5_init_159 : decode cX5_init 159 = .ok (.putfield 64, 3) := by decide +kernel
theorem dX5_init_162 : decode cX5_init 162 = .ok (.aload_n 0, 1) := by decide +kernel
theorem dX5_init_163 : decode cX5_init 163 = .ok (.sipush 400, 3) := by decide +kernel
theorem dX5_init_166 : decode cX5_init 166 = .ok (.newarray .int, 2) := by decide +kernel
theorem dX5_init_168 : decode cX5_init 168 = .ok (.putfield 67, 3) := by decide +kernel
theorem dX5_init_171 : decode cX5_init 171 = .ok (.aload_n 0, 1) := by decide +kernel
theorem dX5_init_172 : decode cX5_init 172 = .ok (.iconst 4, 1) := by decide +kernel
theorem dX5_init_173 : decode cX5_init 173 = .ok (.newarray .int, 2) := by decide +kernel
theorem dX5_init_175 : decode cX5_init 175 = .ok (.putfield 70, 3) := by decide +kernel
theorem dX5_init_178 : decode cX5_init 178 = .ok (.aload_n 0, 1) := by decide +kernel
theorem dX5_init_179 : decode cX5_init 179 = .ok (.sipush 200, 3) := by decide +kernel
theorem dX5_init_182 : decode cX5_init 182 = .ok (.newarray .int, 2) := by decide +kernel
theorem dX5_init_184 : decode cX5_init 184 = .ok (.putfield 73, 3) := by decide +kernel
theorem dX5_init_187 : decode cX5_init 187 = .ok (.aload_n 0, 1) := by decide +kernel
theorem dX5_init_188 : decode cX5_init 188 = .ok (.sipush 200, 3) := by decide +kernel
theorem dX5_init_191 : decode cX5_init 191 = .ok (.newarray .int, 2) := by decide +kernel
theorem dX5_init_193 : decode cX5_init 193 = .ok (.putfield 76, 3) := by decide +kernel
theorem dX5_init_196 : decode cX5_init 196 = .ok (.aload_n 0, 1) := by decide +kernel
theorem dX5_init_197 : decode cX5_init 197 = .ok (.sipush 200, 3) := by decide +kernel
theorem dX5_init_200 : decode cX5_init 200 = .ok (.newarray .int, 2) := by decide +kernel
theorem dX5_init_202 : decode cX5_init 202 = .ok (.putfield 79, 3) := by decide +kernel
theorem dX5_init_205 : decode cX5_init 205 = .ok (.aload_n 0, 1) := by decide +kernel
theorem dX5_init_206 : decode cX5_init 206 = .ok (.sipush 200, 3) := by decide +kernel
theorem dX5_init_209 : decode cX5_init 209 = .ok (.newarray .int, 2) := by decide +kernel
theorem dX5_init_211 : decode cX5_init 211 = .ok (.putfield 82, 3) := by decide +kernel
theorem dX5_init_214 : decode cX5_init 214 = .ok (.aload_n 0, 1) := by decide +kernel
theorem dX5_init_215 : decode cX5_init 215 = .ok (.bipush 40, 2) := by decide +kernel
theorem dX5_init_217 : decode cX5_init 217 = .ok (.newarray .int, 2) := by decide +kernel
theorem dX5_init_219 : decode cX5_init 219 = .ok (.putfield 85, 3) := by decide +kernel
theorem dX5_init_222 : decode cX5_init 222 = .ok (.aload_n 0, 1) := by decide +kernel
theorem dX5_init_223 : decode cX5_init 223 = .ok (.bipush 40, 2) := by decide +kernel
theorem dX5_init_225 : decode cX5_init 225 = .ok (.newarray .int, 2) := by decide +kernel
theorem dX5_init_227 : decode cX5_init 227 = .ok (.putfield 88, 3) := by decide +kernel
theorem dX5_init_230 : decode cX5_init 230 = .ok (.aload_n 0, 1) := by decide +kernel
theorem dX5_init_231 : decode cX5_init 231 = .ok (.bipush 40, 2) := by decide +kernel
theorem dX5_init_233 : decode cX5_init 233 = .ok (.newarray .int, 2) := by decide +kernel
theorem dX5_init_235 : decode cX5_init 235 = .ok (.putfield 91, 3) := by decide +kernel
theorem dX5_init_238 : decode cX5_init 238 = .ok (.return_, 1) := by decide +kernel
theorem dX5_in_0 : decode cX5_in 0 = .ok (.iload_n 0, 1) := by decide +kernel
theorem dX5_in_1 : decode cX5_in 1 = .ok (.iload_n 1, 1) := by decide +kernel
theorem dX5_in_2 : decode cX5_in 2 = .ok (.if_icmp .lt 12, 3) := by decide +kernel
theorem dX5_in_5 : decode cX5_in 5 = .ok (.iload_n 0, 1) := by decide +kernel
theorem dX5_in_6 : decode cX5_in 6 = .ok (.iload_n 2, 1) := by decide +kernel
theorem dX5_in_7 : decode cX5_in 7 = .ok (.if_icmp .gt 7, 3) := by decide +kernel
theorem dX5_in_10 : decode cX5_in 10 = .ok (.iconst 1, 1) := by decide +kernel
theorem dX5_in_11 : decode cX5_in 11 = .ok (.goto 4, 3) := by decide +kernel
theorem dX5_in_14 : decode cX5_in 14 = .ok (.iconst 0, 1) := by decide +kernel
theorem dX5_in_15 : decode cX5_in 15 = .ok (.ireturn, 1) := by decide +kernel
theorem dX5_isModule_0 : decode cX5_isModule 0 = .ok (.iload_n 1, 1) := by decide +kernel
theorem dX5_isModule_1 : decode cX5_isModule 1 = .ok (.iconst 0, 1) := by decide +kernel
theorem dX5_isModule_2 : decode cX5_isModule 2 = .ok (.aload_n 0, 1) := by decide +kernel
theorem dX5_isModule_3 : decode cX5_isModule 3 = .ok (.getfield 94, 3) := by decide +kernel
theorem dX5_isModule_6 : decode cX5_isModule 6 = .ok (.iconst 1, 1) := by decide +kernel
theorem dX5_isModule_7 : decode cX5_isModule 7 = .ok (.isub, 1) := by decide +kernel
theorem dX5_isModule_8 : decode cX5_isModule 8 = .ok (.invokestatic 98, 3) := by decide +kernel
theorem dX5_isModule_11 : decode cX5_isModule 11 = .ok (.ireturn, 1) := by decide +kernel
theorem dX5_isLoader_0 : decode cX5_isLoader 0 = .ok (.iload_n 0, 1) := by decide +kernel
theorem dX5_isLoader_1 : decode cX5_isLoader 1 = .ok (.iconst 0, 1) := by decide +kernel
theorem dX5_isLoader_2 : decode cX5_isLoader 2 = .ok (.iconst 2, 1) := by decide +kernel
theorem dX5_isLoader_3 : decode cX5_isLoader 3 = .ok (.invokestatic 98, 3) := by decide +kernel
theorem dX5_isLoader_6 : decode cX5_isLoader 6 = .ok (.ireturn, 1) := by decide +kernel
theorem dX5_module_0 : decode cX5_module 0 = .ok (.iload_n 1, 1) := by decide +kernel
theorem dX5_module_1 : decode cX5_module 1 = .ok (.iconst 0, 1) := by decide +kernel
theorem dX5_module_2 : decode cX5_module 2 = .ok (.bipush 8, 2) := by decide +kernel
theorem dX5_module_4 : decode cX5_module 4 = .ok (.invokestatic 98, 3) := by decide +kernel
theorem dX5_module_7 : decode cX5_module 7 = .ok (.ifCond .ne 5, 3) := by decide +kernel
theorem dX5_module_10 : decode cX5_module 10 = .ok (.iconst (-1), 1) := by decide +kernel
theorem dX5_module_11 : decode cX5_module 11 = .ok (.ireturn, 1) := by decide +kernel
theorem dX5_module_12 : decode cX5_module 12 = .ok (.aload_n 0, 1) := by decide +kernel
theorem dX5_module_13 : decode cX5_module 13 = .ok (.getfield 94, 3) := by decide +kernel
theorem dX5_module_16 : decode cX5_module 16 = .ok (.bipush 12, 2) := by decide +kernel
theorem dX5_module_18 : decode cX5_module 18 = .ok (.if_icmp .ne 6, 3) := by decide +kernel
theorem dX5_module_21 : decode cX5_module 21 = .ok (.bipush (-2), 2) := by decide +kernel
theorem dX5_module_23 : decode cX5_module 23 = .ok (.ireturn, 1) := by decide +kernel
theorem dX5_module_24 : decode cX5_module 24 = .ok (.aload_n 0, 1) := by decide +kernel
theorem dX5_module_25 : decode cX5_module 25 = .ok (.getfield 7, 3) := by decide +kernel
theorem dX5_module_28 : decode cX5_module 28 = .ok (.aload_n 0, 1) := by decide +kernel
theorem dX5_module_29 : decode cX5_module 29 = .ok (.getfield 94, 3) := by decide +kernel
theorem dX5_module_32 : decode cX5_module 32 = .ok (.iload_n 1, 1) := by decide +kernel
theorem dX5_module_33 : decode cX5_module 33 = .ok (.iastore, 1) := by decide +kernel
theorem dX5_module_34 : decode cX5_module 34 = .ok (.aload_n 0, 1) := by decide +kernel
theorem dX5_module_35 : decode cX5_module 35 = .ok (.dup, 1) := by decide +kernel
theorem dX5_module_36 : decode cX5_module 36 = .ok (.getfield 94, 3) := by decide +kernel
theorem dX5_module_39 : decode cX5_module 39 = .ok (.iconst 1, 1) := by decide +kernel
theorem dX5_module_40 : decode cX5_module 40 = .ok (.iadd, 1) := by decide +kernel
theorem dX5_module_41 : decode cX5_module 41 = .ok (.putfield 94, 3) := by decide +kernel
theorem dX5_module_44 : decode cX5_module 44 = .ok (.aload_n 0, 1) := by decide +kernel
theorem dX5_module_45 : decode cX5_module 45 = .ok (.getfield 94, 3) := by decide +kernel
theorem dX5_module_48 : decode cX5_module 48 = .ok (.iconst 1, 1) := by decide +kernel
theorem dX5_module_49 : decode cX5_module 49 = .ok (.isub, 1) := by decide +kernel
theorem dX5_module_50 : decode cX5_module 50 = .ok (.ireturn, 1) := by decide +kernel
theorem dX5_item_0 : decode cX5_item 0 = .ok (.aload_n 0, 1) := by decide +kernel
theorem dX5_item_1 : decode cX5_item 1 = .ok (.iload_n 1, 1) := by decide +kernel
theorem dX5_item_2 : decode cX5_item 2 = .ok (.invokevirtual 102, 3) := by decide +kernel
theorem dX5_item_5 : decode cX5_item 5 = .ok (.ifCond .eq 19, 3) := by decide +kernel
theorem dX5_item_8 : decode cX5_item 8 = .ok (.iload_n 2, 1) := by decide +kernel
theorem dX5_item_9 : decode cX5_item 9 = .ok (.iconst 0, 1) := by decide +kernel
theorem dX5_item_10 : decode cX5_item 10 = .ok (.aload_n 0, 1) := by decide +kernel
theorem dX5_item_11 : decode cX5_item 11 = .ok (.getfield 7, 3) := by decide +kernel
theorem dX5_item_14 : decode cX5_item 14 = .ok (.iload_n 1, 1) := by decide +kernel
theorem dX5_item_15 : decode cX5_item 15 = .ok (.iaload, 1) := by decide +kernel
theorem dX5_item_16 : decode cX5_item 16 = .ok (.iconst 1, 1) := by decide +kernel
theorem dX5_item_17 : decode cX5_item 17 = .ok (.isub, 1) := by decide +kernel
theorem dX5_item_18 : decode cX5_item 18 = .ok (.invokestatic 98, 3) := by decide +kernel
theorem dX5_item_21 : decode cX5_item 21 = .ok (.ifCond .ne 5, 3) := by decide +kernel
theorem dX5_item_24 : decode cX5_item 24 = .ok (.iconst (-1), 1) := by decide +kernel
theorem dX5_item_25 : decode cX5_item 25 = .ok (.ireturn, 1) := by decide +kernel
theorem dX5_item_26 : decode cX5_item 26 = .ok (.aload_n 0, 1) := by decide +kernel
theorem dX5_item_27 : decode cX5_item 27 = .ok (.getfield 13, 3) := by decide +kernel
theorem dX5_item_30 : decode cX5_item 30 = .ok (.bipush 8, 2) := by decide +kernel
theorem dX5_item_32 : decode cX5_item 32 = .ok (.iload_n 1, 1) := by decide +kernel
theorem dX5_item_33 : decode cX5_item 33 = .ok (.imul, 1) := by decide +kernel
theorem dX5_item_34 : decode cX5_item 34 = .ok (.iload_n 2, 1) := by decide +kernel
theorem dX5_item_35 : decode cX5_item 35 = .ok (.iadd, 1) := by decide +kernel
theorem dX5_item_36 : decode cX5_item 36 = .ok (.iload_n 3, 1) := by decide +kernel
theorem dX5_item_37 : decode cX5_item 37 = .ok (.iastore, 1) := by decide +kernel
theorem dX5_item_38 : decode cX5_item 38 = .ok (.iconst 1, 1) := by decide +kernel
theorem dX5_item_39 : decode cX5_item 39 = .ok (.ireturn, 1) := by decide +kernel
theorem dX5_uses_0 : decode cX5_uses 0 = .ok (.aload_n 0, 1) := by decide +kernel
theorem dX5_uses_1 : decode cX5_uses 1 = .ok (.iload_n 1, 1) := by decide +kernel
theorem dX5_uses_2 : decode cX5_uses 2 = .ok (.invokevirtual 102, 3) := by decide +kernel
theorem dX5_uses_5 : decode cX5_uses 5 = .ok (.ifCond .eq 11, 3) := by decide +kernel
theorem dX5_uses_8 : decode cX5_uses 8 = .ok (.aload_n 0, 1) := by decide +kernel
theorem dX5_uses_9 : decode cX5_uses 9 = .ok (.iload_n 2, 1) := by decide +kernel
theorem dX5_uses_10 : decode cX5_uses 10 = .ok (.invokevirtual 102, 3) := by decide +kernel
theorem dX5_uses_13 : decode cX5_uses 13 = .ok (.ifCond .ne 5, 3) := by decide +kernel
theorem dX5_uses_16 : decode cX5_uses 16 = .ok (.iconst (-1), 1) := by decide +kernel
theorem dX5_uses_17 : decode cX5_uses 17 = .ok (.ireturn, 1) := by decide +kernel
theorem dX5_uses_18 : decode cX5_uses 18 = .ok (.aload_n 0, 1) := by decide +kernel
theorem dX5_uses_19 : decode cX5_uses 19 = .ok (.getfield 16, 3) := by decide +kernel
theorem dX5_uses_22 : decode cX5_uses 22 = .ok (.iload_n 1, 1) := by decide +kernel
theorem dX5_uses_23 : decode cX5_uses 23 = .ok (.iaload, 1) := by decide +kernel
theorem dX5_uses_24 : decode cX5_uses 24 = .ok (.bipush 6, 2) := by decide +kernel
theorem dX5_uses_26 : decode cX5_uses 26 = .ok (.if_icmp .ne 6, 3) := by decide +kernel
theorem dX5_uses_29 : decode cX5_uses 29 = .ok (.bipush (-2), 2) := by decide +kernel
theorem dX5_uses_31 : decode cX5_uses 31 = .ok (.ireturn, 1) := by decide +kernel
theorem dX5_uses_32 : decode cX5_uses 32 = .ok (.aload_n 0, 1) := by decide +kernel
theorem dX5_uses_33 : decode cX5_uses 33 = .ok (.getfield 19, 3) := by decide +kernel
theorem dX5_uses_36 : decode cX5_uses 36 = .ok (.bipush 6, 2) := by decide +kernel
theorem dX5_uses_38 : decode cX5_uses 38 = .ok (.iload_n 1, 1) := by decide +kernel
theorem dX5_uses_39 : decode cX5_uses 39 = .ok (.imul, 1) := by decide +kernel
theorem dX5_uses_40 : decode cX5_uses 40 = .ok (.aload_n 0, 1) := by decide +kernel
theorem dX5_uses_41 : decode cX5_uses 41 = .ok (.getfield 16, 3) := by decide +kernel
theorem dX5_uses_44 : decode cX5_uses 44 = .ok (.iload_n 1, 1) := by decide +kernel
theorem dX5_uses_45 : decode cX5_uses 45 = .ok (.iaload, 1) := by decide +kernel
theorem dX5_uses_46 : decode cX5_uses 46 = .ok (.iadd, 1) := by decide +kernel
theorem dX5_uses_47 : decode cX5_uses 47 = .ok (.iload_n 2, 1) := by decide +kernel
theorem dX5_uses_48 : decode cX5_uses 48 = .ok (.iastore, 1) := by decide +kernel
theorem dX5_uses_49 : decode cX5_uses 49 = .ok (.aload_n 0, 1) := by decide +kernel
theorem dX5_uses_50 : decode cX5_uses 50 = .ok (.getfield 16, 3) := by decide +kernel
theorem dX5_uses_53 : decode cX5_uses 53 = .ok (.iload_n 1, 1) := by decide +kernel
theorem dX5_uses_54 : decode cX5_uses 54 = .ok (.dup2, 1) := by decide +kernel
theorem dX5_uses_55 : decode cX5_uses 55 = .ok (.iaload, 1) := by decide +kernel
theorem dX5_uses_56 : decode cX5_uses 56 = .ok (.iconst 1, 1) := by decide +kernel
theorem dX5_uses_57 : decode cX5_uses 57 = .ok (.iadd, 1) := by decide +kernel
theorem dX5_uses_58 : decode cX5_uses 58 = .ok (.iastore, 1) := by decide +kernel
theorem dX5_uses_59 : decode cX5_uses 59 = .ok (.aload_n 0, 1) := by decide +kernel
theorem dX5_uses_60 : decode cX5_uses 60 = .ok (.getfield 16, 3) := by decide +kernel
theorem dX5_uses_63 : decode cX5_uses 63 = .ok (.iload_n 1, 1) := by decide +kernel
theorem dX5_uses_64 : decode cX5_uses 64 = .ok (.iaload, 1) := by decide +kernel
theorem dX5_uses_65 : decode cX5_uses 65 = .ok (.ireturn, 1) := by decide +kernel
theorem dX5_deed_0 : decode cX5_deed 0 = .ok (.aload_n 0, 1) := by decide +kernel
theorem dX5_deed_1 : decode cX5_deed 1 = .ok (.iload_n 1, 1) := by decide +kernel
theorem dX5_deed_2 : decode cX5_deed 2 = .ok (.invokevirtual 102, 3) := by decide +kernel
theorem dX5_deed_5 : decode cX5_deed 5 = .ok (.ifCond .eq 39, 3) := by decide +kernel
theorem dX5_deed_8 : decode cX5_deed 8 = .ok (.iload_n 2, 1) := by decide +kernel
theorem dX5_deed_9 : decode cX5_deed 9 = .ok (.iconst 0, 1) := by decide +kernel
theorem dX5_deed_10 : decode cX5_deed 10 = .ok (.iconst 2, 1) := by decide +kernel
theorem dX5_deed_11 : decode cX5_deed 11 = .ok (.invokestatic 98, 3) := by decide +kernel
theorem dX5_deed_14 : decode cX5_deed 14 = .ok (.ifCond .eq 30, 3) := by decide +kernel
theorem dX5_deed_17 : decode cX5_deed 17 = .ok (.iload_n 2, 1) := by decide +kernel
theorem dX5_deed_18 : decode cX5_deed 18 = .ok (.ifCond .ne 13, 3) := by decide +kernel
theorem dX5_deed_21 : decode cX5_deed 21 = .ok (.iload_n 3, 1) := by decide +kernel
theorem dX5_deed_22 : decode cX5_deed 22 = .ok (.iconst 0, 1) := by decide +kernel
theorem dX5_deed_23 : decode cX5_deed 23 = .ok (.bipush 39, 2) := by decide +kernel
theorem dX5_deed_25 : decode cX5_deed 25 = .ok (.invokestatic 98, 3) := by decide +kernel
theorem dX5_deed_28 : decode cX5_deed 28 = .ok (.ifCond .eq 16, 3) := by decide +kernel
theorem dX5_deed_31 : decode cX5_deed 31 = .ok (.iload_n 2, 1) := by decide +kernel
theorem dX5_deed_32 : decode cX5_deed 32 = .ok (.iconst 1, 1) := by decide +kernel
theorem dX5_deed_33 : decode cX5_deed 33 = .ok (.if_icmp .ne 13, 3) := by decide +kernel
theorem dX5_deed_36 : decode cX5_deed 36 = .ok (.aload_n 0, 1) := by decide +kernel
theorem dX5_deed_37 : decode cX5_deed 37 = .ok (.iload_n 3, 1) := by decide +kernel
theorem dX5_deed_38 : decode cX5_deed 38 = .ok (.invokevirtual 102, 3) := by decide +kernel
theorem dX5_deed_41 : decode cX5_deed 41 = .ok (.ifCond .ne 5, 3) := by decide +kernel
theorem dX5_deed_44 : decode cX5_deed 44 = .ok (.iconst (-1), 1) := by decide +kernel
theorem dX5_deed_45 : decode cX5_deed 45 = .ok (.ireturn, 1) := by decide +kernel
theorem dX5_deed_46 : decode cX5_deed 46 = .ok (.aload_n 0, 1) := by decide +kernel
theorem dX5_deed_47 : decode cX5_deed 47 = .ok (.getfield 22, 3) := by decide +kernel
theorem dX5_deed_50 : decode cX5_deed 50 = .ok (.iload_n 1, 1) := by decide +kernel
theorem dX5_deed_51 : decode cX5_deed 51 = .ok (.iaload, 1) := by decide +kernel
theorem dX5_deed_52 : decode cX5_deed 52 = .ok (.bipush 6, 2) := by decide +kernel
theorem dX5_deed_54 : decode cX5_deed 54 = .ok (.if_icmp .ne 6, 3) := by decide +kernel
theorem dX5_deed_57 : decode cX5_deed 57 = .ok (.bipush (-2), 2) := by decide +kernel
theorem dX5_deed_59 : decode cX5_deed 59 = .ok (.ireturn, 1) := by decide +kernel
theorem dX5_deed_60 : decode cX5_deed 60 = .ok (.aload_n 0, 1) := by decide +kernel
theorem dX5_deed_61 : decode cX5_deed 61 = .ok (.getfield 25, 3) := by decide +kernel
theorem dX5_deed_64 : decode cX5_deed 64 = .ok (.bipush 6, 2) := by decide +kernel
theorem dX5_deed_66 : decode cX5_deed 66 = .ok (.iload_n 1, 1) := by decide +kernel
theorem dX5_deed_67 : decode cX5_deed 67 = .ok (.imul, 1) := by decide +kernel
theorem dX5_deed_68 : decode cX5_deed 68 = .ok (.aload_n 0, 1) := by decide +kernel
theorem dX5_deed_69 : decode cX5_deed 69 = .ok (.getfield 22, 3) := by decide +kernel
theorem dX5_deed_72 : decode cX5_deed 72 = .ok (.iload_n 1, 1) := by decide +kernel
theorem dX5_deed_73 : decode cX5_deed 73 = .ok (.iaload, 1) := by decide +kernel
theorem dX5_deed_74 : decode cX5_deed 74 = .ok (.iadd, 1) := by decide +kernel
theorem dX5_deed_75 : decode cX5_deed 75 = .ok (.iload_n 2, 1) := by decide +kernel
theorem dX5_deed_76 : decode cX5_deed 76 = .ok (.iastore, 1) := by decide +kernel
theorem dX5_deed_77 : decode cX5_deed 77 = .ok (.aload_n 0, 1) := by decide +kernel
theorem dX5_deed_78 : decode cX5_deed 78 = .ok (.getfield 28, 3) := by decide +kernel
theorem dX5_deed_81 : decode cX5_deed 81 = .ok (.bipush 6, 2) := by decide +kernel
theorem dX5_deed_83 : decode cX5_deed 83 = .ok (.iload_n 1, 1) := by decide +kernel
theorem dX5_deed_84 : decode cX5_deed 84 = .ok (.imul, 1) := by decide +kernel
theorem dX5_deed_85 : decode cX5_deed 85 = .ok (.aload_n 0, 1) := by decide +kernel
theorem dX5_deed_86 : decode cX5_deed 86 = .ok (.getfield 22, 3) := by decide +kernel
theorem dX5_deed_89 : decode cX5_deed 89 = .ok (.iload_n 1, 1) := by decide +kernel
theorem dX5_deed_90 : decode cX5_deed 90 = .ok (.iaload, 1) := by decide +kernel
theorem dX5_deed_91 : decode cX5_deed 91 = .ok (.iadd, 1) := by decide +kernel
theorem dX5_deed_92 : decode cX5_deed 92 = .ok (.iload_n 3, 1) := by decide +kernel
theorem dX5_deed_93 : decode cX5_deed 93 = .ok (.iastore, 1) := by decide +kernel
theorem dX5_deed_94 : decode cX5_deed 94 = .ok (.aload_n 0, 1) := by decide +kernel
theorem dX5_deed_95 : decode cX5_deed 95 = .ok (.getfield 22, 3) := by decide +kernel
theorem dX5_deed_98 : decode cX5_deed 98 = .ok (.iload_n 1, 1) := by decide +kernel
theorem dX5_deed_99 : decode cX5_deed 99 = .ok (.dup2, 1) := by decide +kernel
theorem dX5_deed_100 : decode cX5_deed 100 = .ok (.iaload, 1) := by decide +kernel
theorem dX5_deed_101 : decode cX5_deed 101 = .ok (.iconst 1, 1) := by decide +kernel
theorem dX5_deed_102 : decode cX5_deed 102 = .ok (.iadd, 1) := by decide +kernel
theorem dX5_deed_103 : decode cX5_deed 103 = .ok (.iastore, 1) := by decide +kernel
theorem dX5_deed_104 : decode cX5_deed 104 = .ok (.aload_n 0, 1) := by decide +kernel
theorem dX5_deed_105 : decode cX5_deed 105 = .ok (.getfield 22, 3) := by decide +kernel
theorem dX5_deed_108 : decode cX5_deed 108 = .ok (.iload_n 1, 1) := by decide +kernel
theorem dX5_deed_109 : decode cX5_deed 109 = .ok (.iaload, 1) := by decide +kernel
theorem dX5_deed_110 : decode cX5_deed 110 = .ok (.ireturn, 1) := by decide +kernel
theorem dX5_constant_0 : decode cX5_constant 0 = .ok (.iload_n 2, 1) := by decide +kernel
theorem dX5_constant_1 : decode cX5_constant 1 = .ok (.iconst 1, 1) := by decide +kernel
theorem dX5_constant_2 : decode cX5_constant 2 = .ok (.iconst 5, 1) := by decide +kernel
theorem dX5_constant_3 : decode cX5_constant 3 = .ok (.invokestatic 98, 3) := by decide +kernel
theorem dX5_constant_6 : decode cX5_constant 6 = .ok (.ifCond .ne 15, 3) := by decide +kernel
theorem dX5_constant_9 : decode cX5_constant 9 = .ok (.iload_n 2, 1) := by decide +kernel
theorem dX5_constant_10 : decode cX5_constant 10 = .ok (.bipush 7, 2) := by decide +kernel
theorem dX5_constant_12 : decode cX5_constant 12 = .ok (.if_icmp .eq 9, 3) := by decide +kernel
theorem dX5_constant_15 : decode cX5_constant 15 = .ok (.iload_n 2, 1) := by decide +kernel
theorem dX5_constant_16 : decode cX5_constant 16 = .ok (.bipush 11, 2) := by decide +kernel
theorem dX5_constant_18 : decode cX5_constant 18 = .ok (.if_icmp .ne 7, 3) := by decide +kernel
theorem dX5_constant_21 : decode cX5_constant 21 = .ok (.iconst 1, 1) := by decide +kernel
theorem dX5_constant_22 : decode cX5_constant 22 = .ok (.goto 4, 3) := by decide +kernel
theorem dX5_constant_25 : decode cX5_constant 25 = .ok (.iconst 0, 1) := by decide +kernel
theorem dX5_constant_26 : decode cX5_constant 26 = .ok (.istore 6, 2) := by decide +kernel
theorem dX5_constant_28 : decode cX5_constant 28 = .ok (.iload_n 2, 1) := by decide +kernel
theorem dX5_constant_29 : decode cX5_constant 29 = .ok (.iconst 2, 1) := by decide +kernel
theorem dX5_constant_30 : decode cX5_constant 30 = .ok (.if_icmp .eq 14, 3) := by decide +kernel
theorem dX5_constant_33 : decode cX5_constant 33 = .ok (.iload_n 2, 1) := by decide +kernel
theorem dX5_constant_34 : decode cX5_constant 34 = .ok (.iconst 3, 1) := by decide +kernel
theorem dX5_constant_35 : decode cX5_constant 35 = .ok (.if_icmp .eq 9, 3) := by decide +kernel
theorem dX5_constant_38 : decode cX5_constant 38 = .ok (.iload_n 2, 1) := by decide +kernel
theorem dX5_constant_39 : decode cX5_constant 39 = .ok (.bipush 7, 2) := by decide +kernel
theorem dX5_constant_41 : decode cX5_constant 41 = .ok (.if_icmp .ne 7, 3) := by decide +kernel
theorem dX5_constant_44 : decode cX5_constant 44 = .ok (.iconst 1, 1) := by decide +kernel
theorem dX5_constant_45 : decode cX5_constant 45 = .ok (.goto 4, 3) := by decide +kernel
theorem dX5_constant_48 : decode cX5_constant 48 = .ok (.iconst 0, 1) := by decide +kernel
theorem dX5_constant_49 : decode cX5_constant 49 = .ok (.istore 7, 2) := by decide +kernel
theorem dX5_constant_51 : decode cX5_constant 51 = .ok (.aload_n 0, 1) := by decide +kernel
theorem dX5_constant_52 : decode cX5_constant 52 = .ok (.iload_n 1, 1) := by decide +kernel
theorem dX5_constant_53 : decode cX5_constant 53 = .ok (.invokevirtual 102, 3) := by decide +kernel
theorem dX5_constant_56 : decode cX5_constant 56 = .ok (.ifCond .eq 80, 3) := by decide +kernel
theorem dX5_constant_59 : decode cX5_constant 59 = .ok (.iload_n 2, 1) := by decide +kernel
theorem dX5_constant_60 : decode cX5_constant 60 = .ok (.iconst 0, 1) := by decide +kernel
theorem dX5_constant_61 : decode cX5_constant 61 = .ok (.bipush 11, 2) := by decide +kernel
theorem dX5_constant_63 : decode cX5_constant 63 = .ok (.invokestatic 98, 3) := by decide +kernel
theorem dX5_constant_66 : decode cX5_constant 66 = .ok (.ifCond .eq 70, 3) := by decide +kernel
theorem dX5_constant_69 : decode cX5_constant 69 = .ok (.iload 6, 2) := by decide +kernel
theorem dX5_constant_71 : decode cX5_constant 71 = .ok (.ifCond .eq 13, 3) := by decide +kernel
theorem dX5_constant_74 : decode cX5_constant 74 = .ok (.iload_n 3, 1) := by decide +kernel
theorem dX5_constant_75 : decode cX5_constant 75 = .ok (.iconst 0, 1) := by decide +kernel
theorem dX5_constant_76 : decode cX5_constant 76 = .ok (.bipush 39, 2) := by decide +kernel
theorem dX5_constant_78 : decode cX5_constant 78 = .ok (.invokestatic 98, 3) := by decide +kernel
theorem dX5_constant_81 : decode cX5_constant 81 = .ok (.ifCond .eq 55, 3) := by decide +kernel
theorem dX5_constant_84 : decode cX5_constant 84 = .ok (.iload 7, 2) := by decide +kernel
theorem dX5_constant_86 : decode cX5_constant 86 = .ok (.ifCond .eq 14, 3) := by decide +kernel
theorem dX5_constant_89 : decode cX5_constant 89 = .ok (.iload 4, 2) := by decide +kernel
theorem dX5_constant_91 : decode cX5_constant 91 = .ok (.iconst 0, 1) := by decide +kernel
theorem dX5_constant_92 : decode cX5_constant 92 = .ok (.bipush 39, 2) := by decide +kernel
theorem dX5_constant_94 : decode cX5_constant 94 = .ok (.invokestatic 98, 3) := by decide +kernel
theorem dX5_constant_97 : decode cX5_constant 97 = .ok (.ifCond .eq 39, 3) := by decide +kernel
theorem dX5_constant_100 : decode cX5_constant 100 = .ok (.iload_n 2, 1) := by decide +kernel
theorem dX5_constant_101 : decode cX5_constant 101 = .ok (.bipush 7, 2) := by decide +kernel
theorem dX5_constant_103 : decode cX5_constant 103 = .ok (.if_icmp .ne 14, 3) := by decide +kernel
theorem dX5_constant_106 : decode cX5_constant 106 = .ok (.iload 5, 2) := by decide +kernel
theorem dX5_constant_108 : decode cX5_constant 108 = .ok (.iconst 0, 1) := by decide +kernel
theorem dX5_constant_109 : decode cX5_constant 109 = .ok (.bipush 39, 2) := by decide +kernel
theorem dX5_constant_111 : decode cX5_constant 111 = .ok (.invokestatic 98, 3) := by decide +kernel
theorem dX5_constant_114 : decode cX5_constant 114 = .ok (.ifCond .eq 22, 3) := by decide +kernel
theorem dX5_constant_117 : decode cX5_constant 117 = .ok (.iload_n 2, 1) := by decide +kernel
theorem dX5_constant_118 : decode cX5_constant 118 = .ok (.bipush 8, 2) := by decide +kernel
theorem dX5_constant_120 : decode cX5_constant 120 = .ok (.bipush 10, 2) := by decide +kernel
theorem dX5_constant_122 : decode cX5_constant 122 = .ok (.invokestatic 98, 3) := by decide +kernel
theorem dX5_constant_125 : decode cX5_constant 125 = .ok (.ifCond .eq 13, 3) := by decide +kernel
theorem dX5_constant_128 : decode cX5_constant 128 = .ok (.aload_n 0, 1) := by decide +kernel
theorem dX5_constant_129 : decode cX5_constant 129 = .ok (.iload_n 3, 1) := by decide +kernel
theorem dX5_constant_130 : decode cX5_constant 130 = .ok (.invokevirtual 102, 3) := by decide +kernel
theorem dX5_constant_133 : decode cX5_constant 133 = .ok (.ifCond .ne 5, 3) := by decide +kernel
theorem dX5_constant_136 : decode cX5_constant 136 = .ok (.iconst (-1), 1) := by decide +kernel
theorem dX5_constant_137 : decode cX5_constant 137 = .ok (.ireturn, 1) := by decide +kernel
theorem dX5_constant_138 : decode cX5_constant 138 = .ok (.aload_n 0, 1) := by decide +kernel
theorem dX5_constant_139 : decode cX5_constant 139 = .ok (.getfield 106, 3) := by decide +kernel
theorem dX5_constant_142 : decode cX5_constant 142 = .ok (.bipush 40, 2) := by decide +kernel
theorem dX5_constant_144 : decode cX5_constant 144 = .ok (.if_icmp .ne 6, 3) := by decide +kernel
theorem dX5_constant_147 : decode cX5_constant 147 = .ok (.bipush (-2), 2) := by decide +kernel
theorem dX5_constant_149 : decode cX5_constant 149 = .ok (.ireturn, 1) := by decide +kernel
theorem dX5_constant_150 : decode cX5_constant 150 = .ok (.aload_n 0, 1) := by decide +kernel
theorem dX5_constant_151 : decode cX5_constant 151 = .ok (.getfield 31, 3) := by decide +kernel
theorem dX5_constant_154 : decode cX5_constant 154 = .ok (.aload_n 0, 1) := by decide +kernel
theorem dX5_constant_155 : decode cX5_constant 155 = .ok (.getfield 106, 3) := by decide +kernel
theorem dX5_constant_158 : decode cX5_constant 158 = .ok (.iload_n 1, 1) := by decide +kernel
theorem dX5_constant_159 : decode cX5_constant 159 = .ok (.iastore, 1) := by decide +kernel
theorem dX5_constant_160 : decode cX5_constant 160 = .ok (.aload_n 0, 1) := by decide +kernel
theorem dX5_constant_161 : decode cX5_constant 161 = .ok (.getfield 34, 3) := by decide +kernel
theorem dX5_constant_164 : decode cX5_constant 164 = .ok (.aload_n 0, 1) := by decide +kernel
theorem dX5_constant_165 : decode cX5_constant 165 = .ok (.getfield 106, 3) := by decide +kernel
theorem dX5_constant_168 : decode cX5_constant 168 = .ok (.iload_n 2, 1) := by decide +kernel
theorem dX5_constant_169 : decode cX5_constant 169 = .ok (.iastore, 1) := by decide +kernel
theorem dX5_constant_170 : decode cX5_constant 170 = .ok (.aload_n 0, 1) := by decide +kernel
theorem dX5_constant_171 : decode cX5_constant 171 = .ok (.getfield 37, 3) := by decide +kernel
theorem dX5_constant_174 : decode cX5_constant 174 = .ok (.aload_n 0, 1) := by decide +kernel
theorem dX5_constant_175 : decode cX5_constant 175 = .ok (.getfield 106, 3) := by decide +kernel
theorem dX5_constant_178 : decode cX5_constant 178 = .ok (.iload_n 3, 1) := by decide +kernel
theorem dX5_constant_179 : decode cX5_constant 179 = .ok (.iastore, 1) := by decide +kernel
theorem dX5_constant_180 : decode cX5_constant 180 = .ok (.aload_n 0, 1) := by decide +kernel
theorem dX5_constant_181 : decode cX5_constant 181 = .ok (.getfield 40, 3) := by decide +kernel
theorem dX5_constant_184 : decode cX5_constant 184 = .ok (.aload_n 0, 1) := by decide +kernel
theorem dX5_constant_185 : decode cX5_constant 185 = .ok (.getfield 106, 3) := by decide +kernel
theorem dX5_constant_188 : decode cX5_constant 188 = .ok (.iload 4, 2) := by decide +kernel
theorem dX5_constant_190 : decode cX5_constant 190 = .ok (.iastore, 1) := by decide +kernel
theorem dX5_constant_191 : decode cX5_constant 191 = .ok (.aload_n 0, 1) := by decide +kernel
theorem dX5_constant_192 : decode cX5_constant 192 = .ok (.getfield 43, 3) := by decide +kernel
theorem dX5_constant_195 : decode cX5_constant 195 = .ok (.aload_n 0, 1) := by decide +kernel
theorem dX5_constant_196 : decode cX5_constant 196 = .ok (.getfield 106, 3) := by decide +kernel
theorem dX5_constant_199 : decode cX5_constant 199 = .ok (.iload 5, 2) := by decide +kernel
theorem dX5_constant_201 : decode cX5_constant 201 = .ok (.iastore, 1) := by decide +kernel
theorem dX5_constant_202 : decode cX5_constant 202 = .ok (.aload_n 0, 1) := by decide +kernel
theorem dX5_constant_203 : decode cX5_constant 203 = .ok (.dup, 1) := by decide +kernel
theorem dX5_constant_204 : decode cX5_constant 204 = .ok (.getfield 106, 3) := by decide +kernel
theorem dX5_constant_207 : decode cX5_constant 207 = .ok (.iconst 1, 1) := by decide +kernel
theorem dX5_constant_208 : decode cX5_constant 208 = .ok (.iadd, 1) := by decide +kernel
theorem dX5_constant_209 : decode cX5_constant 209 = .ok (.putfield 106, 3) := by decide +kernel
theorem dX5_constant_212 : decode cX5_constant 212 = .ok (.aload_n 0, 1) := by decide +kernel
theorem dX5_constant_213 : decode cX5_constant 213 = .ok (.getfield 106, 3) := by decide +kernel
theorem dX5_constant_216 : decode cX5_constant 216 = .ok (.iconst 1, 1) := by decide +kernel
theorem dX5_constant_217 : decode cX5_constant 217 = .ok (.isub, 1) := by decide +kernel
theorem dX5_constant_218 : decode cX5_constant 218 = .ok (.ireturn, 1) := by decide +kernel
theorem dX5_push_0 : decode cX5_push 0 = .ok (.aload_n 0, 1) := by decide +kernel
theorem dX5_push_1 : decode cX5_push 1 = .ok (.getfield 73, 3) := by decide +kernel
theorem dX5_push_4 : decode cX5_push 4 = .ok (.aload_n 0, 1) := by decide +kernel
theorem dX5_push_5 : decode cX5_push 5 = .ok (.getfield 109, 3) := by decide +kernel
theorem dX5_push_8 : decode cX5_push 8 = .ok (.iload_n 1, 1) := by decide +kernel
theorem dX5_push_9 : decode cX5_push 9 = .ok (.iastore, 1) := by decide +kernel
theorem dX5_push_10 : decode cX5_push 10 = .ok (.aload_n 0, 1) := by decide +kernel
theorem dX5_push_11 : decode cX5_push 11 = .ok (.getfield 76, 3) := by decide +kernel
theorem dX5_push_14 : decode cX5_push 14 = .ok (.aload_n 0, 1) := by decide +kernel
theorem dX5_push_15 : decode cX5_push 15 = .ok (.getfield 109, 3) := by decide +kernel
theorem dX5_push_18 : decode cX5_push 18 = .ok (.iload_n 2, 1) := by decide +kernel
theorem dX5_push_19 : decode cX5_push 19 = .ok (.iastore, 1) := by decide +kernel
theorem dX5_push_20 : decode cX5_push 20 = .ok (.aload_n 0, 1) := by decide +kernel
theorem dX5_push_21 : decode cX5_push 21 = .ok (.getfield 79, 3) := by decide +kernel
theorem dX5_push_24 : decode cX5_push 24 = .ok (.aload_n 0, 1) := by decide +kernel
theorem dX5_push_25 : decode cX5_push 25 = .ok (.getfield 109, 3) := by decide +kernel
theorem dX5_push_28 : decode cX5_push 28 = .ok (.iconst 0, 1) := by decide +kernel
theorem dX5_push_29 : decode cX5_push 29 = .ok (.iastore, 1) := by decide +kernel
theorem dX5_push_30 : decode cX5_push 30 = .ok (.aload_n 0, 1) := by decide +kernel
theorem dX5_push_31 : decode cX5_push 31 = .ok (.getfield 82, 3) := by decide +kernel
theorem dX5_push_34 : decode cX5_push 34 = .ok (.aload_n 0, 1) := by decide +kernel
theorem dX5_push_35 : decode cX5_push 35 = .ok (.getfield 109, 3) := by decide +kernel
theorem dX5_push_38 : decode cX5_push 38 = .ok (.iconst 0, 1) := by decide +kernel
theorem dX5_push_39 : decode cX5_push 39 = .ok (.iastore, 1) := by decide +kernel
theorem dX5_push_40 : decode cX5_push 40 = .ok (.aload_n 0, 1) := by decide +kernel
theorem dX5_push_41 : decode cX5_push 41 = .ok (.dup, 1) := by decide +kernel
theorem dX5_push_42 : decode cX5_push 42 = .ok (.getfield 109, 3) := by decide +kernel
theorem dX5_push_45 : decode cX5_push 45 = .ok (.iconst 1, 1) := by decide +kernel
theorem dX5_push_46 : decode cX5_push 46 = .ok (.iadd, 1) := by decide +kernel
theorem dX5_push_47 : decode cX5_push 47 = .ok (.putfield 109, 3) := by decide +kernel
theorem dX5_push_50 : decode cX5_push 50 = .ok (.return_, 1) := by decide +kernel
theorem dX5_mark_0 : decode cX5_mark 0 = .ok (.aload_n 0, 1) := by decide +kernel
theorem dX5_mark_1 : decode cX5_mark 1 = .ok (.getfield 112, 3) := by decide +kernel
theorem dX5_mark_4 : decode cX5_mark 4 = .ok (.ifCond .eq 49, 3) := by decide +kernel
theorem dX5_mark_7 : decode cX5_mark 7 = .ok (.aload_n 0, 1) := by decide +kernel
theorem dX5_mark_8 : decode cX5_mark 8 = .ok (.getfield 116, 3) := by decide +kernel
theorem dX5_mark_11 : decode cX5_mark 11 = .ok (.sipush 200, 3) := by decide +kernel
theorem dX5_mark_14 : decode cX5_mark 14 = .ok (.if_icmp .ge 39, 3) := by decide +kernel
theorem dX5_mark_17 : decode cX5_mark 17 = .ok (.aload_n 0, 1) := by decide +kernel
theorem dX5_mark_18 : decode cX5_mark 18 = .ok (.getfield 67, 3) := by decide +kernel
theorem dX5_mark_21 : decode cX5_mark 21 = .ok (.iconst 2, 1) := by decide +kernel
theorem dX5_mark_22 : decode cX5_mark 22 = .ok (.aload_n 0, 1) := by decide +kernel
theorem dX5_mark_23 : decode cX5_mark 23 = .ok (.getfield 116, 3) := by decide +kernel
theorem dX5_mark_26 : decode cX5_mark 26 = .ok (.imul, 1) := by decide +kernel
theorem dX5_mark_27 : decode cX5_mark 27 = .ok (.iload_n 1, 1) := by decide +kernel
theorem dX5_mark_28 : decode cX5_mark 28 = .ok (.iastore, 1) := by decide +kernel
theorem dX5_mark_29 : decode cX5_mark 29 = .ok (.aload_n 0, 1) := by decide +kernel
theorem dX5_mark_30 : decode cX5_mark 30 = .ok (.getfield 67, 3) := by decide +kernel
theorem dX5_mark_33 : decode cX5_mark 33 = .ok (.iconst 2, 1) := by decide +kernel
theorem dX5_mark_34 : decode cX5_mark 34 = .ok (.aload_n 0, 1) := by decide +kernel
theorem dX5_mark_35 : decode cX5_mark 35 = .ok (.getfield 116, 3) := by decide +kernel
theorem dX5_mark_38 : decode cX5_mark 38 = .ok (.imul, 1) := by decide +kernel
theorem dX5_mark_39 : decode cX5_mark 39 = .ok (.iconst 1, 1) := by decide +kernel
theorem dX5_mark_40 : decode cX5_mark 40 = .ok (.iadd, 1) := by decide +kernel
theorem dX5_mark_41 : decode cX5_mark 41 = .ok (.iload_n 2, 1) := by decide +kernel
theorem dX5_mark_42 : decode cX5_mark 42 = .ok (.iastore, 1) := by decide +kernel
theorem dX5_mark_43 : decode cX5_mark 43 = .ok (.aload_n 0, 1) := by decide +kernel
theorem dX5_mark_44 : decode cX5_mark 44 = .ok (.dup, 1) := by decide +kernel
theorem dX5_mark_45 : decode cX5_mark 45 = .ok (.getfield 116, 3) := by decide +kernel
theorem dX5_mark_48 : decode cX5_mark 48 = .ok (.iconst 1, 1) := by decide +kernel
theorem dX5_mark_49 : decode cX5_mark 49 = .ok (.iadd, 1) := by decide +kernel
theorem dX5_mark_50 : decode cX5_mark 50 = .ok (.putfield 116, 3) := by decide +kernel
theorem dX5_mark_53 : decode cX5_mark 53 = .ok (.return_, 1) := by decide +kernel
theorem dX5_fails_0 : decode cX5_fails 0 = .ok (.aload_n 0, 1) := by decide +kernel
theorem dX5_fails_1 : decode cX5_fails 1 = .ok (.iload_n 1, 1) := by decide +kernel
theorem dX5_fails_2 : decode cX5_fails 2 = .ok (.putfield 119, 3) := by decide +kernel
theorem dX5_fails_5 : decode cX5_fails 5 = .ok (.aload_n 0, 1) := by decide +kernel
theorem dX5_fails_6 : decode cX5_fails 6 = .ok (.iload_n 2, 1) := by decide +kernel
theorem dX5_fails_7 : decode cX5_fails 7 = .ok (.putfield 122, 3) := by decide +kernel
theorem dX5_fails_10 : decode cX5_fails 10 = .ok (.aload_n 0, 1) := by decide +kernel
theorem dX5_fails_11 : decode cX5_fails 11 = .ok (.iload_n 1, 1) := by decide +kernel
theorem dX5_fails_12 : decode cX5_fails 12 = .ok (.putfield 125, 3) := by decide +kernel
theorem dX5_fails_15 : decode cX5_fails 15 = .ok (.aload_n 0, 1) := by decide +kernel
theorem dX5_fails_16 : decode cX5_fails 16 = .ok (.iload_n 2, 1) := by decide +kernel
theorem dX5_fails_17 : decode cX5_fails 17 = .ok (.putfield 128, 3) := by decide +kernel
theorem dX5_fails_20 : decode cX5_fails 20 = .ok (.return_, 1) := by decide +kernel
theorem dX5_gives_0 : decode cX5_gives 0 = .ok (.aload_n 0, 1) := by decide +kernel
theorem dX5_gives_1 : decode cX5_gives 1 = .ok (.iconst 0, 1) := by decide +kernel
theorem dX5_gives_2 : decode cX5_gives 2 = .ok (.putfield 119, 3) := by decide +kernel
theorem dX5_gives_5 : decode cX5_gives 5 = .ok (.aload_n 0, 1) := by decide +kernel
theorem dX5_gives_6 : decode cX5_gives 6 = .ok (.iload_n 1, 1) := by decide +kernel
theorem dX5_gives_7 : decode cX5_gives 7 = .ok (.putfield 131, 3) := by decide +kernel
theorem dX5_gives_10 : decode cX5_gives 10 = .ok (.return_, 1) := by decide +kernel
theorem dX5_runs_0 : decode cX5_runs 0 = .ok (.aload_n 0, 1) := by decide +kernel
theorem dX5_runs_1 : decode cX5_runs 1 = .ok (.getfield 109, 3) := by decide +kernel
theorem dX5_runs_4 : decode cX5_runs 4 = .ok (.ifCond .le 37, 3) := by decide +kernel
theorem dX5_runs_7 : decode cX5_runs 7 = .ok (.aload_n 0, 1) := by decide +kernel
theorem dX5_runs_8 : decode cX5_runs 8 = .ok (.getfield 109, 3) := by decide +kernel
theorem dX5_runs_11 : decode cX5_runs 11 = .ok (.iconst 1, 1) := by decide +kernel
theorem dX5_runs_12 : decode cX5_runs 12 = .ok (.isub, 1) := by decide +kernel
theorem dX5_runs_13 : decode cX5_runs 13 = .ok (.istore_n 2, 1) := by decide +kernel
theorem dX5_runs_14 : decode cX5_runs 14 = .ok (.aload_n 0, 1) := by decide +kernel
theorem dX5_runs_15 : decode cX5_runs 15 = .ok (.getfield 73, 3) := by decide +kernel
theorem dX5_runs_18 : decode cX5_runs 18 = .ok (.iload_n 2, 1) := by decide +kernel
theorem dX5_runs_19 : decode cX5_runs 19 = .ok (.iaload, 1) := by decide +kernel
theorem dX5_runs_20 : decode cX5_runs 20 = .ok (.ifCond .ne 12, 3) := by decide +kernel
theorem dX5_runs_23 : decode cX5_runs 23 = .ok (.aload_n 0, 1) := by decide +kernel
theorem dX5_runs_24 : decode cX5_runs 24 = .ok (.iload_n 1, 1) := by decide +kernel
theorem dX5_runs_25 : decode cX5_runs 25 = .ok (.iload_n 2, 1) := by decide +kernel
theorem dX5_runs_26 : decode cX5_runs 26 = .ok (.invokevirtual 134, 3) := by decide +kernel
theorem dX5_runs_29 : decode cX5_runs 29 = .ok (.goto 9, 3) := by decide +kernel
theorem dX5_runs_32 : decode cX5_runs 32 = .ok (.aload_n 0, 1) := by decide +kernel
theorem dX5_runs_33 : decode cX5_runs 33 = .ok (.iload_n 1, 1) := by decide +kernel
theorem dX5_runs_34 : decode cX5_runs 34 = .ok (.iload_n 2, 1) := by decide +kernel
theorem dX5_runs_35 : decode cX5_runs 35 = .ok (.invokevirtual 138, 3) := by decide +kernel
theorem dX5_runs_38 : decode cX5_runs 38 = .ok (.goto (-38), 3) := by decide +kernel
theorem dX5_runs_41 : decode cX5_runs 41 = .ok (.return_, 1) := by decide +kernel
theorem dX5_needs_0 : decode cX5_needs 0 = .ok (.aload_n 0, 1) := by decide +kernel
theorem dX5_needs_1 : decode cX5_needs 1 = .ok (.getfield 76, 3) := by decide +kernel
theorem dX5_needs_4 : decode cX5_needs 4 = .ok (.iload_n 2, 1) := by decide +kernel
theorem dX5_needs_5 : decode cX5_needs 5 = .ok (.iaload, 1) := by decide +kernel
theorem dX5_needs_6 : decode cX5_needs 6 = .ok (.istore_n 3, 1) := by decide +kernel
theorem dX5_needs_7 : decode cX5_needs 7 = .ok (.aload_n 0, 1) := by decide +kernel
theorem dX5_needs_8 : decode cX5_needs 8 = .ok (.getfield 79, 3) := by decide +kernel
theorem dX5_needs_11 : decode cX5_needs 11 = .ok (.iload_n 2, 1) := by decide +kernel
theorem dX5_needs_12 : decode cX5_needs 12 = .ok (.iaload, 1) := by decide +kernel
theorem dX5_needs_13 : decode cX5_needs 13 = .ok (.ifCond .ne 31, 3) := by decide +kernel
theorem dX5_needs_16 : decode cX5_needs 16 = .ok (.iload_n 3, 1) := by decide +kernel
theorem dX5_needs_17 : decode cX5_needs 17 = .ok (.aload_n 0, 1) := by decide +kernel
theorem dX5_needs_18 : decode cX5_needs 18 = .ok (.getfield 106, 3) := by decide +kernel
theorem dX5_needs_21 : decode cX5_needs 21 = .ok (.if_icmp .lt 23, 3) := by decide +kernel
theorem dX5_needs_24 : decode cX5_needs 24 = .ok (.aload_n 0, 1) := by decide +kernel
theorem dX5_needs_25 : decode cX5_needs 25 = .ok (.bipush 8, 2) := by decide +kernel
theorem dX5_needs_27 : decode cX5_needs 27 = .ok (.iload_n 3, 1) := by decide +kernel
theorem dX5_needs_28 : decode cX5_needs 28 = .ok (.invokevirtual 141, 3) := by decide +kernel
theorem dX5_needs_31 : decode cX5_needs 31 = .ok (.aload_n 0, 1) := by decide +kernel
theorem dX5_needs_32 : decode cX5_needs 32 = .ok (.dup, 1) := by decide +kernel
theorem dX5_needs_33 : decode cX5_needs 33 = .ok (.getfield 109, 3) := by decide +kernel
theorem dX5_needs_36 : decode cX5_needs 36 = .ok (.iconst 1, 1) := by decide +kernel
theorem dX5_needs_37 : decode cX5_needs 37 = .ok (.isub, 1) := by decide +kernel
theorem dX5_needs_38 : decode cX5_needs 38 = .ok (.putfield 109, 3) := by decide +kernel
theorem dX5_needs_41 : decode cX5_needs 41 = .ok (.goto 80, 3) := by decide +kernel
theorem dX5_needs_44 : decode cX5_needs 44 = .ok (.aload_n 0, 1) := by decide +kernel
theorem dX5_needs_45 : decode cX5_needs 45 = .ok (.getfield 79, 3) := by decide +kernel
theorem dX5_needs_48 : decode cX5_needs 48 = .ok (.iload_n 2, 1) := by decide +kernel
theorem dX5_needs_49 : decode cX5_needs 49 = .ok (.iaload, 1) := by decide +kernel
theorem dX5_needs_50 : decode cX5_needs 50 = .ok (.ifCond .ne 24, 3) := by decide +kernel
theorem dX5_needs_53 : decode cX5_needs 53 = .ok (.aload_n 0, 1) := by decide +kernel
theorem dX5_needs_54 : decode cX5_needs 54 = .ok (.getfield 79, 3) := by decide +kernel
theorem dX5_needs_57 : decode cX5_needs 57 = .ok (.iload_n 2, 1) := by decide +kernel
theorem dX5_needs_58 : decode cX5_needs 58 = .ok (.iconst 1, 1) := by decide +kernel
theorem dX5_needs_59 : decode cX5_needs 59 = .ok (.iastore, 1) := by decide +kernel
theorem dX5_needs_60 : decode cX5_needs 60 = .ok (.aload_n 0, 1) := by decide +kernel
theorem dX5_needs_61 : decode cX5_needs 61 = .ok (.iconst 1, 1) := by decide +kernel
theorem dX5_needs_62 : decode cX5_needs 62 = .ok (.aload_n 0, 1) := by decide +kernel
theorem dX5_needs_63 : decode cX5_needs 63 = .ok (.getfield 31, 3) := by decide +kernel
theorem dX5_needs_66 : decode cX5_needs 66 = .ok (.iload_n 3, 1) := by decide +kernel
theorem dX5_needs_67 : decode cX5_needs 67 = .ok (.iaload, 1) := by decide +kernel
theorem dX5_needs_68 : decode cX5_needs 68 = .ok (.invokevirtual 144, 3) := by decide +kernel
theorem dX5_needs_71 : decode cX5_needs 71 = .ok (.goto 50, 3) := by decide +kernel
theorem dX5_needs_74 : decode cX5_needs 74 = .ok (.aload_n 0, 1) := by decide +kernel
theorem dX5_needs_75 : decode cX5_needs 75 = .ok (.getfield 79, 3) := by decide +kernel
theorem dX5_needs_78 : decode cX5_needs 78 = .ok (.iload_n 2, 1) := by decide +kernel
theorem dX5_needs_79 : decode cX5_needs 79 = .ok (.iaload, 1) := by decide +kernel
theorem dX5_needs_80 : decode cX5_needs 80 = .ok (.iconst 1, 1) := by decide +kernel
theorem dX5_needs_81 : decode cX5_needs 81 = .ok (.if_icmp .ne 13, 3) := by decide +kernel
theorem dX5_needs_84 : decode cX5_needs 84 = .ok (.aload_n 0, 1) := by decide +kernel
theorem dX5_needs_85 : decode cX5_needs 85 = .ok (.iload_n 1, 1) := by decide +kernel
theorem dX5_needs_86 : decode cX5_needs 86 = .ok (.iload_n 2, 1) := by decide +kernel
theorem dX5_needs_87 : decode cX5_needs 87 = .ok (.iload_n 3, 1) := by decide +kernel
theorem dX5_needs_88 : decode cX5_needs 88 = .ok (.invokevirtual 147, 3) := by decide +kernel
theorem dX5_needs_91 : decode cX5_needs 91 = .ok (.goto 30, 3) := by decide +kernel
theorem dX5_needs_94 : decode cX5_needs 94 = .ok (.aload_n 0, 1) := by decide +kernel
theorem dX5_needs_95 : decode cX5_needs 95 = .ok (.getfield 79, 3) := by decide +kernel
theorem dX5_needs_98 : decode cX5_needs 98 = .ok (.iload_n 2, 1) := by decide +kernel
theorem dX5_needs_99 : decode cX5_needs 99 = .ok (.iaload, 1) := by decide +kernel
theorem dX5_needs_100 : decode cX5_needs 100 = .ok (.iconst 2, 1) := by decide +kernel
theorem dX5_needs_101 : decode cX5_needs 101 = .ok (.if_icmp .ne 13, 3) := by decide +kernel
theorem dX5_needs_104 : decode cX5_needs 104 = .ok (.aload_n 0, 1) := by decide +kernel
theorem dX5_needs_105 : decode cX5_needs 105 = .ok (.iload_n 1, 1) := by decide +kernel
theorem dX5_needs_106 : decode cX5_needs 106 = .ok (.iload_n 2, 1) := by decide +kernel
theorem dX5_needs_107 : decode cX5_needs 107 = .ok (.iload_n 3, 1) := by decide +kernel
theorem dX5_needs_108 : decode cX5_needs 108 = .ok (.invokevirtual 151, 3) := by decide +kernel
theorem dX5_needs_111 : decode cX5_needs 111 = .ok (.goto 10, 3) := by decide +kernel
theorem dX5_needs_114 : decode cX5_needs 114 = .ok (.aload_n 0, 1) := by decide +kernel
theorem dX5_needs_115 : decode cX5_needs 115 = .ok (.iload_n 1, 1) := by decide +kernel
theorem dX5_needs_116 : decode cX5_needs 116 = .ok (.iload_n 2, 1) := by decide +kernel
theorem dX5_needs_117 : decode cX5_needs 117 = .ok (.iload_n 3, 1) := by decide +kernel
theorem dX5_needs_118 : decode cX5_needs 118 = .ok (.invokevirtual 154, 3) := by decide +kernel
theorem dX5_needs_121 : decode cX5_needs 121 = .ok (.return_, 1) := by decide +kernel
theorem dX5_looks_0 : decode cX5_looks 0 = .ok (.bipush 40, 2) := by decide +kernel
theorem dX5_looks_2 : decode cX5_looks 2 = .ok (.iload_n 1, 1) := by decide +kernel
theorem dX5_looks_3 : decode cX5_looks 3 = .ok (.imul, 1) := by decide +kernel
theorem dX5_looks_4 : decode cX5_looks 4 = .ok (.iload_n 3, 1) := by decide +kernel
theorem dX5_looks_5 : decode cX5_looks 5 = .ok (.iadd, 1) := by decide +kernel
theorem dX5_looks_6 : decode cX5_looks 6 = .ok (.istore 4, 2) := by decide +kernel
theorem dX5_looks_8 : decode cX5_looks 8 = .ok (.aload_n 0, 1) := by decide +kernel
theorem dX5_looks_9 : decode cX5_looks 9 = .ok (.getfield 119, 3) := by decide +kernel
theorem dX5_looks_12 : decode cX5_looks 12 = .ok (.ifCond .le 16, 3) := by decide +kernel
theorem dX5_looks_15 : decode cX5_looks 15 = .ok (.aload_n 0, 1) := by decide +kernel
theorem dX5_looks_16 : decode cX5_looks 16 = .ok (.dup, 1) := by decide +kernel
theorem dX5_looks_17 : decode cX5_looks 17 = .ok (.getfield 109, 3) := by decide +kernel
theorem dX5_looks_20 : decode cX5_looks 20 = .ok (.iconst 1, 1) := by decide +kernel
theorem dX5_looks_21 : decode cX5_looks 21 = .ok (.isub, 1) := by decide +kernel
theorem dX5_looks_22 : decode cX5_looks 22 = .ok (.putfield 109, 3) := by decide +kernel
theorem dX5_looks_25 : decode cX5_looks 25 = .ok (.goto 182, 3) := by decide +kernel
theorem dX5_looks_28 : decode cX5_looks 28 = .ok (.aload_n 0, 1) := by decide +kernel
theorem dX5_looks_29 : decode cX5_looks 29 = .ok (.getfield 52, 3) := by decide +kernel
theorem dX5_looks_32 : decode cX5_looks 32 = .ok (.iload 4, 2) := by decide +kernel
theorem dX5_looks_34 : decode cX5_looks 34 = .ok (.iaload, 1) := by decide +kernel
theorem dX5_looks_35 : decode cX5_looks 35 = .ok (.iconst 2, 1) := by decide +kernel
theorem dX5_looks_36 : decode cX5_looks 36 = .ok (.if_icmp .ne 27, 3) := by decide +kernel
theorem dX5_looks_39 : decode cX5_looks 39 = .ok (.aload_n 0, 1) := by decide +kernel
theorem dX5_looks_40 : decode cX5_looks 40 = .ok (.aload_n 0, 1) := by decide +kernel
theorem dX5_looks_41 : decode cX5_looks 41 = .ok (.getfield 55, 3) := by decide +kernel
theorem dX5_looks_44 : decode cX5_looks 44 = .ok (.iload 4, 2) := by decide +kernel
theorem dX5_looks_46 : decode cX5_looks 46 = .ok (.iaload, 1) := by decide +kernel
theorem dX5_looks_47 : decode cX5_looks 47 = .ok (.invokevirtual 157, 3) := by decide +kernel
theorem dX5_looks_50 : decode cX5_looks 50 = .ok (.aload_n 0, 1) := by decide +kernel
theorem dX5_looks_51 : decode cX5_looks 51 = .ok (.dup, 1) := by decide +kernel
theorem dX5_looks_52 : decode cX5_looks 52 = .ok (.getfield 109, 3) := by decide +kernel
theorem dX5_looks_55 : decode cX5_looks 55 = .ok (.iconst 1, 1) := by decide +kernel
theorem dX5_looks_56 : decode cX5_looks 56 = .ok (.isub, 1) := by decide +kernel
theorem dX5_looks_57 : decode cX5_looks 57 = .ok (.putfield 109, 3) := by decide +kernel
theorem dX5_looks_60 : decode cX5_looks 60 = .ok (.goto 147, 3) := by decide +kernel
theorem dX5_looks_63 : decode cX5_looks 63 = .ok (.aload_n 0, 1) := by decide +kernel
theorem dX5_looks_64 : decode cX5_looks 64 = .ok (.getfield 52, 3) := by decide +kernel
theorem dX5_looks_67 : decode cX5_looks 67 = .ok (.iload 4, 2) := by decide +kernel
theorem dX5_looks_69 : decode cX5_looks 69 = .ok (.iaload, 1) := by decide +kernel
theorem dX5_looks_70 : decode cX5_looks 70 = .ok (.iconst 3, 1) := by decide +kernel
theorem dX5_looks_71 : decode cX5_looks 71 = .ok (.if_icmp .ne 60, 3) := by decide +kernel
theorem dX5_looks_74 : decode cX5_looks 74 = .ok (.aload_n 0, 1) := by decide +kernel
theorem dX5_looks_75 : decode cX5_looks 75 = .ok (.aload_n 0, 1) := by decide +kernel
theorem dX5_looks_76 : decode cX5_looks 76 = .ok (.getfield 55, 3) := by decide +kernel
theorem dX5_looks_79 : decode cX5_looks 79 = .ok (.iload 4, 2) := by decide +kernel
theorem dX5_looks_81 : decode cX5_looks 81 = .ok (.iaload, 1) := by decide +kernel
theorem dX5_looks_82 : decode cX5_looks 82 = .ok (.putfield 119, 3) := by decide +kernel
theorem dX5_looks_85 : decode cX5_looks 85 = .ok (.aload_n 0, 1) := by decide +kernel
theorem dX5_looks_86 : decode cX5_looks 86 = .ok (.aload_n 0, 1) := by decide +kernel
theorem dX5_looks_87 : decode cX5_looks 87 = .ok (.getfield 58, 3) := by decide +kernel
theorem dX5_looks_90 : decode cX5_looks 90 = .ok (.iload 4, 2) := by decide +kernel
theorem dX5_looks_92 : decode cX5_looks 92 = .ok (.iaload, 1) := by decide +kernel
theorem dX5_looks_93 : decode cX5_looks 93 = .ok (.putfield 122, 3) := by decide +kernel
theorem dX5_looks_96 : decode cX5_looks 96 = .ok (.aload_n 0, 1) := by decide +kernel
theorem dX5_looks_97 : decode cX5_looks 97 = .ok (.aload_n 0, 1) := by decide +kernel
theorem dX5_looks_98 : decode cX5_looks 98 = .ok (.getfield 61, 3) := by decide +kernel
theorem dX5_looks_101 : decode cX5_looks 101 = .ok (.iload 4, 2) := by decide +kernel
theorem dX5_looks_103 : decode cX5_looks 103 = .ok (.iaload, 1) := by decide +kernel
theorem dX5_looks_104 : decode cX5_looks 104 = .ok (.putfield 125, 3) := by decide +kernel
theorem dX5_looks_107 : decode cX5_looks 107 = .ok (.aload_n 0, 1) := by decide +kernel
theorem dX5_looks_108 : decode cX5_looks 108 = .ok (.aload_n 0, 1) := by decide +kernel
theorem dX5_looks_109 : decode cX5_looks 109 = .ok (.getfield 64, 3) := by decide +kernel
theorem dX5_looks_112 : decode cX5_looks 112 = .ok (.iload 4, 2) := by decide +kernel
theorem dX5_looks_114 : decode cX5_looks 114 = .ok (.iaload, 1) := by decide +kernel
theorem dX5_looks_115 : decode cX5_looks 115 = .ok (.putfield 128, 3) := by decide +kernel
theorem dX5_looks_118 : decode cX5_looks 118 = .ok (.aload_n 0, 1) := by decide +kernel
theorem dX5_looks_119 : decode cX5_looks 119 = .ok (.dup, 1) := by decide +kernel
theorem dX5_looks_120 : decode cX5_looks 120 = .ok (.getfield 109, 3) := by decide +kernel
theorem dX5_looks_123 : decode cX5_looks 123 = .ok (.iconst 1, 1) := by decide +kernel
theorem dX5_looks_124 : decode cX5_looks 124 = .ok (.isub, 1) := by decide +kernel
theorem dX5_looks_125 : decode cX5_looks 125 = .ok (.putfield 109, 3) := by decide +kernel
theorem dX5_looks_128 : decode cX5_looks 128 = .ok (.goto 79, 3) := by decide +kernel
theorem dX5_looks_131 : decode cX5_looks 131 = .ok (.aload_n 0, 1) := by decide +kernel
theorem dX5_looks_132 : decode cX5_looks 132 = .ok (.getfield 52, 3) := by decide +kernel
theorem dX5_looks_135 : decode cX5_looks 135 = .ok (.iload 4, 2) := by decide +kernel
theorem dX5_looks_137 : decode cX5_looks 137 = .ok (.iaload, 1) := by decide +kernel
theorem dX5_looks_138 : decode cX5_looks 138 = .ok (.iconst 1, 1) := by decide +kernel
theorem dX5_looks_139 : decode cX5_looks 139 = .ok (.if_icmp .ne 22, 3) := by decide +kernel
theorem dX5_looks_142 : decode cX5_looks 142 = .ok (.aload_n 0, 1) := by decide +kernel
theorem dX5_looks_143 : decode cX5_looks 143 = .ok (.iconst 4, 1) := by decide +kernel
theorem dX5_looks_144 : decode cX5_looks 144 = .ok (.iload_n 3, 1) := by decide +kernel
theorem dX5_looks_145 : decode cX5_looks 145 = .ok (.invokevirtual 141, 3) := by decide +kernel
theorem dX5_looks_148 : decode cX5_looks 148 = .ok (.aload_n 0, 1) := by decide +kernel
theorem dX5_looks_149 : decode cX5_looks 149 = .ok (.dup, 1) := by decide +kernel
theorem dX5_looks_150 : decode cX5_looks 150 = .ok (.getfield 109, 3) := by decide +kernel
theorem dX5_looks_153 : decode cX5_looks 153 = .ok (.iconst 1, 1) := by decide +kernel
theorem dX5_looks_154 : decode cX5_looks 154 = .ok (.isub, 1) := by decide +kernel
theorem dX5_looks_155 : decode cX5_looks 155 = .ok (.putfield 109, 3) := by decide +kernel
theorem dX5_looks_158 : decode cX5_looks 158 = .ok (.goto 49, 3) := by decide +kernel
theorem dX5_looks_161 : decode cX5_looks 161 = .ok (.aload_n 0, 1) := by decide +kernel
theorem dX5_looks_162 : decode cX5_looks 162 = .ok (.getfield 52, 3) := by decide +kernel
theorem dX5_looks_165 : decode cX5_looks 165 = .ok (.iload 4, 2) := by decide +kernel
theorem dX5_looks_167 : decode cX5_looks 167 = .ok (.iconst 1, 1) := by decide +kernel
theorem dX5_looks_168 : decode cX5_looks 168 = .ok (.iastore, 1) := by decide +kernel
theorem dX5_looks_169 : decode cX5_looks 169 = .ok (.aload_n 0, 1) := by decide +kernel
theorem dX5_looks_170 : decode cX5_looks 170 = .ok (.iconst 3, 1) := by decide +kernel
theorem dX5_looks_171 : decode cX5_looks 171 = .ok (.iload_n 3, 1) := by decide +kernel
theorem dX5_looks_172 : decode cX5_looks 172 = .ok (.invokevirtual 161, 3) := by decide +kernel
theorem dX5_looks_175 : decode cX5_looks 175 = .ok (.aload_n 0, 1) := by decide +kernel
theorem dX5_looks_176 : decode cX5_looks 176 = .ok (.dup, 1) := by decide +kernel
theorem dX5_looks_177 : decode cX5_looks 177 = .ok (.getfield 164, 3) := by decide +kernel
theorem dX5_looks_180 : decode cX5_looks 180 = .ok (.iload_n 1, 1) := by decide +kernel
theorem dX5_looks_181 : decode cX5_looks 181 = .ok (.iconst 3, 1) := by decide +kernel
theorem dX5_looks_182 : decode cX5_looks 182 = .ok (.if_icmp .ge 7, 3) := by decide +kernel
theorem dX5_looks_185 : decode cX5_looks 185 = .ok (.iconst 1, 1) := by decide +kernel
theorem dX5_looks_186 : decode cX5_looks 186 = .ok (.goto 4, 3) := by decide +kernel
theorem dX5_looks_189 : decode cX5_looks 189 = .ok (.iconst 0, 1) := by decide +kernel
theorem dX5_looks_190 : decode cX5_looks 190 = .ok (.iadd, 1) := by decide +kernel
theorem dX5_looks_191 : decode cX5_looks 191 = .ok (.putfield 164, 3) := by decide +kernel
theorem dX5_looks_194 : decode cX5_looks 194 = .ok (.aload_n 0, 1) := by decide +kernel
theorem dX5_looks_195 : decode cX5_looks 195 = .ok (.getfield 79, 3) := by decide +kernel
theorem dX5_looks_198 : decode cX5_looks 198 = .ok (.iload_n 2, 1) := by decide +kernel
theorem dX5_looks_199 : decode cX5_looks 199 = .ok (.iconst 2, 1) := by decide +kernel
theorem dX5_looks_200 : decode cX5_looks 200 = .ok (.iastore, 1) := by decide +kernel
theorem dX5_looks_201 : decode cX5_looks 201 = .ok (.aload_n 0, 1) := by decide +kernel
theorem dX5_looks_202 : decode cX5_looks 202 = .ok (.iload_n 1, 1) := by decide +kernel
theorem dX5_looks_203 : decode cX5_looks 203 = .ok (.iload_n 3, 1) := by decide +kernel
theorem dX5_looks_204 : decode cX5_looks 204 = .ok (.invokevirtual 167, 3) := by decide +kernel
theorem dX5_looks_207 : decode cX5_looks 207 = .ok (.return_, 1) := by decide +kernel
theorem dX5_begins_0 : decode cX5_begins 0 = .ok (.aload_n 0, 1) := by decide +kernel
theorem dX5_begins_1 : decode cX5_begins 1 = .ok (.getfield 37, 3) := by decide +kernel
theorem dX5_begins_4 : decode cX5_begins 4 = .ok (.iload_n 2, 1) := by decide +kernel
theorem dX5_begins_5 : decode cX5_begins 5 = .ok (.iaload, 1) := by decide +kernel
theorem dX5_begins_6 : decode cX5_begins 6 = .ok (.istore_n 3, 1) := by decide +kernel
theorem dX5_begins_7 : decode cX5_begins 7 = .ok (.aload_n 0, 1) := by decide +kernel
theorem dX5_begins_8 : decode cX5_begins 8 = .ok (.getfield 34, 3) := by decide +kernel
theorem dX5_begins_11 : decode cX5_begins 11 = .ok (.iload_n 2, 1) := by decide +kernel
theorem dX5_begins_12 : decode cX5_begins 12 = .ok (.iaload, 1) := by decide +kernel
theorem dX5_begins_13 : decode cX5_begins 13 = .ok (.tableswitch 178 0 10 #[59, 178, 178, 178, 178, 178, 73, 178, 88, 112, 169], 59) := by decide +kernel
theorem dX5_begins_72 : decode cX5_begins 72 = .ok (.aload_n 0, 1) := by decide +kernel
theorem dX5_begins_73 : decode cX5_begins 73 = .ok (.iload_n 3, 1) := by decide +kernel
theorem dX5_begins_74 : decode cX5_begins 74 = .ok (.invokevirtual 157, 3) := by decide +kernel
theorem dX5_begins_77 : decode cX5_begins 77 = .ok (.aload_n 0, 1) := by decide +kernel
theorem dX5_begins_78 : decode cX5_begins 78 = .ok (.iload_n 1, 1) := by decide +kernel
theorem dX5_begins_79 : decode cX5_begins 79 = .ok (.iload_n 2, 1) := by decide +kernel
theorem dX5_begins_80 : decode cX5_begins 80 = .ok (.invokevirtual 170, 3) := by decide +kernel
theorem dX5_begins_83 : decode cX5_begins 83 = .ok (.goto 114, 3) := by decide +kernel
theorem dX5_begins_86 : decode cX5_begins 86 = .ok (.aload_n 0, 1) := by decide +kernel
theorem dX5_begins_87 : decode cX5_begins 87 = .ok (.iconst 3, 1) := by decide +kernel
theorem dX5_begins_88 : decode cX5_begins 88 = .ok (.iload_n 3, 1) := by decide +kernel
theorem dX5_begins_89 : decode cX5_begins 89 = .ok (.invokevirtual 141, 3) := by decide +kernel
theorem dX5_begins_92 : decode cX5_begins 92 = .ok (.aload_n 0, 1) := by decide +kernel
theorem dX5_begins_93 : decode cX5_begins 93 = .ok (.iload_n 1, 1) := by decide +kernel
theorem dX5_begins_94 : decode cX5_begins 94 = .ok (.iload_n 2, 1) := by decide +kernel
theorem dX5_begins_95 : decode cX5_begins 95 = .ok (.invokevirtual 170, 3) := by decide +kernel
theorem dX5_begins_98 : decode cX5_begins 98 = .ok (.goto 99, 3) := by decide +kernel
theorem dX5_begins_101 : decode cX5_begins 101 = .ok (.aload_n 0, 1) := by decide +kernel
theorem dX5_begins_102 : decode cX5_begins 102 = .ok (.aload_n 0, 1) := by decide +kernel
theorem dX5_begins_103 : decode cX5_begins 103 = .ok (.getfield 46, 3) := by decide +kernel
theorem dX5_begins_106 : decode cX5_begins 106 = .ok (.bipush 12, 2) := by decide +kernel
theorem dX5_begins_108 : decode cX5_begins 108 = .ok (.iload_n 1, 1) := by decide +kernel
theorem dX5_begins_109 : decode cX5_begins 109 = .ok (.imul, 1) := by decide +kernel
theorem dX5_begins_110 : decode cX5_begins 110 = .ok (.iload_n 3, 1) := by decide +kernel
theorem dX5_begins_111 : decode cX5_begins 111 = .ok (.iadd, 1) := by decide +kernel
theorem dX5_begins_112 : decode cX5_begins 112 = .ok (.iaload, 1) := by decide +kernel
theorem dX5_begins_113 : decode cX5_begins 113 = .ok (.invokevirtual 157, 3) := by decide +kernel
theorem dX5_begins_116 : decode cX5_begins 116 = .ok (.aload_n 0, 1) := by decide +kernel
theorem dX5_begins_117 : decode cX5_begins 117 = .ok (.iload_n 1, 1) := by decide +kernel
theorem dX5_begins_118 : decode cX5_begins 118 = .ok (.iload_n 2, 1) := by decide +kernel
theorem dX5_begins_119 : decode cX5_begins 119 = .ok (.invokevirtual 170, 3) := by decide +kernel
theorem dX5_begins_122 : decode cX5_begins 122 = .ok (.goto 75, 3) := by decide +kernel
theorem dX5_begins_125 : decode cX5_begins 125 = .ok (.iconst 0, 1) := by decide +kernel
theorem dX5_begins_126 : decode cX5_begins 126 = .ok (.istore 4, 2) := by decide +kernel
theorem dX5_begins_128 : decode cX5_begins 128 = .ok (.iconst 0, 1) := by decide +kernel
theorem dX5_begins_129 : decode cX5_begins 129 = .ok (.istore 5, 2) := by decide +kernel
theorem dX5_begins_131 : decode cX5_begins 131 = .ok (.iload 5, 2) := by decide +kernel
theorem dX5_begins_133 : decode cX5_begins 133 = .ok (.aload_n 0, 1) := by decide +kernel
theorem dX5_begins_134 : decode cX5_begins 134 = .ok (.getfield 106, 3) := by decide +kernel
theorem dX5_begins_137 : decode cX5_begins 137 = .ok (.if_icmp .ge 30, 3) := by decide +kernel
theorem dX5_begins_140 : decode cX5_begins 140 = .ok (.iload 4, 2) := by decide +kernel
theorem dX5_begins_142 : decode cX5_begins 142 = .ok (.aload_n 0, 1) := by decide +kernel
theorem dX5_begins_143 : decode cX5_begins 143 = .ok (.getfield 31, 3) := by decide +kernel
theorem dX5_begins_146 : decode cX5_begins 146 = .ok (.iload 5, 2) := by decide +kernel
theorem dX5_begins_148 : decode cX5_begins 148 = .ok (.iaload, 1) := by decide +kernel
theorem dX5_begins_149 : decode cX5_begins 149 = .ok (.iload_n 3, 1) := by decide +kernel
theorem dX5_begins_150 : decode cX5_begins 150 = .ok (.if_icmp .ne 7, 3) := by decide +kernel
theorem dX5_begins_153 : decode cX5_begins 153 = .ok (.iconst 1, 1) := by decide +kernel
theorem dX5_begins_154 : decode cX5_begins 154 = .ok (.goto 4, 3) := by decide +kernel
theorem dX5_begins_157 : decode cX5_begins 157 = .ok (.iconst 0, 1) := by decide +kernel
theorem dX5_begins_158 : decode cX5_begins 158 = .ok (.iadd, 1) := by decide +kernel
theorem dX5_begins_159 : decode cX5_begins 159 = .ok (.istore 4, 2) := by decide +kernel
theorem dX5_begins_161 : decode cX5_begins 161 = .ok (.iinc 5 1, 3) := by decide +kernel
theorem dX5_begins_164 : decode cX5_begins 164 = .ok (.goto (-33), 3) := by decide +kernel
theorem dX5_begins_167 : decode cX5_begins 167 = .ok (.aload_n 0, 1) := by decide +kernel
theorem dX5_begins_168 : decode cX5_begins 168 = .ok (.iload 4, 2) := by decide +kernel
theorem dX5_begins_170 : decode cX5_begins 170 = .ok (.invokevirtual 157, 3) := by decide +kernel
theorem dX5_begins_173 : decode cX5_begins 173 = .ok (.aload_n 0, 1) := by decide +kernel
theorem dX5_begins_174 : decode cX5_begins 174 = .ok (.iload_n 1, 1) := by decide +kernel
theorem dX5_begins_175 : decode cX5_begins 175 = .ok (.iload_n 2, 1) := by decide +kernel
theorem dX5_begins_176 : decode cX5_begins 176 = .ok (.invokevirtual 170, 3) := by decide +kernel
theorem dX5_begins_179 : decode cX5_begins 179 = .ok (.goto 18, 3) := by decide +kernel
theorem dX5_begins_182 : decode cX5_begins 182 = .ok (.aload_n 0, 1) := by decide +kernel
theorem dX5_begins_183 : decode cX5_begins 183 = .ok (.iconst 1, 1) := by decide +kernel
theorem dX5_begins_184 : decode cX5_begins 184 = .ok (.iload_n 3, 1) := by decide +kernel
theorem dX5_begins_185 : decode cX5_begins 185 = .ok (.invokevirtual 144, 3) := by decide +kernel
theorem dX5_begins_188 : decode cX5_begins 188 = .ok (.goto 9, 3) := by decide +kernel
theorem dX5_begins_191 : decode cX5_begins 191 = .ok (.aload_n 0, 1) := by decide +kernel
theorem dX5_begins_192 : decode cX5_begins 192 = .ok (.iconst 0, 1) := by decide +kernel
theorem dX5_begins_193 : decode cX5_begins 193 = .ok (.iload_n 3, 1) := by decide +kernel
theorem dX5_begins_194 : decode cX5_begins 194 = .ok (.invokevirtual 144, 3) := by decide +kernel
theorem dX5_begins_197 : decode cX5_begins 197 = .ok (.return_, 1) := by decide +kernel
theorem dX5_ends_0 : decode cX5_ends 0 = .ok (.bipush 40, 2) := by decide +kernel
theorem dX5_ends_2 : decode cX5_ends 2 = .ok (.iload_n 1, 1) := by decide +kernel
theorem dX5_ends_3 : decode cX5_ends 3 = .ok (.imul, 1) := by decide +kernel
theorem dX5_ends_4 : decode cX5_ends 4 = .ok (.iload_n 2, 1) := by decide +kernel
theorem dX5_ends_5 : decode cX5_ends 5 = .ok (.iadd, 1) := by decide +kernel
theorem dX5_ends_6 : decode cX5_ends 6 = .ok (.istore_n 3, 1) := by decide +kernel
theorem dX5_ends_7 : decode cX5_ends 7 = .ok (.aload_n 0, 1) := by decide +kernel
theorem dX5_ends_8 : decode cX5_ends 8 = .ok (.getfield 52, 3) := by decide +kernel
theorem dX5_ends_11 : decode cX5_ends 11 = .ok (.iload_n 3, 1) := by decide +kernel
theorem dX5_ends_12 : decode cX5_ends 12 = .ok (.aload_n 0, 1) := by decide +kernel
theorem dX5_ends_13 : decode cX5_ends 13 = .ok (.getfield 119, 3) := by decide +kernel
theorem dX5_ends_16 : decode cX5_ends 16 = .ok (.ifCond .le 7, 3) := by decide +kernel
theorem dX5_ends_19 : decode cX5_ends 19 = .ok (.iconst 3, 1) := by decide +kernel
theorem dX5_ends_20 : decode cX5_ends 20 = .ok (.goto 4, 3) := by decide +kernel
theorem dX5_ends_23 : decode cX5_ends 23 = .ok (.iconst 2, 1) := by decide +kernel
theorem dX5_ends_24 : decode cX5_ends 24 = .ok (.iastore, 1) := by decide +kernel
theorem dX5_ends_25 : decode cX5_ends 25 = .ok (.aload_n 0, 1) := by decide +kernel
theorem dX5_ends_26 : decode cX5_ends 26 = .ok (.getfield 55, 3) := by decide +kernel
theorem dX5_ends_29 : decode cX5_ends 29 = .ok (.iload_n 3, 1) := by decide +kernel
theorem dX5_ends_30 : decode cX5_ends 30 = .ok (.aload_n 0, 1) := by decide +kernel
theorem dX5_ends_31 : decode cX5_ends 31 = .ok (.getfield 119, 3) := by decide +kernel
theorem dX5_ends_34 : decode cX5_ends 34 = .ok (.ifCond .le 10, 3) := by decide +kernel
theorem dX5_ends_37 : decode cX5_ends 37 = .ok (.aload_n 0, 1) := by decide +kernel
theorem dX5_ends_38 : decode cX5_ends 38 = .ok (.getfield 119, 3) := by decide +kernel
theorem dX5_ends_41 : decode cX5_ends 41 = .ok (.goto 7, 3) := by decide +kernel
theorem dX5_ends_44 : decode cX5_ends 44 = .ok (.aload_n 0, 1) := by decide +kernel
theorem dX5_ends_45 : decode cX5_ends 45 = .ok (.getfield 131, 3) := by decide +kernel
theorem dX5_ends_48 : decode cX5_ends 48 = .ok (.iastore, 1) := by decide +kernel
theorem dX5_ends_49 : decode cX5_ends 49 = .ok (.aload_n 0, 1) := by decide +kernel
theorem dX5_ends_50 : decode cX5_ends 50 = .ok (.getfield 58, 3) := by decide +kernel
theorem dX5_ends_53 : decode cX5_ends 53 = .ok (.iload_n 3, 1) := by decide +kernel
theorem dX5_ends_54 : decode cX5_ends 54 = .ok (.aload_n 0, 1) := by decide +kernel
theorem dX5_ends_55 : decode cX5_ends 55 = .ok (.getfield 122, 3) := by decide +kernel
theorem dX5_ends_58 : decode cX5_ends 58 = .ok (.iastore, 1) := by decide +kernel
theorem dX5_ends_59 : decode cX5_ends 59 = .ok (.aload_n 0, 1) := by decide +kernel
theorem dX5_ends_60 : decode cX5_ends 60 = .ok (.getfield 61, 3) := by decide +kernel
theorem dX5_ends_63 : decode cX5_ends 63 = .ok (.iload_n 3, 1) := by decide +kernel
theorem dX5_ends_64 : decode cX5_ends 64 = .ok (.aload_n 0, 1) := by decide +kernel
theorem dX5_ends_65 : decode cX5_ends 65 = .ok (.getfield 125, 3) := by decide +kernel
theorem dX5_ends_68 : decode cX5_ends 68 = .ok (.iastore, 1) := by decide +kernel
theorem dX5_ends_69 : decode cX5_ends 69 = .ok (.aload_n 0, 1) := by decide +kernel
theorem dX5_ends_70 : decode cX5_ends 70 = .ok (.getfield 64, 3) := by decide +kernel
theorem dX5_ends_73 : decode cX5_ends 73 = .ok (.iload_n 3, 1) := by decide +kernel
theorem dX5_ends_74 : decode cX5_ends 74 = .ok (.aload_n 0, 1) := by decide +kernel
theorem dX5_ends_75 : decode cX5_ends 75 = .ok (.getfield 128, 3) := by decide +kernel
theorem dX5_ends_78 : decode cX5_ends 78 = .ok (.iastore, 1) := by decide +kernel
theorem dX5_ends_79 : decode cX5_ends 79 = .ok (.aload_n 0, 1) := by decide +kernel
theorem dX5_ends_80 : decode cX5_ends 80 = .ok (.aload_n 0, 1) := by decide +kernel
theorem dX5_ends_81 : decode cX5_ends 81 = .ok (.getfield 119, 3) := by decide +kernel
theorem dX5_ends_84 : decode cX5_ends 84 = .ok (.ifCond .le 7, 3) := by decide +kernel
theorem dX5_ends_87 : decode cX5_ends 87 = .ok (.iconst 5, 1) := by decide +kernel
theorem dX5_ends_88 : decode cX5_ends 88 = .ok (.goto 4, 3) := by decide +kernel
theorem dX5_ends_91 : decode cX5_ends 91 = .ok (.iconst 4, 1) := by decide +kernel
theorem dX5_ends_92 : decode cX5_ends 92 = .ok (.iload_n 2, 1) := by decide +kernel
theorem dX5_ends_93 : decode cX5_ends 93 = .ok (.invokevirtual 161, 3) := by decide +kernel
theorem dX5_ends_96 : decode cX5_ends 96 = .ok (.aload_n 0, 1) := by decide +kernel
theorem dX5_ends_97 : decode cX5_ends 97 = .ok (.dup, 1) := by decide +kernel
theorem dX5_ends_98 : decode cX5_ends 98 = .ok (.getfield 109, 3) := by decide +kernel
theorem dX5_ends_101 : decode cX5_ends 101 = .ok (.iconst 1, 1) := by decide +kernel
theorem dX5_ends_102 : decode cX5_ends 102 = .ok (.isub, 1) := by decide +kernel
theorem dX5_ends_103 : decode cX5_ends 103 = .ok (.putfield 109, 3) := by decide +kernel
theorem dX5_ends_106 : decode cX5_ends 106 = .ok (.return_, 1) := by decide +kernel
theorem dX5_first_0 : decode cX5_first 0 = .ok (.aload_n 0, 1) := by decide +kernel
theorem dX5_first_1 : decode cX5_first 1 = .ok (.getfield 34, 3) := by decide +kernel
theorem dX5_first_4 : decode cX5_first 4 = .ok (.iload_n 3, 1) := by decide +kernel
theorem dX5_first_5 : decode cX5_first 5 = .ok (.iaload, 1) := by decide +kernel
theorem dX5_first_6 : decode cX5_first 6 = .ok (.istore 4, 2) := by decide +kernel
theorem dX5_first_8 : decode cX5_first 8 = .ok (.aload_n 0, 1) := by decide +kernel
theorem dX5_first_9 : decode cX5_first 9 = .ok (.getfield 119, 3) := by decide +kernel
theorem dX5_first_12 : decode cX5_first 12 = .ok (.ifCond .le 26, 3) := by decide +kernel
theorem dX5_first_15 : decode cX5_first 15 = .ok (.iload 4, 2) := by decide +kernel
theorem dX5_first_17 : decode cX5_first 17 = .ok (.iconst 5, 1) := by decide +kernel
theorem dX5_first_18 : decode cX5_first 18 = .ok (.if_icmp .ne 13, 3) := by decide +kernel
theorem dX5_first_21 : decode cX5_first 21 = .ok (.aload_n 0, 1) := by decide +kernel
theorem dX5_first_22 : decode cX5_first 22 = .ok (.aload_n 0, 1) := by decide +kernel
theorem dX5_first_23 : decode cX5_first 23 = .ok (.getfield 40, 3) := by decide +kernel
theorem dX5_first_26 : decode cX5_first 26 = .ok (.iload_n 3, 1) := by decide +kernel
theorem dX5_first_27 : decode cX5_first 27 = .ok (.iaload, 1) := by decide +kernel
theorem dX5_first_28 : decode cX5_first 28 = .ok (.invokevirtual 157, 3) := by decide +kernel
theorem dX5_first_31 : decode cX5_first 31 = .ok (.aload_n 0, 1) := by decide +kernel
theorem dX5_first_32 : decode cX5_first 32 = .ok (.iload_n 1, 1) := by decide +kernel
theorem dX5_first_33 : decode cX5_first 33 = .ok (.iload_n 3, 1) := by decide +kernel
theorem dX5_first_34 : decode cX5_first 34 = .ok (.invokevirtual 170, 3) := by decide +kernel
theorem dX5_first_37 : decode cX5_first 37 = .ok (.return_, 1) := by decide +kernel
theorem dX5_first_38 : decode cX5_first 38 = .ok (.bipush 96, 2) := by decide +kernel
theorem dX5_first_40 : decode cX5_first 40 = .ok (.iload_n 1, 1) := by decide +kernel
theorem dX5_first_41 : decode cX5_first 41 = .ok (.imul, 1) := by decide +kernel
theorem dX5_first_42 : decode cX5_first 42 = .ok (.bipush 8, 2) := by decide +kernel
theorem dX5_first_44 : decode cX5_first 44 = .ok (.aload_n 0, 1) := by decide +kernel
theorem dX5_first_45 : decode cX5_first 45 = .ok (.getfield 31, 3) := by decide +kernel
theorem dX5_first_48 : decode cX5_first 48 = .ok (.iload_n 3, 1) := by decide +kernel
theorem dX5_first_49 : decode cX5_first 49 = .ok (.iaload, 1) := by decide +kernel
theorem dX5_first_50 : decode cX5_first 50 = .ok (.imul, 1) := by decide +kernel
theorem dX5_first_51 : decode cX5_first 51 = .ok (.iadd, 1) := by decide +kernel
theorem dX5_first_52 : decode cX5_first 52 = .ok (.istore 5, 2) := by decide +kernel
theorem dX5_first_54 : decode cX5_first 54 = .ok (.iload 4, 2) := by decide +kernel
theorem dX5_first_56 : decode cX5_first 56 = .ok (.tableswitch 290 1 11 #[60, 84, 84, 115, 290, 290, 173, 290, 290, 214, 228], 60) := by decide +kernel
theorem dX5_first_116 : decode cX5_first 116 = .ok (.aload_n 0, 1) := by decide +kernel
theorem dX5_first_117 : decode cX5_first 117 = .ok (.aload_n 0, 1) := by decide +kernel
theorem dX5_first_118 : decode cX5_first 118 = .ok (.getfield 131, 3) := by decide +kernel
theorem dX5_first_121 : decode cX5_first 121 = .ok (.aload_n 0, 1) := by decide +kernel
theorem dX5_first_122 : decode cX5_first 122 = .ok (.getfield 40, 3) := by decide +kernel
theorem dX5_first_125 : decode cX5_first 125 = .ok (.iload_n 3, 1) := by decide +kernel
theorem dX5_first_126 : decode cX5_first 126 = .ok (.iaload, 1) := by decide +kernel
theorem dX5_first_127 : decode cX5_first 127 = .ok (.iadd, 1) := by decide +kernel
theorem dX5_first_128 : decode cX5_first 128 = .ok (.invokevirtual 157, 3) := by decide +kernel
theorem dX5_first_131 : decode cX5_first 131 = .ok (.aload_n 0, 1) := by decide +kernel
theorem dX5_first_132 : decode cX5_first 132 = .ok (.iload_n 1, 1) := by decide +kernel
theorem dX5_first_133 : decode cX5_first 133 = .ok (.iload_n 3, 1) := by decide +kernel
theorem dX5_first_134 : decode cX5_first 134 = .ok (.invokevirtual 170, 3) := by decide +kernel
theorem dX5_first_137 : decode cX5_first 137 = .ok (.goto 215, 3) := by decide +kernel
theorem dX5_first_140 : decode cX5_first 140 = .ok (.aload_n 0, 1) := by decide +kernel
theorem dX5_first_141 : decode cX5_first 141 = .ok (.getfield 82, 3) := by decide +kernel
theorem dX5_first_144 : decode cX5_first 144 = .ok (.iload_n 2, 1) := by decide +kernel
theorem dX5_first_145 : decode cX5_first 145 = .ok (.aload_n 0, 1) := by decide +kernel
theorem dX5_first_146 : decode cX5_first 146 = .ok (.getfield 131, 3) := by decide +kernel
theorem dX5_first_149 : decode cX5_first 149 = .ok (.iastore, 1) := by decide +kernel
theorem dX5_first_150 : decode cX5_first 150 = .ok (.aload_n 0, 1) := by decide +kernel
theorem dX5_first_151 : decode cX5_first 151 = .ok (.getfield 79, 3) := by decide +kernel
theorem dX5_first_154 : decode cX5_first 154 = .ok (.iload_n 2, 1) := by decide +kernel
theorem dX5_first_155 : decode cX5_first 155 = .ok (.iconst 3, 1) := by decide +kernel
theorem dX5_first_156 : decode cX5_first 156 = .ok (.iastore, 1) := by decide +kernel
theorem dX5_first_157 : decode cX5_first 157 = .ok (.aload_n 0, 1) := by decide +kernel
theorem dX5_first_158 : decode cX5_first 158 = .ok (.iconst 0, 1) := by decide +kernel
theorem dX5_first_159 : decode cX5_first 159 = .ok (.aload_n 0, 1) := by decide +kernel
theorem dX5_first_160 : decode cX5_first 160 = .ok (.getfield 40, 3) := by decide +kernel
theorem dX5_first_163 : decode cX5_first 163 = .ok (.iload_n 3, 1) := by decide +kernel
theorem dX5_first_164 : decode cX5_first 164 = .ok (.iaload, 1) := by decide +kernel
theorem dX5_first_165 : decode cX5_first 165 = .ok (.invokevirtual 144, 3) := by decide +kernel
theorem dX5_first_168 : decode cX5_first 168 = .ok (.goto 184, 3) := by decide +kernel
theorem dX5_first_171 : decode cX5_first 171 = .ok (.aload_n 0, 1) := by decide +kernel
theorem dX5_first_172 : decode cX5_first 172 = .ok (.getfield 131, 3) := by decide +kernel
theorem dX5_first_175 : decode cX5_first 175 = .ok (.iconst 0, 1) := by decide +kernel
theorem dX5_first_176 : decode cX5_first 176 = .ok (.aload_n 0, 1) := by decide +kernel
theorem dX5_first_177 : decode cX5_first 177 = .ok (.getfield 7, 3) := by decide +kernel
theorem dX5_first_180 : decode cX5_first 180 = .ok (.aload_n 0, 1) := by decide +kernel
theorem dX5_first_181 : decode cX5_first 181 = .ok (.getfield 31, 3) := by decide +kernel
theorem dX5_first_184 : decode cX5_first 184 = .ok (.iload_n 3, 1) := by decide +kernel
theorem dX5_first_185 : decode cX5_first 185 = .ok (.iaload, 1) := by decide +kernel
theorem dX5_first_186 : decode cX5_first 186 = .ok (.iaload, 1) := by decide +kernel
theorem dX5_first_187 : decode cX5_first 187 = .ok (.iconst 1, 1) := by decide +kernel
theorem dX5_first_188 : decode cX5_first 188 = .ok (.isub, 1) := by decide +kernel
theorem dX5_first_189 : decode cX5_first 189 = .ok (.invokestatic 98, 3) := by decide +kernel
theorem dX5_first_192 : decode cX5_first 192 = .ok (.ifCond .eq 22, 3) := by decide +kernel
theorem dX5_first_195 : decode cX5_first 195 = .ok (.aload_n 0, 1) := by decide +kernel
theorem dX5_first_196 : decode cX5_first 196 = .ok (.aload_n 0, 1) := by decide +kernel
theorem dX5_first_197 : decode cX5_first 197 = .ok (.getfield 49, 3) := by decide +kernel
theorem dX5_first_200 : decode cX5_first 200 = .ok (.iload 5, 2) := by decide +kernel
theorem dX5_first_202 : decode cX5_first 202 = .ok (.aload_n 0, 1) := by decide +kernel
theorem dX5_first_203 : decode cX5_first 203 = .ok (.getfield 131, 3) := by decide +kernel
theorem dX5_first_206 : decode cX5_first 206 = .ok (.iadd, 1) := by decide +kernel
theorem dX5_first_207 : decode cX5_first 207 = .ok (.iaload, 1) := by decide +kernel
theorem dX5_first_208 : decode cX5_first 208 = .ok (.invokevirtual 157, 3) := by decide +kernel
theorem dX5_first_211 : decode cX5_first 211 = .ok (.goto 9, 3) := by decide +kernel
theorem dX5_first_214 : decode cX5_first 214 = .ok (.aload_n 0, 1) := by decide +kernel
theorem dX5_first_215 : decode cX5_first 215 = .ok (.iconst 2, 1) := by decide +kernel
theorem dX5_first_216 : decode cX5_first 216 = .ok (.iconst 0, 1) := by decide +kernel
theorem dX5_first_217 : decode cX5_first 217 = .ok (.invokevirtual 141, 3) := by decide +kernel
theorem dX5_first_220 : decode cX5_first 220 = .ok (.aload_n 0, 1) := by decide +kernel
theorem dX5_first_221 : decode cX5_first 221 = .ok (.iload_n 1, 1) := by decide +kernel
theorem dX5_first_222 : decode cX5_first 222 = .ok (.iload_n 3, 1) := by decide +kernel
theorem dX5_first_223 : decode cX5_first 223 = .ok (.invokevirtual 170, 3) := by decide +kernel
theorem dX5_first_226 : decode cX5_first 226 = .ok (.goto 126, 3) := by decide +kernel
theorem dX5_first_229 : decode cX5_first 229 = .ok (.aload_n 0, 1) := by decide +kernel
theorem dX5_first_230 : decode cX5_first 230 = .ok (.getfield 131, 3) := by decide +kernel
theorem dX5_first_233 : decode cX5_first 233 = .ok (.ifCond .eq 12, 3) := by decide +kernel
theorem dX5_first_236 : decode cX5_first 236 = .ok (.aload_n 0, 1) := by decide +kernel
theorem dX5_first_237 : decode cX5_first 237 = .ok (.getfield 40, 3) := by decide +kernel
theorem dX5_first_240 : decode cX5_first 240 = .ok (.iload_n 3, 1) := by decide +kernel
theorem dX5_first_241 : decode cX5_first 241 = .ok (.iaload, 1) := by decide +kernel
theorem dX5_first_242 : decode cX5_first 242 = .ok (.goto 9, 3) := by decide +kernel
theorem dX5_first_245 : decode cX5_first 245 = .ok (.aload_n 0, 1) := by decide +kernel
theorem dX5_first_246 : decode cX5_first 246 = .ok (.getfield 43, 3) := by decide +kernel
theorem dX5_first_249 : decode cX5_first 249 = .ok (.iload_n 3, 1) := by decide +kernel
theorem dX5_first_250 : decode cX5_first 250 = .ok (.iaload, 1) := by decide +kernel
theorem dX5_first_251 : decode cX5_first 251 = .ok (.istore 6, 2) := by decide +kernel
theorem dX5_first_253 : decode cX5_first 253 = .ok (.aload_n 0, 1) := by decide +kernel
theorem dX5_first_254 : decode cX5_first 254 = .ok (.getfield 79, 3) := by decide +kernel
theorem dX5_first_257 : decode cX5_first 257 = .ok (.iload_n 2, 1) := by decide +kernel
theorem dX5_first_258 : decode cX5_first 258 = .ok (.iconst 3, 1) := by decide +kernel
theorem dX5_first_259 : decode cX5_first 259 = .ok (.iastore, 1) := by decide +kernel
theorem dX5_first_260 : decode cX5_first 260 = .ok (.aload_n 0, 1) := by decide +kernel
theorem dX5_first_261 : decode cX5_first 261 = .ok (.iconst 0, 1) := by decide +kernel
theorem dX5_first_262 : decode cX5_first 262 = .ok (.iload 6, 2) := by decide +kernel
theorem dX5_first_264 : decode cX5_first 264 = .ok (.invokevirtual 144, 3) := by decide +kernel
theorem dX5_first_267 : decode cX5_first 267 = .ok (.goto 85, 3) := by decide +kernel
theorem dX5_first_270 : decode cX5_first 270 = .ok (.aload_n 0, 1) := by decide +kernel
theorem dX5_first_271 : decode cX5_first 271 = .ok (.iconst 1, 1) := by decide +kernel
theorem dX5_first_272 : decode cX5_first 272 = .ok (.invokevirtual 157, 3) := by decide +kernel
theorem dX5_first_275 : decode cX5_first 275 = .ok (.aload_n 0, 1) := by decide +kernel
theorem dX5_first_276 : decode cX5_first 276 = .ok (.iload_n 1, 1) := by decide +kernel
theorem dX5_first_277 : decode cX5_first 277 = .ok (.iload_n 3, 1) := by decide +kernel
theorem dX5_first_278 : decode cX5_first 278 = .ok (.invokevirtual 170, 3) := by decide +kernel
theorem dX5_first_281 : decode cX5_first 281 = .ok (.goto 71, 3) := by decide +kernel
theorem dX5_first_284 : decode cX5_first 284 = .ok (.aload_n 0, 1) := by decide +kernel
theorem dX5_first_285 : decode cX5_first 285 = .ok (.getfield 40, 3) := by decide +kernel
theorem dX5_first_288 : decode cX5_first 288 = .ok (.iload_n 3, 1) := by decide +kernel
theorem dX5_first_289 : decode cX5_first 289 = .ok (.iaload, 1) := by decide +kernel
theorem dX5_first_290 : decode cX5_first 290 = .ok (.iconst 0, 1) := by decide +kernel
theorem dX5_first_291 : decode cX5_first 291 = .ok (.aload_n 0, 1) := by decide +kernel
theorem dX5_first_292 : decode cX5_first 292 = .ok (.getfield 7, 3) := by decide +kernel
theorem dX5_first_295 : decode cX5_first 295 = .ok (.aload_n 0, 1) := by decide +kernel
theorem dX5_first_296 : decode cX5_first 296 = .ok (.getfield 31, 3) := by decide +kernel
theorem dX5_first_299 : decode cX5_first 299 = .ok (.iload_n 3, 1) := by decide +kernel
theorem dX5_first_300 : decode cX5_first 300 = .ok (.iaload, 1) := by decide +kernel
theorem dX5_first_301 : decode cX5_first 301 = .ok (.iaload, 1) := by decide +kernel
theorem dX5_first_302 : decode cX5_first 302 = .ok (.iconst 1, 1) := by decide +kernel
theorem dX5_first_303 : decode cX5_first 303 = .ok (.isub, 1) := by decide +kernel
theorem dX5_first_304 : decode cX5_first 304 = .ok (.invokestatic 98, 3) := by decide +kernel
theorem dX5_first_307 : decode cX5_first 307 = .ok (.ifCond .eq 24, 3) := by decide +kernel
theorem dX5_first_310 : decode cX5_first 310 = .ok (.aload_n 0, 1) := by decide +kernel
theorem dX5_first_311 : decode cX5_first 311 = .ok (.getfield 49, 3) := by decide +kernel
theorem dX5_first_314 : decode cX5_first 314 = .ok (.iload 5, 2) := by decide +kernel
theorem dX5_first_316 : decode cX5_first 316 = .ok (.aload_n 0, 1) := by decide +kernel
theorem dX5_first_317 : decode cX5_first 317 = .ok (.getfield 40, 3) := by decide +kernel
theorem dX5_first_320 : decode cX5_first 320 = .ok (.iload_n 3, 1) := by decide +kernel
theorem dX5_first_321 : decode cX5_first 321 = .ok (.iaload, 1) := by decide +kernel
theorem dX5_first_322 : decode cX5_first 322 = .ok (.iadd, 1) := by decide +kernel
theorem dX5_first_323 : decode cX5_first 323 = .ok (.aload_n 0, 1) := by decide +kernel
theorem dX5_first_324 : decode cX5_first 324 = .ok (.getfield 131, 3) := by decide +kernel
theorem dX5_first_327 : decode cX5_first 327 = .ok (.iastore, 1) := by decide +kernel
theorem dX5_first_328 : decode cX5_first 328 = .ok (.goto 9, 3) := by decide +kernel
theorem dX5_first_331 : decode cX5_first 331 = .ok (.aload_n 0, 1) := by decide +kernel
theorem dX5_first_332 : decode cX5_first 332 = .ok (.iconst 2, 1) := by decide +kernel
theorem dX5_first_333 : decode cX5_first 333 = .ok (.iconst 0, 1) := by decide +kernel
theorem dX5_first_334 : decode cX5_first 334 = .ok (.invokevirtual 141, 3) := by decide +kernel
theorem dX5_first_337 : decode cX5_first 337 = .ok (.aload_n 0, 1) := by decide +kernel
theorem dX5_first_338 : decode cX5_first 338 = .ok (.iload_n 1, 1) := by decide +kernel
theorem dX5_first_339 : decode cX5_first 339 = .ok (.iload_n 3, 1) := by decide +kernel
theorem dX5_first_340 : decode cX5_first 340 = .ok (.invokevirtual 170, 3) := by decide +kernel
theorem dX5_first_343 : decode cX5_first 343 = .ok (.goto 9, 3) := by decide +kernel
theorem dX5_first_346 : decode cX5_first 346 = .ok (.aload_n 0, 1) := by decide +kernel
theorem dX5_first_347 : decode cX5_first 347 = .ok (.iload_n 1, 1) := by decide +kernel
theorem dX5_first_348 : decode cX5_first 348 = .ok (.iload_n 3, 1) := by decide +kernel
theorem dX5_first_349 : decode cX5_first 349 = .ok (.invokevirtual 170, 3) := by decide +kernel
theorem dX5_first_352 : decode cX5_first 352 = .ok (.return_, 1) := by decide +kernel
theorem dX5_second_0 : decode cX5_second 0 = .ok (.aload_n 0, 1) := by decide +kernel
theorem dX5_second_1 : decode cX5_second 1 = .ok (.getfield 119, 3) := by decide +kernel
theorem dX5_second_4 : decode cX5_second 4 = .ok (.ifCond .ne 31, 3) := by decide +kernel
theorem dX5_second_7 : decode cX5_second 7 = .ok (.aload_n 0, 1) := by decide +kernel
theorem dX5_second_8 : decode cX5_second 8 = .ok (.getfield 34, 3) := by decide +kernel
theorem dX5_second_11 : decode cX5_second 11 = .ok (.iload_n 3, 1) := by decide +kernel
theorem dX5_second_12 : decode cX5_second 12 = .ok (.iaload, 1) := by decide +kernel
theorem dX5_second_13 : decode cX5_second 13 = .ok (.iconst 2, 1) := by decide +kernel
theorem dX5_second_14 : decode cX5_second 14 = .ok (.if_icmp .ne 21, 3) := by decide +kernel
theorem dX5_second_17 : decode cX5_second 17 = .ok (.aload_n 0, 1) := by decide +kernel
theorem dX5_second_18 : decode cX5_second 18 = .ok (.aload_n 0, 1) := by decide +kernel
theorem dX5_second_19 : decode cX5_second 19 = .ok (.getfield 82, 3) := by decide +kernel
theorem dX5_second_22 : decode cX5_second 22 = .ok (.iload_n 2, 1) := by decide +kernel
theorem dX5_second_23 : decode cX5_second 23 = .ok (.iaload, 1) := by decide +kernel
theorem dX5_second_24 : decode cX5_second 24 = .ok (.aload_n 0, 1) := by decide +kernel
theorem dX5_second_25 : decode cX5_second 25 = .ok (.getfield 131, 3) := by decide +kernel
theorem dX5_second_28 : decode cX5_second 28 = .ok (.imul, 1) := by decide +kernel
theorem dX5_second_29 : decode cX5_second 29 = .ok (.invokevirtual 157, 3) := by decide +kernel
theorem dX5_second_32 : decode cX5_second 32 = .ok (.goto 51, 3) := by decide +kernel
theorem dX5_second_35 : decode cX5_second 35 = .ok (.aload_n 0, 1) := by decide +kernel
theorem dX5_second_36 : decode cX5_second 36 = .ok (.getfield 119, 3) := by decide +kernel
theorem dX5_second_39 : decode cX5_second 39 = .ok (.ifCond .ne 44, 3) := by decide +kernel
theorem dX5_second_42 : decode cX5_second 42 = .ok (.aload_n 0, 1) := by decide +kernel
theorem dX5_second_43 : decode cX5_second 43 = .ok (.getfield 34, 3) := by decide +kernel
theorem dX5_second_46 : decode cX5_second 46 = .ok (.iload_n 3, 1) := by decide +kernel
theorem dX5_second_47 : decode cX5_second 47 = .ok (.iaload, 1) := by decide +kernel
theorem dX5_second_48 : decode cX5_second 48 = .ok (.iconst 3, 1) := by decide +kernel
theorem dX5_second_49 : decode cX5_second 49 = .ok (.if_icmp .ne 34, 3) := by decide +kernel
theorem dX5_second_52 : decode cX5_second 52 = .ok (.aload_n 0, 1) := by decide +kernel
theorem dX5_second_53 : decode cX5_second 53 = .ok (.getfield 131, 3) := by decide +kernel
theorem dX5_second_56 : decode cX5_second 56 = .ok (.ifCond .ne 12, 3) := by decide +kernel
theorem dX5_second_59 : decode cX5_second 59 = .ok (.aload_n 0, 1) := by decide +kernel
theorem dX5_second_60 : decode cX5_second 60 = .ok (.iconst 1, 1) := by decide +kernel
theorem dX5_second_61 : decode cX5_second 61 = .ok (.iconst 0, 1) := by decide +kernel
theorem dX5_second_62 : decode cX5_second 62 = .ok (.invokevirtual 141, 3) := by decide +kernel
theorem dX5_second_65 : decode cX5_second 65 = .ok (.goto 18, 3) := by decide +kernel
theorem dX5_second_68 : decode cX5_second 68 = .ok (.aload_n 0, 1) := by decide +kernel
theorem dX5_second_69 : decode cX5_second 69 = .ok (.aload_n 0, 1) := by decide +kernel
theorem dX5_second_70 : decode cX5_second 70 = .ok (.getfield 82, 3) := by decide +kernel
theorem dX5_second_73 : decode cX5_second 73 = .ok (.iload_n 2, 1) := by decide +kernel
theorem dX5_second_74 : decode cX5_second 74 = .ok (.iaload, 1) := by decide +kernel
theorem dX5_second_75 : decode cX5_second 75 = .ok (.aload_n 0, 1) := by decide +kernel
theorem dX5_second_76 : decode cX5_second 76 = .ok (.getfield 131, 3) := by decide +kernel
theorem dX5_second_79 : decode cX5_second 79 = .ok (.idiv, 1) := by decide +kernel
theorem dX5_second_80 : decode cX5_second 80 = .ok (.invokevirtual 157, 3) := by decide +kernel
theorem dX5_second_83 : decode cX5_second 83 = .ok (.aload_n 0, 1) := by decide +kernel
theorem dX5_second_84 : decode cX5_second 84 = .ok (.iload_n 1, 1) := by decide +kernel
theorem dX5_second_85 : decode cX5_second 85 = .ok (.iload_n 3, 1) := by decide +kernel
theorem dX5_second_86 : decode cX5_second 86 = .ok (.invokevirtual 170, 3) := by decide +kernel
theorem dX5_second_89 : decode cX5_second 89 = .ok (.return_, 1) := by decide +kernel
theorem dX5_starts_0 : decode cX5_starts 0 = .ok (.aload_n 0, 1) := by decide +kernel
theorem dX5_starts_1 : decode cX5_starts 1 = .ok (.getfield 76, 3) := by decide +kernel
theorem dX5_starts_4 : decode cX5_starts 4 = .ok (.iload_n 2, 1) := by decide +kernel
theorem dX5_starts_5 : decode cX5_starts 5 = .ok (.iaload, 1) := by decide +kernel
theorem dX5_starts_6 : decode cX5_starts 6 = .ok (.istore_n 3, 1) := by decide +kernel
theorem dX5_starts_7 : decode cX5_starts 7 = .ok (.bipush 12, 2) := by decide +kernel
theorem dX5_starts_9 : decode cX5_starts 9 = .ok (.iload_n 1, 1) := by decide +kernel
theorem dX5_starts_10 : decode cX5_starts 10 = .ok (.imul, 1) := by decide +kernel
theorem dX5_starts_11 : decode cX5_starts 11 = .ok (.iload_n 3, 1) := by decide +kernel
theorem dX5_starts_12 : decode cX5_starts 12 = .ok (.iadd, 1) := by decide +kernel
theorem dX5_starts_13 : decode cX5_starts 13 = .ok (.istore 4, 2) := by decide +kernel
theorem dX5_starts_15 : decode cX5_starts 15 = .ok (.aload_n 0, 1) := by decide +kernel
theorem dX5_starts_16 : decode cX5_starts 16 = .ok (.getfield 79, 3) := by decide +kernel
theorem dX5_starts_19 : decode cX5_starts 19 = .ok (.iload_n 2, 1) := by decide +kernel
theorem dX5_starts_20 : decode cX5_starts 20 = .ok (.iaload, 1) := by decide +kernel
theorem dX5_starts_21 : decode cX5_starts 21 = .ok (.ifCond .ne 131, 3) := by decide +kernel
theorem dX5_starts_24 : decode cX5_starts 24 = .ok (.aload_n 0, 1) := by decide +kernel
theorem dX5_starts_25 : decode cX5_starts 25 = .ok (.getfield 46, 3) := by decide +kernel
theorem dX5_starts_28 : decode cX5_starts 28 = .ok (.iload 4, 2) := by decide +kernel
theorem dX5_starts_30 : decode cX5_starts 30 = .ok (.iaload, 1) := by decide +kernel
theorem dX5_starts_31 : decode cX5_starts 31 = .ok (.iconst 3, 1) := by decide +kernel
theorem dX5_starts_32 : decode cX5_starts 32 = .ok (.if_icmp .ne 23, 3) := by decide +kernel
theorem dX5_starts_35 : decode cX5_starts 35 = .ok (.aload_n 0, 1) := by decide +kernel
theorem dX5_starts_36 : decode cX5_starts 36 = .ok (.bipush 6, 2) := by decide +kernel
theorem dX5_starts_38 : decode cX5_starts 38 = .ok (.iload_n 3, 1) := by decide +kernel
theorem dX5_starts_39 : decode cX5_starts 39 = .ok (.invokevirtual 141, 3) := by decide +kernel
theorem dX5_starts_42 : decode cX5_starts 42 = .ok (.aload_n 0, 1) := by decide +kernel
theorem dX5_starts_43 : decode cX5_starts 43 = .ok (.dup, 1) := by decide +kernel
theorem dX5_starts_44 : decode cX5_starts 44 = .ok (.getfield 109, 3) := by decide +kernel
theorem dX5_starts_47 : decode cX5_starts 47 = .ok (.iconst 1, 1) := by decide +kernel
theorem dX5_starts_48 : decode cX5_starts 48 = .ok (.isub, 1) := by decide +kernel
theorem dX5_starts_49 : decode cX5_starts 49 = .ok (.putfield 109, 3) := by decide +kernel
theorem dX5_starts_52 : decode cX5_starts 52 = .ok (.goto 232, 3) := by decide +kernel
theorem dX5_starts_55 : decode cX5_starts 55 = .ok (.aload_n 0, 1) := by decide +kernel
theorem dX5_starts_56 : decode cX5_starts 56 = .ok (.getfield 46, 3) := by decide +kernel
theorem dX5_starts_59 : decode cX5_starts 59 = .ok (.iload 4, 2) := by decide +kernel
theorem dX5_starts_61 : decode cX5_starts 61 = .ok (.iaload, 1) := by decide +kernel
theorem dX5_starts_62 : decode cX5_starts 62 = .ok (.ifCond .eq 21, 3) := by decide +kernel
theorem dX5_starts_65 : decode cX5_starts 65 = .ok (.aload_n 0, 1) := by decide +kernel
theorem dX5_starts_66 : decode cX5_starts 66 = .ok (.iconst 0, 1) := by decide +kernel
theorem dX5_starts_67 : decode cX5_starts 67 = .ok (.invokevirtual 157, 3) := by decide +kernel
theorem dX5_starts_70 : decode cX5_starts 70 = .ok (.aload_n 0, 1) := by decide +kernel
theorem dX5_starts_71 : decode cX5_starts 71 = .ok (.dup, 1) := by decide +kernel
theorem dX5_starts_72 : decode cX5_starts 72 = .ok (.getfield 109, 3) := by decide +kernel
theorem dX5_starts_75 : decode cX5_starts 75 = .ok (.iconst 1, 1) := by decide +kernel
theorem dX5_starts_76 : decode cX5_starts 76 = .ok (.isub, 1) := by decide +kernel
theorem dX5_starts_77 : decode cX5_starts 77 = .ok (.putfield 109, 3) := by decide +kernel
theorem dX5_starts_80 : decode cX5_starts 80 = .ok (.goto 204, 3) := by decide +kernel
theorem dX5_starts_83 : decode cX5_starts 83 = .ok (.aload_n 0, 1) := by decide +kernel
theorem dX5_starts_84 : decode cX5_starts 84 = .ok (.getfield 46, 3) := by decide +kernel
theorem dX5_starts_87 : decode cX5_starts 87 = .ok (.iload 4, 2) := by decide +kernel
theorem dX5_starts_89 : decode cX5_starts 89 = .ok (.iconst 2, 1) := by decide +kernel
theorem dX5_starts_90 : decode cX5_starts 90 = .ok (.iastore, 1) := by decide +kernel
theorem dX5_starts_91 : decode cX5_starts 91 = .ok (.iconst 0, 1) := by decide +kernel
theorem dX5_starts_92 : decode cX5_starts 92 = .ok (.istore 5, 2) := by decide +kernel
theorem dX5_starts_94 : decode cX5_starts 94 = .ok (.iload 5, 2) := by decide +kernel
theorem dX5_starts_96 : decode cX5_starts 96 = .ok (.bipush 8, 2) := by decide +kernel
theorem dX5_starts_98 : decode cX5_starts 98 = .ok (.if_icmp .ge 38, 3) := by decide +kernel
theorem dX5_starts_101 : decode cX5_starts 101 = .ok (.aload_n 0, 1) := by decide +kernel
theorem dX5_starts_102 : decode cX5_starts 102 = .ok (.getfield 49, 3) := by decide +kernel
theorem dX5_starts_105 : decode cX5_starts 105 = .ok (.bipush 96, 2) := by decide +kernel
theorem dX5_starts_107 : decode cX5_starts 107 = .ok (.iload_n 1, 1) := by decide +kernel
theorem dX5_starts_108 : decode cX5_starts 108 = .ok (.imul, 1) := by decide +kernel
theorem dX5_starts_109 : decode cX5_starts 109 = .ok (.bipush 8, 2) := by decide +kernel
theorem dX5_starts_111 : decode cX5_starts 111 = .ok (.iload_n 3, 1) := by decide +kernel
theorem dX5_starts_112 : decode cX5_starts 112 = .ok (.imul, 1) := by decide +kernel
theorem dX5_starts_113 : decode cX5_starts 113 = .ok (.iadd, 1) := by decide +kernel
theorem dX5_starts_114 : decode cX5_starts 114 = .ok (.iload 5, 2) := by decide +kernel
theorem dX5_starts_116 : decode cX5_starts 116 = .ok (.iadd, 1) := by decide +kernel
theorem dX5_starts_117 : decode cX5_starts 117 = .ok (.aload_n 0, 1) := by decide +kernel
theorem dX5_starts_118 : decode cX5_starts 118 = .ok (.getfield 13, 3) := by decide +kernel
theorem dX5_starts_121 : decode cX5_starts 121 = .ok (.bipush 8, 2) := by decide +kernel
theorem dX5_starts_123 : decode cX5_starts 123 = .ok (.iload_n 3, 1) := by decide +kernel
theorem dX5_starts_124 : decode cX5_starts 124 = .ok (.imul, 1) := by decide +kernel
theorem dX5_starts_125 : decode cX5_starts 125 = .ok (.iload 5, 2) := by decide +kernel
theorem dX5_starts_127 : decode cX5_starts 127 = .ok (.iadd, 1) := by decide +kernel
theorem dX5_starts_128 : decode cX5_starts 128 = .ok (.iaload, 1) := by decide +kernel
theorem dX5_starts_129 : decode cX5_starts 129 = .ok (.iastore, 1) := by decide +kernel
theorem dX5_starts_130 : decode cX5_starts 130 = .ok (.iinc 5 1, 3) := by decide +kernel
theorem dX5_starts_133 : decode cX5_starts 133 = .ok (.goto (-39), 3) := by decide +kernel
theorem dX5_starts_136 : decode cX5_starts 136 = .ok (.aload_n 0, 1) := by decide +kernel
theorem dX5_starts_137 : decode cX5_starts 137 = .ok (.iconst 0, 1) := by decide +kernel
theorem dX5_starts_138 : decode cX5_starts 138 = .ok (.iload_n 3, 1) := by decide +kernel
theorem dX5_starts_139 : decode cX5_starts 139 = .ok (.invokevirtual 161, 3) := by decide +kernel
theorem dX5_starts_142 : decode cX5_starts 142 = .ok (.aload_n 0, 1) := by decide +kernel
theorem dX5_starts_143 : decode cX5_starts 143 = .ok (.getfield 79, 3) := by decide +kernel
theorem dX5_starts_146 : decode cX5_starts 146 = .ok (.iload_n 2, 1) := by decide +kernel
theorem dX5_starts_147 : decode cX5_starts 147 = .ok (.iconst 1, 1) := by decide +kernel
theorem dX5_starts_148 : decode cX5_starts 148 = .ok (.iastore, 1) := by decide +kernel
theorem dX5_starts_149 : decode cX5_starts 149 = .ok (.goto 135, 3) := by decide +kernel
theorem dX5_starts_152 : decode cX5_starts 152 = .ok (.aload_n 0, 1) := by decide +kernel
theorem dX5_starts_153 : decode cX5_starts 153 = .ok (.getfield 79, 3) := by decide +kernel
theorem dX5_starts_156 : decode cX5_starts 156 = .ok (.iload_n 2, 1) := by decide +kernel
theorem dX5_starts_157 : decode cX5_starts 157 = .ok (.iaload, 1) := by decide +kernel
theorem dX5_starts_158 : decode cX5_starts 158 = .ok (.iconst 2, 1) := by decide +kernel
theorem dX5_starts_159 : decode cX5_starts 159 = .ok (.irem, 1) := by decide +kernel
theorem dX5_starts_160 : decode cX5_starts 160 = .ok (.ifCond .ne 43, 3) := by decide +kernel
theorem dX5_starts_163 : decode cX5_starts 163 = .ok (.aload_n 0, 1) := by decide +kernel
theorem dX5_starts_164 : decode cX5_starts 164 = .ok (.getfield 119, 3) := by decide +kernel
theorem dX5_starts_167 : decode cX5_starts 167 = .ok (.ifCond .le 13, 3) := by decide +kernel
theorem dX5_starts_170 : decode cX5_starts 170 = .ok (.aload_n 0, 1) := by decide +kernel
theorem dX5_starts_171 : decode cX5_starts 171 = .ok (.iload 4, 2) := by decide +kernel
theorem dX5_starts_173 : decode cX5_starts 173 = .ok (.iload_n 3, 1) := by decide +kernel
theorem dX5_starts_174 : decode cX5_starts 174 = .ok (.invokevirtual 173, 3) := by decide +kernel
theorem dX5_starts_177 : decode cX5_starts 177 = .ok (.goto 107, 3) := by decide +kernel
theorem dX5_starts_180 : decode cX5_starts 180 = .ok (.aload_n 0, 1) := by decide +kernel
theorem dX5_starts_181 : decode cX5_starts 181 = .ok (.getfield 82, 3) := by decide +kernel
theorem dX5_starts_184 : decode cX5_starts 184 = .ok (.iload_n 2, 1) := by decide +kernel
theorem dX5_starts_185 : decode cX5_starts 185 = .ok (.dup2, 1) := by decide +kernel
theorem dX5_starts_186 : decode cX5_starts 186 = .ok (.iaload, 1) := by decide +kernel
theorem dX5_starts_187 : decode cX5_starts 187 = .ok (.iconst 1, 1) := by decide +kernel
theorem dX5_starts_188 : decode cX5_starts 188 = .ok (.iadd, 1) := by decide +kernel
theorem dX5_starts_189 : decode cX5_starts 189 = .ok (.iastore, 1) := by decide +kernel
theorem dX5_starts_190 : decode cX5_starts 190 = .ok (.aload_n 0, 1) := by decide +kernel
theorem dX5_starts_191 : decode cX5_starts 191 = .ok (.getfield 79, 3) := by decide +kernel
theorem dX5_starts_194 : decode cX5_starts 194 = .ok (.iload_n 2, 1) := by decide +kernel
theorem dX5_starts_195 : decode cX5_starts 195 = .ok (.dup2, 1) := by decide +kernel
theorem dX5_starts_196 : decode cX5_starts 196 = .ok (.iaload, 1) := by decide +kernel
theorem dX5_starts_197 : decode cX5_starts 197 = .ok (.iconst 1, 1) := by decide +kernel
theorem dX5_starts_198 : decode cX5_starts 198 = .ok (.isub, 1) := by decide +kernel
theorem dX5_starts_199 : decode cX5_starts 199 = .ok (.iastore, 1) := by decide +kernel
theorem dX5_starts_200 : decode cX5_starts 200 = .ok (.goto 84, 3) := by decide +kernel
theorem dX5_starts_203 : decode cX5_starts 203 = .ok (.aload_n 0, 1) := by decide +kernel
theorem dX5_starts_204 : decode cX5_starts 204 = .ok (.getfield 79, 3) := by decide +kernel
theorem dX5_starts_207 : decode cX5_starts 207 = .ok (.iload_n 2, 1) := by decide +kernel
theorem dX5_starts_208 : decode cX5_starts 208 = .ok (.iaload, 1) := by decide +kernel
theorem dX5_starts_209 : decode cX5_starts 209 = .ok (.iconst 1, 1) := by decide +kernel
theorem dX5_starts_210 : decode cX5_starts 210 = .ok (.if_icmp .ne 66, 3) := by decide +kernel
theorem dX5_starts_213 : decode cX5_starts 213 = .ok (.aload_n 0, 1) := by decide +kernel
theorem dX5_starts_214 : decode cX5_starts 214 = .ok (.getfield 82, 3) := by decide +kernel
theorem dX5_starts_217 : decode cX5_starts 217 = .ok (.iload_n 2, 1) := by decide +kernel
theorem dX5_starts_218 : decode cX5_starts 218 = .ok (.iaload, 1) := by decide +kernel
theorem dX5_starts_219 : decode cX5_starts 219 = .ok (.aload_n 0, 1) := by decide +kernel
theorem dX5_starts_220 : decode cX5_starts 220 = .ok (.getfield 16, 3) := by decide +kernel
theorem dX5_starts_223 : decode cX5_starts 223 = .ok (.iload_n 3, 1) := by decide +kernel
theorem dX5_starts_224 : decode cX5_starts 224 = .ok (.iaload, 1) := by decide +kernel
theorem dX5_starts_225 : decode cX5_starts 225 = .ok (.if_icmp .ge 34, 3) := by decide +kernel
theorem dX5_starts_228 : decode cX5_starts 228 = .ok (.aload_n 0, 1) := by decide +kernel
theorem dX5_starts_229 : decode cX5_starts 229 = .ok (.getfield 79, 3) := by decide +kernel
theorem dX5_starts_232 : decode cX5_starts 232 = .ok (.iload_n 2, 1) := by decide +kernel
theorem dX5_starts_233 : decode cX5_starts 233 = .ok (.iconst 2, 1) := by decide +kernel
theorem dX5_starts_234 : decode cX5_starts 234 = .ok (.iastore, 1) := by decide +kernel
theorem dX5_starts_235 : decode cX5_starts 235 = .ok (.aload_n 0, 1) := by decide +kernel
theorem dX5_starts_236 : decode cX5_starts 236 = .ok (.iconst 1, 1) := by decide +kernel
theorem dX5_starts_237 : decode cX5_starts 237 = .ok (.aload_n 0, 1) := by decide +kernel
theorem dX5_starts_238 : decode cX5_starts 238 = .ok (.getfield 19, 3) := by decide +kernel
theorem dX5_starts_241 : decode cX5_starts 241 = .ok (.bipush 6, 2) := by decide +kernel
theorem dX5_starts_243 : decode cX5_starts 243 = .ok (.iload_n 3, 1) := by decide +kernel
theorem dX5_starts_244 : decode cX5_starts 244 = .ok (.imul, 1) := by decide +kernel
theorem dX5_starts_245 : decode cX5_starts 245 = .ok (.aload_n 0, 1) := by decide +kernel
theorem dX5_starts_246 : decode cX5_starts 246 = .ok (.getfield 82, 3) := by decide +kernel
theorem dX5_starts_249 : decode cX5_starts 249 = .ok (.iload_n 2, 1) := by decide +kernel
theorem dX5_starts_250 : decode cX5_starts 250 = .ok (.iaload, 1) := by decide +kernel
theorem dX5_starts_251 : decode cX5_starts 251 = .ok (.iadd, 1) := by decide +kernel
theorem dX5_starts_252 : decode cX5_starts 252 = .ok (.iaload, 1) := by decide +kernel
theorem dX5_starts_253 : decode cX5_starts 253 = .ok (.invokevirtual 144, 3) := by decide +kernel
theorem dX5_starts_256 : decode cX5_starts 256 = .ok (.goto 28, 3) := by decide +kernel
theorem dX5_starts_259 : decode cX5_starts 259 = .ok (.aload_n 0, 1) := by decide +kernel
theorem dX5_starts_260 : decode cX5_starts 260 = .ok (.getfield 82, 3) := by decide +kernel
theorem dX5_starts_263 : decode cX5_starts 263 = .ok (.iload_n 2, 1) := by decide +kernel
theorem dX5_starts_264 : decode cX5_starts 264 = .ok (.iconst 0, 1) := by decide +kernel
theorem dX5_starts_265 : decode cX5_starts 265 = .ok (.iastore, 1) := by decide +kernel
theorem dX5_starts_266 : decode cX5_starts 266 = .ok (.aload_n 0, 1) := by decide +kernel
theorem dX5_starts_267 : decode cX5_starts 267 = .ok (.getfield 79, 3) := by decide +kernel
theorem dX5_starts_270 : decode cX5_starts 270 = .ok (.iload_n 2, 1) := by decide +kernel
theorem dX5_starts_271 : decode cX5_starts 271 = .ok (.iconst 3, 1) := by decide +kernel
theorem dX5_starts_272 : decode cX5_starts 272 = .ok (.iastore, 1) := by decide +kernel
theorem dX5_starts_273 : decode cX5_starts 273 = .ok (.goto 11, 3) := by decide +kernel
theorem dX5_starts_276 : decode cX5_starts 276 = .ok (.aload_n 0, 1) := by decide +kernel
theorem dX5_starts_277 : decode cX5_starts 277 = .ok (.iload_n 2, 1) := by decide +kernel
theorem dX5_starts_278 : decode cX5_starts 278 = .ok (.iload_n 3, 1) := by decide +kernel
theorem dX5_starts_279 : decode cX5_starts 279 = .ok (.iload 4, 2) := by decide +kernel
theorem dX5_starts_281 : decode cX5_starts 281 = .ok (.invokevirtual 176, 3) := by decide +kernel
theorem dX5_starts_284 : decode cX5_starts 284 = .ok (.return_, 1) := by decide +kernel
theorem dX5_deeds_0 : decode cX5_deeds 0 = .ok (.bipush 6, 2) := by decide +kernel
theorem dX5_deeds_2 : decode cX5_deeds 2 = .ok (.iload_n 2, 1) := by decide +kernel
theorem dX5_deeds_3 : decode cX5_deeds 3 = .ok (.imul, 1) := by decide +kernel
theorem dX5_deeds_4 : decode cX5_deeds 4 = .ok (.aload_n 0, 1) := by decide +kernel
theorem dX5_deeds_5 : decode cX5_deeds 5 = .ok (.getfield 82, 3) := by decide +kernel
theorem dX5_deeds_8 : decode cX5_deeds 8 = .ok (.iload_n 1, 1) := by decide +kernel
theorem dX5_deeds_9 : decode cX5_deeds 9 = .ok (.iaload, 1) := by decide +kernel
theorem dX5_deeds_10 : decode cX5_deeds 10 = .ok (.iadd, 1) := by decide +kernel
theorem dX5_deeds_11 : decode cX5_deeds 11 = .ok (.istore 4, 2) := by decide +kernel
theorem dX5_deeds_13 : decode cX5_deeds 13 = .ok (.aload_n 0, 1) := by decide +kernel
theorem dX5_deeds_14 : decode cX5_deeds 14 = .ok (.getfield 82, 3) := by decide +kernel
theorem dX5_deeds_17 : decode cX5_deeds 17 = .ok (.iload_n 1, 1) := by decide +kernel
theorem dX5_deeds_18 : decode cX5_deeds 18 = .ok (.iaload, 1) := by decide +kernel
theorem dX5_deeds_19 : decode cX5_deeds 19 = .ok (.aload_n 0, 1) := by decide +kernel
theorem dX5_deeds_20 : decode cX5_deeds 20 = .ok (.getfield 22, 3) := by decide +kernel
theorem dX5_deeds_23 : decode cX5_deeds 23 = .ok (.iload_n 2, 1) := by decide +kernel
theorem dX5_deeds_24 : decode cX5_deeds 24 = .ok (.iaload, 1) := by decide +kernel
theorem dX5_deeds_25 : decode cX5_deeds 25 = .ok (.if_icmp .ne 34, 3) := by decide +kernel
theorem dX5_deeds_28 : decode cX5_deeds 28 = .ok (.aload_n 0, 1) := by decide +kernel
theorem dX5_deeds_29 : decode cX5_deeds 29 = .ok (.getfield 46, 3) := by decide +kernel
theorem dX5_deeds_32 : decode cX5_deeds 32 = .ok (.iload_n 3, 1) := by decide +kernel
theorem dX5_deeds_33 : decode cX5_deeds 33 = .ok (.iconst 1, 1) := by decide +kernel
theorem dX5_deeds_34 : decode cX5_deeds 34 = .ok (.iastore, 1) := by decide +kernel
theorem dX5_deeds_35 : decode cX5_deeds 35 = .ok (.aload_n 0, 1) := by decide +kernel
theorem dX5_deeds_36 : decode cX5_deeds 36 = .ok (.iconst 1, 1) := by decide +kernel
theorem dX5_deeds_37 : decode cX5_deeds 37 = .ok (.iload_n 2, 1) := by decide +kernel
theorem dX5_deeds_38 : decode cX5_deeds 38 = .ok (.invokevirtual 161, 3) := by decide +kernel
theorem dX5_deeds_41 : decode cX5_deeds 41 = .ok (.aload_n 0, 1) := by decide +kernel
theorem dX5_deeds_42 : decode cX5_deeds 42 = .ok (.iconst 0, 1) := by decide +kernel
theorem dX5_deeds_43 : decode cX5_deeds 43 = .ok (.invokevirtual 157, 3) := by decide +kernel
theorem dX5_deeds_46 : decode cX5_deeds 46 = .ok (.aload_n 0, 1) := by decide +kernel
theorem dX5_deeds_47 : decode cX5_deeds 47 = .ok (.dup, 1) := by decide +kernel
theorem dX5_deeds_48 : decode cX5_deeds 48 = .ok (.getfield 109, 3) := by decide +kernel
theorem dX5_deeds_51 : decode cX5_deeds 51 = .ok (.iconst 1, 1) := by decide +kernel
theorem dX5_deeds_52 : decode cX5_deeds 52 = .ok (.isub, 1) := by decide +kernel
theorem dX5_deeds_53 : decode cX5_deeds 53 = .ok (.putfield 109, 3) := by decide +kernel
theorem dX5_deeds_56 : decode cX5_deeds 56 = .ok (.goto 61, 3) := by decide +kernel
theorem dX5_deeds_59 : decode cX5_deeds 59 = .ok (.aload_n 0, 1) := by decide +kernel
theorem dX5_deeds_60 : decode cX5_deeds 60 = .ok (.getfield 25, 3) := by decide +kernel
theorem dX5_deeds_63 : decode cX5_deeds 63 = .ok (.iload 4, 2) := by decide +kernel
theorem dX5_deeds_65 : decode cX5_deeds 65 = .ok (.iaload, 1) := by decide +kernel
theorem dX5_deeds_66 : decode cX5_deeds 66 = .ok (.iconst 2, 1) := by decide +kernel
theorem dX5_deeds_67 : decode cX5_deeds 67 = .ok (.if_icmp .ne 25, 3) := by decide +kernel
theorem dX5_deeds_70 : decode cX5_deeds 70 = .ok (.aload_n 0, 1) := by decide +kernel
theorem dX5_deeds_71 : decode cX5_deeds 71 = .ok (.bipush 7, 2) := by decide +kernel
theorem dX5_deeds_73 : decode cX5_deeds 73 = .ok (.aload_n 0, 1) := by decide +kernel
theorem dX5_deeds_74 : decode cX5_deeds 74 = .ok (.getfield 28, 3) := by decide +kernel
theorem dX5_deeds_77 : decode cX5_deeds 77 = .ok (.iload 4, 2) := by decide +kernel
theorem dX5_deeds_79 : decode cX5_deeds 79 = .ok (.iaload, 1) := by decide +kernel
theorem dX5_deeds_80 : decode cX5_deeds 80 = .ok (.invokevirtual 141, 3) := by decide +kernel
theorem dX5_deeds_83 : decode cX5_deeds 83 = .ok (.aload_n 0, 1) := by decide +kernel
theorem dX5_deeds_84 : decode cX5_deeds 84 = .ok (.iload_n 3, 1) := by decide +kernel
theorem dX5_deeds_85 : decode cX5_deeds 85 = .ok (.iload_n 2, 1) := by decide +kernel
theorem dX5_deeds_86 : decode cX5_deeds 86 = .ok (.invokevirtual 173, 3) := by decide +kernel
theorem dX5_deeds_89 : decode cX5_deeds 89 = .ok (.goto 28, 3) := by decide +kernel
theorem dX5_deeds_92 : decode cX5_deeds 92 = .ok (.aload_n 0, 1) := by decide +kernel
theorem dX5_deeds_93 : decode cX5_deeds 93 = .ok (.getfield 79, 3) := by decide +kernel
theorem dX5_deeds_96 : decode cX5_deeds 96 = .ok (.iload_n 1, 1) := by decide +kernel
theorem dX5_deeds_97 : decode cX5_deeds 97 = .ok (.iconst 4, 1) := by decide +kernel
theorem dX5_deeds_98 : decode cX5_deeds 98 = .ok (.iastore, 1) := by decide +kernel
theorem dX5_deeds_99 : decode cX5_deeds 99 = .ok (.aload_n 0, 1) := by decide +kernel
theorem dX5_deeds_100 : decode cX5_deeds 100 = .ok (.aload_n 0, 1) := by decide +kernel
theorem dX5_deeds_101 : decode cX5_deeds 101 = .ok (.getfield 25, 3) := by decide +kernel
theorem dX5_deeds_104 : decode cX5_deeds 104 = .ok (.iload 4, 2) := by decide +kernel
theorem dX5_deeds_106 : decode cX5_deeds 106 = .ok (.iaload, 1) := by decide +kernel
theorem dX5_deeds_107 : decode cX5_deeds 107 = .ok (.aload_n 0, 1) := by decide +kernel
theorem dX5_deeds_108 : decode cX5_deeds 108 = .ok (.getfield 28, 3) := by decide +kernel
theorem dX5_deeds_111 : decode cX5_deeds 111 = .ok (.iload 4, 2) := by decide +kernel
theorem dX5_deeds_113 : decode cX5_deeds 113 = .ok (.iaload, 1) := by decide +kernel
theorem dX5_deeds_114 : decode cX5_deeds 114 = .ok (.invokevirtual 144, 3) := by decide +kernel
theorem dX5_deeds_117 : decode cX5_deeds 117 = .ok (.return_, 1) := by decide +kernel
theorem dX5_breaks_0 : decode cX5_breaks 0 = .ok (.aload_n 0, 1) := by decide +kernel
theorem dX5_breaks_1 : decode cX5_breaks 1 = .ok (.getfield 46, 3) := by decide +kernel
theorem dX5_breaks_4 : decode cX5_breaks 4 = .ok (.iload_n 1, 1) := by decide +kernel
theorem dX5_breaks_5 : decode cX5_breaks 5 = .ok (.iconst 3, 1) := by decide +kernel
theorem dX5_breaks_6 : decode cX5_breaks 6 = .ok (.iastore, 1) := by decide +kernel
theorem dX5_breaks_7 : decode cX5_breaks 7 = .ok (.aload_n 0, 1) := by decide +kernel
theorem dX5_breaks_8 : decode cX5_breaks 8 = .ok (.iconst 2, 1) := by decide +kernel
theorem dX5_breaks_9 : decode cX5_breaks 9 = .ok (.iload_n 2, 1) := by decide +kernel
theorem dX5_breaks_10 : decode cX5_breaks 10 = .ok (.invokevirtual 161, 3) := by decide +kernel
theorem dX5_breaks_13 : decode cX5_breaks 13 = .ok (.aload_n 0, 1) := by decide +kernel
theorem dX5_breaks_14 : decode cX5_breaks 14 = .ok (.iconst 5, 1) := by decide +kernel
theorem dX5_breaks_15 : decode cX5_breaks 15 = .ok (.putfield 119, 3) := by decide +kernel
theorem dX5_breaks_18 : decode cX5_breaks 18 = .ok (.aload_n 0, 1) := by decide +kernel
theorem dX5_breaks_19 : decode cX5_breaks 19 = .ok (.iload_n 2, 1) := by decide +kernel
theorem dX5_breaks_20 : decode cX5_breaks 20 = .ok (.putfield 122, 3) := by decide +kernel
theorem dX5_breaks_23 : decode cX5_breaks 23 = .ok (.aload_n 0, 1) := by decide +kernel
theorem dX5_breaks_24 : decode cX5_breaks 24 = .ok (.dup, 1) := by decide +kernel
theorem dX5_breaks_25 : decode cX5_breaks 25 = .ok (.getfield 109, 3) := by decide +kernel
theorem dX5_breaks_28 : decode cX5_breaks 28 = .ok (.iconst 1, 1) := by decide +kernel
theorem dX5_breaks_29 : decode cX5_breaks 29 = .ok (.isub, 1) := by decide +kernel
theorem dX5_breaks_30 : decode cX5_breaks 30 = .ok (.putfield 109, 3) := by decide +kernel
theorem dX5_breaks_33 : decode cX5_breaks 33 = .ok (.return_, 1) := by decide +kernel
theorem dX5_answers_0 : decode cX5_answers 0 = .ok (.aload_n 0, 1) := by decide +kernel
theorem dX5_answers_1 : decode cX5_answers 1 = .ok (.getfield 70, 3) := by decide +kernel
theorem dX5_answers_4 : decode cX5_answers 4 = .ok (.iconst 0, 1) := by decide +kernel
theorem dX5_answers_5 : decode cX5_answers 5 = .ok (.aload_n 0, 1) := by decide +kernel
theorem dX5_answers_6 : decode cX5_answers 6 = .ok (.getfield 119, 3) := by decide +kernel
theorem dX5_answers_9 : decode cX5_answers 9 = .ok (.iastore, 1) := by decide +kernel
theorem dX5_answers_10 : decode cX5_answers 10 = .ok (.aload_n 0, 1) := by decide +kernel
theorem dX5_answers_11 : decode cX5_answers 11 = .ok (.getfield 70, 3) := by decide +kernel
theorem dX5_answers_14 : decode cX5_answers 14 = .ok (.iconst 1, 1) := by decide +kernel
theorem dX5_answers_15 : decode cX5_answers 15 = .ok (.aload_n 0, 1) := by decide +kernel
theorem dX5_answers_16 : decode cX5_answers 16 = .ok (.getfield 119, 3) := by decide +kernel
theorem dX5_answers_19 : decode cX5_answers 19 = .ok (.ifCond .le 10, 3) := by decide +kernel
theorem dX5_answers_22 : decode cX5_answers 22 = .ok (.aload_n 0, 1) := by decide +kernel
theorem dX5_answers_23 : decode cX5_answers 23 = .ok (.getfield 122, 3) := by decide +kernel
theorem dX5_answers_26 : decode cX5_answers 26 = .ok (.goto 4, 3) := by decide +kernel
theorem dX5_answers_29 : decode cX5_answers 29 = .ok (.iconst 0, 1) := by decide +kernel
theorem dX5_answers_30 : decode cX5_answers 30 = .ok (.iastore, 1) := by decide +kernel
theorem dX5_answers_31 : decode cX5_answers 31 = .ok (.aload_n 0, 1) := by decide +kernel
theorem dX5_answers_32 : decode cX5_answers 32 = .ok (.getfield 70, 3) := by decide +kernel
theorem dX5_answers_35 : decode cX5_answers 35 = .ok (.iconst 2, 1) := by decide +kernel
theorem dX5_answers_36 : decode cX5_answers 36 = .ok (.aload_n 0, 1) := by decide +kernel
theorem dX5_answers_37 : decode cX5_answers 37 = .ok (.getfield 119, 3) := by decide +kernel
theorem dX5_answers_40 : decode cX5_answers 40 = .ok (.ifCond .le 10, 3) := by decide +kernel
theorem dX5_answers_43 : decode cX5_answers 43 = .ok (.aload_n 0, 1) := by decide +kernel
theorem dX5_answers_44 : decode cX5_answers 44 = .ok (.getfield 125, 3) := by decide +kernel
theorem dX5_answers_47 : decode cX5_answers 47 = .ok (.goto 4, 3) := by decide +kernel
theorem dX5_answers_50 : decode cX5_answers 50 = .ok (.iconst 0, 1) := by decide +kernel
theorem dX5_answers_51 : decode cX5_answers 51 = .ok (.iastore, 1) := by decide +kernel
theorem dX5_answers_52 : decode cX5_answers 52 = .ok (.aload_n 0, 1) := by decide +kernel
theorem dX5_answers_53 : decode cX5_answers 53 = .ok (.getfield 70, 3) := by decide +kernel
theorem dX5_answers_56 : decode cX5_answers 56 = .ok (.iconst 3, 1) := by decide +kernel
theorem dX5_answers_57 : decode cX5_answers 57 = .ok (.aload_n 0, 1) := by decide +kernel
theorem dX5_answers_58 : decode cX5_answers 58 = .ok (.getfield 119, 3) := by decide +kernel
theorem dX5_answers_61 : decode cX5_answers 61 = .ok (.ifCond .le 10, 3) := by decide +kernel
theorem dX5_answers_64 : decode cX5_answers 64 = .ok (.aload_n 0, 1) := by decide +kernel
theorem dX5_answers_65 : decode cX5_answers 65 = .ok (.getfield 128, 3) := by decide +kernel
theorem dX5_answers_68 : decode cX5_answers 68 = .ok (.goto 4, 3) := by decide +kernel
theorem dX5_answers_71 : decode cX5_answers 71 = .ok (.iconst 0, 1) := by decide +kernel
theorem dX5_answers_72 : decode cX5_answers 72 = .ok (.iastore, 1) := by decide +kernel
theorem dX5_answers_73 : decode cX5_answers 73 = .ok (.aload_n 0, 1) := by decide +kernel
theorem dX5_answers_74 : decode cX5_answers 74 = .ok (.getfield 119, 3) := by decide +kernel
theorem dX5_answers_77 : decode cX5_answers 77 = .ok (.ifCond .le 13, 3) := by decide +kernel
theorem dX5_answers_80 : decode cX5_answers 80 = .ok (.bipush (-10), 2) := by decide +kernel
theorem dX5_answers_82 : decode cX5_answers 82 = .ok (.aload_n 0, 1) := by decide +kernel
theorem dX5_answers_83 : decode cX5_answers 83 = .ok (.getfield 119, 3) := by decide +kernel
theorem dX5_answers_86 : decode cX5_answers 86 = .ok (.isub, 1) := by decide +kernel
theorem dX5_answers_87 : decode cX5_answers 87 = .ok (.goto 4, 3) := by decide +kernel
theorem dX5_answers_90 : decode cX5_answers 90 = .ok (.iconst 1, 1) := by decide +kernel
theorem dX5_answers_91 : decode cX5_answers 91 = .ok (.ireturn, 1) := by decide +kernel
theorem dX5_need_0 : decode cX5_need 0 = .ok (.iload_n 1, 1) := by decide +kernel
theorem dX5_need_1 : decode cX5_need 1 = .ok (.invokestatic 179, 3) := by decide +kernel
theorem dX5_need_4 : decode cX5_need 4 = .ok (.ifCond .eq 17, 3) := by decide +kernel
theorem dX5_need_7 : decode cX5_need 7 = .ok (.iload_n 2, 1) := by decide +kernel
theorem dX5_need_8 : decode cX5_need 8 = .ok (.iconst 0, 1) := by decide +kernel
theorem dX5_need_9 : decode cX5_need 9 = .ok (.aload_n 0, 1) := by decide +kernel
theorem dX5_need_10 : decode cX5_need 10 = .ok (.getfield 106, 3) := by decide +kernel
theorem dX5_need_13 : decode cX5_need 13 = .ok (.iconst 1, 1) := by decide +kernel
theorem dX5_need_14 : decode cX5_need 14 = .ok (.isub, 1) := by decide +kernel
theorem dX5_need_15 : decode cX5_need 15 = .ok (.invokestatic 98, 3) := by decide +kernel
theorem dX5_need_18 : decode cX5_need 18 = .ok (.ifCond .ne 5, 3) := by decide +kernel
theorem dX5_need_21 : decode cX5_need 21 = .ok (.iconst (-1), 1) := by decide +kernel
theorem dX5_need_22 : decode cX5_need 22 = .ok (.ireturn, 1) := by decide +kernel
theorem dX5_need_23 : decode cX5_need 23 = .ok (.aload_n 0, 1) := by decide +kernel
theorem dX5_need_24 : decode cX5_need 24 = .ok (.iconst 0, 1) := by decide +kernel
theorem dX5_need_25 : decode cX5_need 25 = .ok (.putfield 116, 3) := by decide +kernel
theorem dX5_need_28 : decode cX5_need 28 = .ok (.aload_n 0, 1) := by decide +kernel
theorem dX5_need_29 : decode cX5_need 29 = .ok (.iconst 1, 1) := by decide +kernel
theorem dX5_need_30 : decode cX5_need 30 = .ok (.putfield 112, 3) := by decide +kernel
theorem dX5_need_33 : decode cX5_need 33 = .ok (.aload_n 0, 1) := by decide +kernel
theorem dX5_need_34 : decode cX5_need 34 = .ok (.iconst 0, 1) := by decide +kernel
theorem dX5_need_35 : decode cX5_need 35 = .ok (.iload_n 2, 1) := by decide +kernel
theorem dX5_need_36 : decode cX5_need 36 = .ok (.invokevirtual 144, 3) := by decide +kernel
theorem dX5_need_39 : decode cX5_need 39 = .ok (.aload_n 0, 1) := by decide +kernel
theorem dX5_need_40 : decode cX5_need 40 = .ok (.iload_n 1, 1) := by decide +kernel
theorem dX5_need_41 : decode cX5_need 41 = .ok (.invokevirtual 182, 3) := by decide +kernel
theorem dX5_need_44 : decode cX5_need 44 = .ok (.aload_n 0, 1) := by decide +kernel
theorem dX5_need_45 : decode cX5_need 45 = .ok (.aload_n 0, 1) := by decide +kernel
theorem dX5_need_46 : decode cX5_need 46 = .ok (.getfield 119, 3) := by decide +kernel
theorem dX5_need_49 : decode cX5_need 49 = .ok (.ifCond .le 10, 3) := by decide +kernel
theorem dX5_need_52 : decode cX5_need 52 = .ok (.aload_n 0, 1) := by decide +kernel
theorem dX5_need_53 : decode cX5_need 53 = .ok (.getfield 185, 3) := by decide +kernel
theorem dX5_need_56 : decode cX5_need 56 = .ok (.goto 7, 3) := by decide +kernel
theorem dX5_need_59 : decode cX5_need 59 = .ok (.aload_n 0, 1) := by decide +kernel
theorem dX5_need_60 : decode cX5_need 60 = .ok (.getfield 131, 3) := by decide +kernel
theorem dX5_need_63 : decode cX5_need 63 = .ok (.putfield 185, 3) := by decide +kernel
theorem dX5_need_66 : decode cX5_need 66 = .ok (.aload_n 0, 1) := by decide +kernel
theorem dX5_need_67 : decode cX5_need 67 = .ok (.invokevirtual 188, 3) := by decide +kernel
theorem dX5_need_70 : decode cX5_need 70 = .ok (.ireturn, 1) := by decide +kernel
theorem dX5_value_0 : decode cX5_value 0 = .ok (.aload_n 0, 1) := by decide +kernel
theorem dX5_value_1 : decode cX5_value 1 = .ok (.getfield 185, 3) := by decide +kernel
theorem dX5_value_4 : decode cX5_value 4 = .ok (.ireturn, 1) := by decide +kernel
theorem dX5_start_0 : decode cX5_start 0 = .ok (.iload_n 1, 1) := by decide +kernel
theorem dX5_start_1 : decode cX5_start 1 = .ok (.invokestatic 179, 3) := by decide +kernel
theorem dX5_start_4 : decode cX5_start 4 = .ok (.ifCond .eq 11, 3) := by decide +kernel
theorem dX5_start_7 : decode cX5_start 7 = .ok (.aload_n 0, 1) := by decide +kernel
theorem dX5_start_8 : decode cX5_start 8 = .ok (.iload_n 2, 1) := by decide +kernel
theorem dX5_start_9 : decode cX5_start 9 = .ok (.invokevirtual 102, 3) := by decide +kernel
theorem dX5_start_12 : decode cX5_start 12 = .ok (.ifCond .ne 5, 3) := by decide +kernel
theorem dX5_start_15 : decode cX5_start 15 = .ok (.iconst (-1), 1) := by decide +kernel
theorem dX5_start_16 : decode cX5_start 16 = .ok (.ireturn, 1) := by decide +kernel
theorem dX5_start_17 : decode cX5_start 17 = .ok (.aload_n 0, 1) := by decide +kernel
theorem dX5_start_18 : decode cX5_start 18 = .ok (.iconst 0, 1) := by decide +kernel
theorem dX5_start_19 : decode cX5_start 19 = .ok (.putfield 116, 3) := by decide +kernel
theorem dX5_start_22 : decode cX5_start 22 = .ok (.aload_n 0, 1) := by decide +kernel
theorem dX5_start_23 : decode cX5_start 23 = .ok (.iconst 1, 1) := by decide +kernel
theorem dX5_start_24 : decode cX5_start 24 = .ok (.putfield 112, 3) := by decide +kernel
theorem dX5_start_27 : decode cX5_start 27 = .ok (.aload_n 0, 1) := by decide +kernel
theorem dX5_start_28 : decode cX5_start 28 = .ok (.iconst 1, 1) := by decide +kernel
theorem dX5_start_29 : decode cX5_start 29 = .ok (.iload_n 2, 1) := by decide +kernel
theorem dX5_start_30 : decode cX5_start 30 = .ok (.invokevirtual 144, 3) := by decide +kernel
theorem dX5_start_33 : decode cX5_start 33 = .ok (.aload_n 0, 1) := by decide +kernel
theorem dX5_start_34 : decode cX5_start 34 = .ok (.iload_n 1, 1) := by decide +kernel
theorem dX5_start_35 : decode cX5_start 35 = .ok (.invokevirtual 182, 3) := by decide +kernel
theorem dX5_start_38 : decode cX5_start 38 = .ok (.aload_n 0, 1) := by decide +kernel
theorem dX5_start_39 : decode cX5_start 39 = .ok (.invokevirtual 188, 3) := by decide +kernel
theorem dX5_start_42 : decode cX5_start 42 = .ok (.ireturn, 1) := by decide +kernel
theorem dX5_fault_0 : decode cX5_fault 0 = .ok (.iload_n 1, 1) := by decide +kernel
theorem dX5_fault_1 : decode cX5_fault 1 = .ok (.iconst 0, 1) := by decide +kernel
theorem dX5_fault_2 : decode cX5_fault 2 = .ok (.iconst 3, 1) := by decide +kernel
theorem dX5_fault_3 : decode cX5_fault 3 = .ok (.invokestatic 98, 3) := by decide +kernel
theorem dX5_fault_6 : decode cX5_fault 6 = .ok (.ifCond .eq 12, 3) := by decide +kernel
theorem dX5_fault_9 : decode cX5_fault 9 = .ok (.aload_n 0, 1) := by decide +kernel
theorem dX5_fault_10 : decode cX5_fault 10 = .ok (.getfield 70, 3) := by decide +kernel
theorem dX5_fault_13 : decode cX5_fault 13 = .ok (.iload_n 1, 1) := by decide +kernel
theorem dX5_fault_14 : decode cX5_fault 14 = .ok (.iaload, 1) := by decide +kernel
theorem dX5_fault_15 : decode cX5_fault 15 = .ok (.goto 4, 3) := by decide +kernel
theorem dX5_fault_18 : decode cX5_fault 18 = .ok (.iconst (-1), 1) := by decide +kernel
theorem dX5_fault_19 : decode cX5_fault 19 = .ok (.ireturn, 1) := by decide +kernel
theorem dX5_state_0 : decode cX5_state 0 = .ok (.iload_n 1, 1) := by decide +kernel
theorem dX5_state_1 : decode cX5_state 1 = .ok (.invokestatic 179, 3) := by decide +kernel
theorem dX5_state_4 : decode cX5_state 4 = .ok (.ifCond .eq 25, 3) := by decide +kernel
theorem dX5_state_7 : decode cX5_state 7 = .ok (.aload_n 0, 1) := by decide +kernel
theorem dX5_state_8 : decode cX5_state 8 = .ok (.iload_n 2, 1) := by decide +kernel
theorem dX5_state_9 : decode cX5_state 9 = .ok (.invokevirtual 102, 3) := by decide +kernel
theorem dX5_state_12 : decode cX5_state 12 = .ok (.ifCond .eq 17, 3) := by decide +kernel
theorem dX5_state_15 : decode cX5_state 15 = .ok (.aload_n 0, 1) := by decide +kernel
theorem dX5_state_16 : decode cX5_state 16 = .ok (.getfield 46, 3) := by decide +kernel
theorem dX5_state_19 : decode cX5_state 19 = .ok (.bipush 12, 2) := by decide +kernel
theorem dX5_state_21 : decode cX5_state 21 = .ok (.iload_n 1, 1) := by decide +kernel
theorem dX5_state_22 : decode cX5_state 22 = .ok (.imul, 1) := by decide +kernel
theorem dX5_state_23 : decode cX5_state 23 = .ok (.iload_n 2, 1) := by decide +kernel
theorem dX5_state_24 : decode cX5_state 24 = .ok (.iadd, 1) := by decide +kernel
theorem dX5_state_25 : decode cX5_state 25 = .ok (.iaload, 1) := by decide +kernel
theorem dX5_state_26 : decode cX5_state 26 = .ok (.goto 4, 3) := by decide +kernel
theorem dX5_state_29 : decode cX5_state 29 = .ok (.iconst (-1), 1) := by decide +kernel
theorem dX5_state_30 : decode cX5_state 30 = .ok (.ireturn, 1) := by decide +kernel
theorem dX5_kept_0 : decode cX5_kept 0 = .ok (.iload_n 1, 1) := by decide +kernel
theorem dX5_kept_1 : decode cX5_kept 1 = .ok (.invokestatic 179, 3) := by decide +kernel
theorem dX5_kept_4 : decode cX5_kept 4 = .ok (.ifCond .eq 17, 3) := by decide +kernel
theorem dX5_kept_7 : decode cX5_kept 7 = .ok (.iload_n 2, 1) := by decide +kernel
theorem dX5_kept_8 : decode cX5_kept 8 = .ok (.iconst 0, 1) := by decide +kernel
theorem dX5_kept_9 : decode cX5_kept 9 = .ok (.aload_n 0, 1) := by decide +kernel
theorem dX5_kept_10 : decode cX5_kept 10 = .ok (.getfield 106, 3) := by decide +kernel
theorem dX5_kept_13 : decode cX5_kept 13 = .ok (.iconst 1, 1) := by decide +kernel
theorem dX5_kept_14 : decode cX5_kept 14 = .ok (.isub, 1) := by decide +kernel
theorem dX5_kept_15 : decode cX5_kept 15 = .ok (.invokestatic 98, 3) := by decide +kernel
theorem dX5_kept_18 : decode cX5_kept 18 = .ok (.ifCond .ne 5, 3) := by decide +kernel
theorem dX5_kept_21 : decode cX5_kept 21 = .ok (.iconst (-1), 1) := by decide +kernel
theorem dX5_kept_22 : decode cX5_kept 22 = .ok (.ireturn, 1) := by decide +kernel
theorem dX5_kept_23 : decode cX5_kept 23 = .ok (.bipush 40, 2) := by decide +kernel
theorem dX5_kept_25 : decode cX5_kept 25 = .ok (.iload_n 1, 1) := by decide +kernel
theorem dX5_kept_26 : decode cX5_kept 26 = .ok (.imul, 1) := by decide +kernel
theorem dX5_kept_27 : decode cX5_kept 27 = .ok (.iload_n 2, 1) := by decide +kernel
theorem dX5_kept_28 : decode cX5_kept 28 = .ok (.iadd, 1) := by decide +kernel
theorem dX5_kept_29 : decode cX5_kept 29 = .ok (.istore_n 3, 1) := by decide +kernel
theorem dX5_kept_30 : decode cX5_kept 30 = .ok (.aload_n 0, 1) := by decide +kernel
theorem dX5_kept_31 : decode cX5_kept 31 = .ok (.getfield 52, 3) := by decide +kernel
theorem dX5_kept_34 : decode cX5_kept 34 = .ok (.iload_n 3, 1) := by decide +kernel
theorem dX5_kept_35 : decode cX5_kept 35 = .ok (.iaload, 1) := by decide +kernel
theorem dX5_kept_36 : decode cX5_kept 36 = .ok (.iconst 2, 1) := by decide +kernel
theorem dX5_kept_37 : decode cX5_kept 37 = .ok (.if_icmp .ne 7, 3) := by decide +kernel
theorem dX5_kept_40 : decode cX5_kept 40 = .ok (.iconst 1, 1) := by decide +kernel
theorem dX5_kept_41 : decode cX5_kept 41 = .ok (.goto 26, 3) := by decide +kernel
theorem dX5_kept_44 : decode cX5_kept 44 = .ok (.aload_n 0, 1) := by decide +kernel
theorem dX5_kept_45 : decode cX5_kept 45 = .ok (.getfield 52, 3) := by decide +kernel
theorem dX5_kept_48 : decode cX5_kept 48 = .ok (.iload_n 3, 1) := by decide +kernel
theorem dX5_kept_49 : decode cX5_kept 49 = .ok (.iaload, 1) := by decide +kernel
theorem dX5_kept_50 : decode cX5_kept 50 = .ok (.iconst 3, 1) := by decide +kernel
theorem dX5_kept_51 : decode cX5_kept 51 = .ok (.if_icmp .ne 15, 3) := by decide +kernel
theorem dX5_kept_54 : decode cX5_kept 54 = .ok (.bipush 10, 2) := by decide +kernel
theorem dX5_kept_56 : decode cX5_kept 56 = .ok (.aload_n 0, 1) := by decide +kernel
theorem dX5_kept_57 : decode cX5_kept 57 = .ok (.getfield 55, 3) := by decide +kernel
theorem dX5_kept_60 : decode cX5_kept 60 = .ok (.iload_n 3, 1) := by decide +kernel
theorem dX5_kept_61 : decode cX5_kept 61 = .ok (.iaload, 1) := by decide +kernel
theorem dX5_kept_62 : decode cX5_kept 62 = .ok (.iadd, 1) := by decide +kernel
theorem dX5_kept_63 : decode cX5_kept 63 = .ok (.goto 4, 3) := by decide +kernel
theorem dX5_kept_66 : decode cX5_kept 66 = .ok (.iconst 0, 1) := by decide +kernel
theorem dX5_kept_67 : decode cX5_kept 67 = .ok (.ireturn, 1) := by decide +kernel
theorem dX5_row_0 : decode cX5_row 0 = .ok (.iload_n 1, 1) := by decide +kernel
theorem dX5_row_1 : decode cX5_row 1 = .ok (.invokestatic 179, 3) := by decide +kernel
theorem dX5_row_4 : decode cX5_row 4 = .ok (.ifCond .eq 11, 3) := by decide +kernel
theorem dX5_row_7 : decode cX5_row 7 = .ok (.aload_n 0, 1) := by decide +kernel
theorem dX5_row_8 : decode cX5_row 8 = .ok (.iload_n 2, 1) := by decide +kernel
theorem dX5_row_9 : decode cX5_row 9 = .ok (.invokevirtual 102, 3) := by decide +kernel
theorem dX5_row_12 : decode cX5_row 12 = .ok (.ifCond .ne 5, 3) := by decide +kernel
theorem dX5_row_15 : decode cX5_row 15 = .ok (.iconst (-1), 1) := by decide +kernel
theorem dX5_row_16 : decode cX5_row 16 = .ok (.ireturn, 1) := by decide +kernel
theorem dX5_row_17 : decode cX5_row 17 = .ok (.iload_n 3, 1) := by decide +kernel
theorem dX5_row_18 : decode cX5_row 18 = .ok (.iconst 0, 1) := by decide +kernel
theorem dX5_row_19 : decode cX5_row 19 = .ok (.aload_n 0, 1) := by decide +kernel
theorem dX5_row_20 : decode cX5_row 20 = .ok (.getfield 7, 3) := by decide +kernel
theorem dX5_row_23 : decode cX5_row 23 = .ok (.iload_n 2, 1) := by decide +kernel
theorem dX5_row_24 : decode cX5_row 24 = .ok (.iaload, 1) := by decide +kernel
theorem dX5_row_25 : decode cX5_row 25 = .ok (.iconst 1, 1) := by decide +kernel
theorem dX5_row_26 : decode cX5_row 26 = .ok (.isub, 1) := by decide +kernel
theorem dX5_row_27 : decode cX5_row 27 = .ok (.invokestatic 98, 3) := by decide +kernel
theorem dX5_row_30 : decode cX5_row 30 = .ok (.ifCond .ne 6, 3) := by decide +kernel
theorem dX5_row_33 : decode cX5_row 33 = .ok (.bipush (-3), 2) := by decide +kernel
theorem dX5_row_35 : decode cX5_row 35 = .ok (.ireturn, 1) := by decide +kernel
theorem dX5_row_36 : decode cX5_row 36 = .ok (.aload_n 0, 1) := by decide +kernel
theorem dX5_row_37 : decode cX5_row 37 = .ok (.getfield 46, 3) := by decide +kernel
theorem dX5_row_40 : decode cX5_row 40 = .ok (.bipush 12, 2) := by decide +kernel
theorem dX5_row_42 : decode cX5_row 42 = .ok (.iload_n 1, 1) := by decide +kernel
theorem dX5_row_43 : decode cX5_row 43 = .ok (.imul, 1) := by decide +kernel
theorem dX5_row_44 : decode cX5_row 44 = .ok (.iload_n 2, 1) := by decide +kernel
theorem dX5_row_45 : decode cX5_row 45 = .ok (.iadd, 1) := by decide +kernel
theorem dX5_row_46 : decode cX5_row 46 = .ok (.iaload, 1) := by decide +kernel
theorem dX5_row_47 : decode cX5_row 47 = .ok (.ifCond .ne 17, 3) := by decide +kernel
theorem dX5_row_50 : decode cX5_row 50 = .ok (.aload_n 0, 1) := by decide +kernel
theorem dX5_row_51 : decode cX5_row 51 = .ok (.getfield 13, 3) := by decide +kernel
theorem dX5_row_54 : decode cX5_row 54 = .ok (.bipush 8, 2) := by decide +kernel
theorem dX5_row_56 : decode cX5_row 56 = .ok (.iload_n 2, 1) := by decide +kernel
theorem dX5_row_57 : decode cX5_row 57 = .ok (.imul, 1) := by decide +kernel
theorem dX5_row_58 : decode cX5_row 58 = .ok (.iload_n 3, 1) := by decide +kernel
theorem dX5_row_59 : decode cX5_row 59 = .ok (.iadd, 1) := by decide +kernel
theorem dX5_row_60 : decode cX5_row 60 = .ok (.iaload, 1) := by decide +kernel
theorem dX5_row_61 : decode cX5_row 61 = .ok (.goto 19, 3) := by decide +kernel
theorem dX5_row_64 : decode cX5_row 64 = .ok (.aload_n 0, 1) := by decide +kernel
theorem dX5_row_65 : decode cX5_row 65 = .ok (.getfield 49, 3) := by decide +kernel
theorem dX5_row_68 : decode cX5_row 68 = .ok (.bipush 96, 2) := by decide +kernel
theorem dX5_row_70 : decode cX5_row 70 = .ok (.iload_n 1, 1) := by decide +kernel
theorem dX5_row_71 : decode cX5_row 71 = .ok (.imul, 1) := by decide +kernel
theorem dX5_row_72 : decode cX5_row 72 = .ok (.bipush 8, 2) := by decide +kernel
theorem dX5_row_74 : decode cX5_row 74 = .ok (.iload_n 2, 1) := by decide +kernel
theorem dX5_row_75 : decode cX5_row 75 = .ok (.imul, 1) := by decide +kernel
theorem dX5_row_76 : decode cX5_row 76 = .ok (.iadd, 1) := by decide +kernel
theorem dX5_row_77 : decode cX5_row 77 = .ok (.iload_n 3, 1) := by decide +kernel
theorem dX5_row_78 : decode cX5_row 78 = .ok (.iadd, 1) := by decide +kernel
theorem dX5_row_79 : decode cX5_row 79 = .ok (.iaload, 1) := by decide +kernel
theorem dX5_row_80 : decode cX5_row 80 = .ok (.ireturn, 1) := by decide +kernel
theorem dX5_trace_0 : decode cX5_trace 0 = .ok (.iload_n 2, 1) := by decide +kernel
theorem dX5_trace_1 : decode cX5_trace 1 = .ok (.iconst 0, 1) := by decide +kernel
theorem dX5_trace_2 : decode cX5_trace 2 = .ok (.iconst 1, 1) := by decide +kernel
theorem dX5_trace_3 : decode cX5_trace 3 = .ok (.invokestatic 98, 3) := by decide +kernel
theorem dX5_trace_6 : decode cX5_trace 6 = .ok (.ifCond .ne 5, 3) := by decide +kernel
theorem dX5_trace_9 : decode cX5_trace 9 = .ok (.iconst (-1), 1) := by decide +kernel
theorem dX5_trace_10 : decode cX5_trace 10 = .ok (.ireturn, 1) := by decide +kernel
theorem dX5_trace_11 : decode cX5_trace 11 = .ok (.iload_n 1, 1) := by decide +kernel
theorem dX5_trace_12 : decode cX5_trace 12 = .ok (.iconst 0, 1) := by decide +kernel
theorem dX5_trace_13 : decode cX5_trace 13 = .ok (.aload_n 0, 1) := by decide +kernel
theorem dX5_trace_14 : decode cX5_trace 14 = .ok (.getfield 116, 3) := by decide +kernel
theorem dX5_trace_17 : decode cX5_trace 17 = .ok (.iconst 1, 1) := by decide +kernel
theorem dX5_trace_18 : decode cX5_trace 18 = .ok (.isub, 1) := by decide +kernel
theorem dX5_trace_19 : decode cX5_trace 19 = .ok (.invokestatic 98, 3) := by decide +kernel
theorem dX5_trace_22 : decode cX5_trace 22 = .ok (.ifCond .eq 16, 3) := by decide +kernel
theorem dX5_trace_25 : decode cX5_trace 25 = .ok (.aload_n 0, 1) := by decide +kernel
theorem dX5_trace_26 : decode cX5_trace 26 = .ok (.getfield 67, 3) := by decide +kernel
theorem dX5_trace_29 : decode cX5_trace 29 = .ok (.iconst 2, 1) := by decide +kernel
theorem dX5_trace_30 : decode cX5_trace 30 = .ok (.iload_n 1, 1) := by decide +kernel
theorem dX5_trace_31 : decode cX5_trace 31 = .ok (.imul, 1) := by decide +kernel
theorem dX5_trace_32 : decode cX5_trace 32 = .ok (.iload_n 2, 1) := by decide +kernel
theorem dX5_trace_33 : decode cX5_trace 33 = .ok (.iadd, 1) := by decide +kernel
theorem dX5_trace_34 : decode cX5_trace 34 = .ok (.iaload, 1) := by decide +kernel
theorem dX5_trace_35 : decode cX5_trace 35 = .ok (.goto 5, 3) := by decide +kernel
theorem dX5_trace_38 : decode cX5_trace 38 = .ok (.bipush (-3), 2) := by decide +kernel
theorem dX5_trace_40 : decode cX5_trace 40 = .ok (.ireturn, 1) := by decide +kernel
theorem dX5_empties_0 : decode cX5_empties 0 = .ok (.iconst 0, 1) := by decide +kernel
theorem dX5_empties_1 : decode cX5_empties 1 = .ok (.istore_n 2, 1) := by decide +kernel
theorem dX5_empties_2 : decode cX5_empties 2 = .ok (.iconst 0, 1) := by decide +kernel
theorem dX5_empties_3 : decode cX5_empties 3 = .ok (.istore_n 3, 1) := by decide +kernel
theorem dX5_empties_4 : decode cX5_empties 4 = .ok (.iload_n 3, 1) := by decide +kernel
theorem dX5_empties_5 : decode cX5_empties 5 = .ok (.bipush 12, 2) := by decide +kernel
theorem dX5_empties_7 : decode cX5_empties 7 = .ok (.if_icmp .ge 43, 3) := by decide +kernel
theorem dX5_empties_10 : decode cX5_empties 10 = .ok (.iload_n 2, 1) := by decide +kernel
theorem dX5_empties_11 : decode cX5_empties 11 = .ok (.aload_n 0, 1) := by decide +kernel
theorem dX5_empties_12 : decode cX5_empties 12 = .ok (.getfield 46, 3) := by decide +kernel
theorem dX5_empties_15 : decode cX5_empties 15 = .ok (.bipush 12, 2) := by decide +kernel
theorem dX5_empties_17 : decode cX5_empties 17 = .ok (.iload_n 1, 1) := by decide +kernel
theorem dX5_empties_18 : decode cX5_empties 18 = .ok (.imul, 1) := by decide +kernel
theorem dX5_empties_19 : decode cX5_empties 19 = .ok (.iload_n 3, 1) := by decide +kernel
theorem dX5_empties_20 : decode cX5_empties 20 = .ok (.iadd, 1) := by decide +kernel
theorem dX5_empties_21 : decode cX5_empties 21 = .ok (.iaload, 1) := by decide +kernel
theorem dX5_empties_22 : decode cX5_empties 22 = .ok (.ifCond .eq 7, 3) := by decide +kernel
theorem dX5_empties_25 : decode cX5_empties 25 = .ok (.iconst 1, 1) := by decide +kernel
theorem dX5_empties_26 : decode cX5_empties 26 = .ok (.goto 4, 3) := by decide +kernel
theorem dX5_empties_29 : decode cX5_empties 29 = .ok (.iconst 0, 1) := by decide +kernel
theorem dX5_empties_30 : decode cX5_empties 30 = .ok (.iadd, 1) := by decide +kernel
theorem dX5_empties_31 : decode cX5_empties 31 = .ok (.istore_n 2, 1) := by decide +kernel
theorem dX5_empties_32 : decode cX5_empties 32 = .ok (.aload_n 0, 1) := by decide +kernel
theorem dX5_empties_33 : decode cX5_empties 33 = .ok (.getfield 46, 3) := by decide +kernel
theorem dX5_empties_36 : decode cX5_empties 36 = .ok (.bipush 12, 2) := by decide +kernel
theorem dX5_empties_38 : decode cX5_empties 38 = .ok (.iload_n 1, 1) := by decide +kernel
theorem dX5_empties_39 : decode cX5_empties 39 = .ok (.imul, 1) := by decide +kernel
theorem dX5_empties_40 : decode cX5_empties 40 = .ok (.iload_n 3, 1) := by decide +kernel
theorem dX5_empties_41 : decode cX5_empties 41 = .ok (.iadd, 1) := by decide +kernel
theorem dX5_empties_42 : decode cX5_empties 42 = .ok (.iconst 0, 1) := by decide +kernel
theorem dX5_empties_43 : decode cX5_empties 43 = .ok (.iastore, 1) := by decide +kernel
theorem dX5_empties_44 : decode cX5_empties 44 = .ok (.iinc 3 1, 3) := by decide +kernel
theorem dX5_empties_47 : decode cX5_empties 47 = .ok (.goto (-43), 3) := by decide +kernel
theorem dX5_empties_50 : decode cX5_empties 50 = .ok (.iconst 0, 1) := by decide +kernel
theorem dX5_empties_51 : decode cX5_empties 51 = .ok (.istore_n 3, 1) := by decide +kernel
theorem dX5_empties_52 : decode cX5_empties 52 = .ok (.iload_n 3, 1) := by decide +kernel
theorem dX5_empties_53 : decode cX5_empties 53 = .ok (.bipush 40, 2) := by decide +kernel
theorem dX5_empties_55 : decode cX5_empties 55 = .ok (.if_icmp .ge 21, 3) := by decide +kernel
theorem dX5_empties_58 : decode cX5_empties 58 = .ok (.aload_n 0, 1) := by decide +kernel
theorem dX5_empties_59 : decode cX5_empties 59 = .ok (.getfield 52, 3) := by decide +kernel
theorem dX5_empties_62 : decode cX5_empties 62 = .ok (.bipush 40, 2) := by decide +kernel
theorem dX5_empties_64 : decode cX5_empties 64 = .ok (.iload_n 1, 1) := by decide +kernel
theorem dX5_empties_65 : decode cX5_empties 65 = .ok (.imul, 1) := by decide +kernel
theorem dX5_empties_66 : decode cX5_empties 66 = .ok (.iload_n 3, 1) := by decide +kernel
theorem dX5_empties_67 : decode cX5_empties 67 = .ok (.iadd, 1) := by decide +kernel
theorem dX5_empties_68 : decode cX5_empties 68 = .ok (.iconst 0, 1) := by decide +kernel
theorem dX5_empties_69 : decode cX5_empties 69 = .ok (.iastore, 1) := by decide +kernel
theorem dX5_empties_70 : decode cX5_empties 70 = .ok (.iinc 3 1, 3) := by decide +kernel
theorem dX5_empties_73 : decode cX5_empties 73 = .ok (.goto (-21), 3) := by decide +kernel
theorem dX5_empties_76 : decode cX5_empties 76 = .ok (.iload_n 2, 1) := by decide +kernel
theorem dX5_empties_77 : decode cX5_empties 77 = .ok (.ireturn, 1) := by decide +kernel
theorem dX5_forget_0 : decode cX5_forget 0 = .ok (.iload_n 1, 1) := by decide +kernel
theorem dX5_forget_1 : decode cX5_forget 1 = .ok (.invokestatic 179, 3) := by decide +kernel
theorem dX5_forget_4 : decode cX5_forget 4 = .ok (.ifCond .eq 11, 3) := by decide +kernel
theorem dX5_forget_7 : decode cX5_forget 7 = .ok (.aload_n 0, 1) := by decide +kernel
theorem dX5_forget_8 : decode cX5_forget 8 = .ok (.iload_n 1, 1) := by decide +kernel
theorem dX5_forget_9 : decode cX5_forget 9 = .ok (.invokevirtual 192, 3) := by decide +kernel
theorem dX5_forget_12 : decode cX5_forget 12 = .ok (.goto 4, 3) := by decide +kernel
theorem dX5_forget_15 : decode cX5_forget 15 = .ok (.iconst (-1), 1) := by decide +kernel
theorem dX5_forget_16 : decode cX5_forget 16 = .ok (.ireturn, 1) := by decide +kernel
theorem dX5_alike_0 : decode cX5_alike 0 = .ok (.aload_n 0, 1) := by decide +kernel
theorem dX5_alike_1 : decode cX5_alike 1 = .ok (.getfield 196, 3) := by decide +kernel
theorem dX5_alike_4 : decode cX5_alike 4 = .ok (.bipush 40, 2) := by decide +kernel
theorem dX5_alike_6 : decode cX5_alike 6 = .ok (.if_icmp .ne 6, 3) := by decide +kernel
theorem dX5_alike_9 : decode cX5_alike 9 = .ok (.bipush (-2), 2) := by decide +kernel
theorem dX5_alike_11 : decode cX5_alike 11 = .ok (.ireturn, 1) := by decide +kernel
theorem dX5_alike_12 : decode cX5_alike 12 = .ok (.aload_n 0, 1) := by decide +kernel
theorem dX5_alike_13 : decode cX5_alike 13 = .ok (.dup, 1) := by decide +kernel
theorem dX5_alike_14 : decode cX5_alike 14 = .ok (.getfield 196, 3) := by decide +kernel
theorem dX5_alike_17 : decode cX5_alike 17 = .ok (.iconst 1, 1) := by decide +kernel
theorem dX5_alike_18 : decode cX5_alike 18 = .ok (.iadd, 1) := by decide +kernel
theorem dX5_alike_19 : decode cX5_alike 19 = .ok (.putfield 196, 3) := by decide +kernel
theorem dX5_alike_22 : decode cX5_alike 22 = .ok (.aload_n 0, 1) := by decide +kernel
theorem dX5_alike_23 : decode cX5_alike 23 = .ok (.iconst 0, 1) := by decide +kernel
theorem dX5_alike_24 : decode cX5_alike 24 = .ok (.putfield 112, 3) := by decide +kernel
theorem dX5_alike_27 : decode cX5_alike 27 = .ok (.iconst 0, 1) := by decide +kernel
theorem dX5_alike_28 : decode cX5_alike 28 = .ok (.istore_n 2, 1) := by decide +kernel
theorem dX5_alike_29 : decode cX5_alike 29 = .ok (.iload_n 2, 1) := by decide +kernel
theorem dX5_alike_30 : decode cX5_alike 30 = .ok (.aload_n 0, 1) := by decide +kernel
theorem dX5_alike_31 : decode cX5_alike 31 = .ok (.getfield 106, 3) := by decide +kernel
theorem dX5_alike_34 : decode cX5_alike 34 = .ok (.if_icmp .ge 16, 3) := by decide +kernel
theorem dX5_alike_37 : decode cX5_alike 37 = .ok (.aload_n 0, 1) := by decide +kernel
theorem dX5_alike_38 : decode cX5_alike 38 = .ok (.getfield 85, 3) := by decide +kernel
theorem dX5_alike_41 : decode cX5_alike 41 = .ok (.iload_n 2, 1) := by decide +kernel
theorem dX5_alike_42 : decode cX5_alike 42 = .ok (.iload_n 2, 1) := by decide +kernel
theorem dX5_alike_43 : decode cX5_alike 43 = .ok (.iastore, 1) := by decide +kernel
theorem dX5_alike_44 : decode cX5_alike 44 = .ok (.iinc 2 1, 3) := by decide +kernel
theorem dX5_alike_47 : decode cX5_alike 47 = .ok (.goto (-18), 3) := by decide +kernel
theorem dX5_alike_50 : decode cX5_alike 50 = .ok (.iconst 0, 1) := by decide +kernel
theorem dX5_alike_51 : decode cX5_alike 51 = .ok (.istore_n 2, 1) := by decide +kernel
theorem dX5_alike_52 : decode cX5_alike 52 = .ok (.iload_n 1, 1) := by decide +kernel
theorem dX5_alike_53 : decode cX5_alike 53 = .ok (.istore_n 3, 1) := by decide +kernel
theorem dX5_alike_54 : decode cX5_alike 54 = .ok (.iconst 3, 1) := by decide +kernel
theorem dX5_alike_55 : decode cX5_alike 55 = .ok (.istore 4, 2) := by decide +kernel
theorem dX5_alike_57 : decode cX5_alike 57 = .ok (.iload 4, 2) := by decide +kernel
theorem dX5_alike_59 : decode cX5_alike 59 = .ok (.iconst 5, 1) := by decide +kernel
theorem dX5_alike_60 : decode cX5_alike 60 = .ok (.if_icmp .ge 211, 3) := by decide +kernel
theorem dX5_alike_63 : decode cX5_alike 63 = .ok (.aload_n 0, 1) := by decide +kernel
theorem dX5_alike_64 : decode cX5_alike 64 = .ok (.iload 4, 2) := by decide +kernel
theorem dX5_alike_66 : decode cX5_alike 66 = .ok (.invokevirtual 192, 3) := by decide +kernel
theorem dX5_alike_69 : decode cX5_alike 69 = .ok (.istore 5, 2) := by decide +kernel
theorem dX5_alike_71 : decode cX5_alike 71 = .ok (.iconst 0, 1) := by decide +kernel
theorem dX5_alike_72 : decode cX5_alike 72 = .ok (.istore 6, 2) := by decide +kernel
theorem dX5_alike_74 : decode cX5_alike 74 = .ok (.iload 6, 2) := by decide +kernel
theorem dX5_alike_76 : decode cX5_alike 76 = .ok (.aload_n 0, 1) := by decide +kernel
theorem dX5_alike_77 : decode cX5_alike 77 = .ok (.getfield 106, 3) := by decide +kernel
theorem dX5_alike_80 : decode cX5_alike 80 = .ok (.if_icmp .ge 114, 3) := by decide +kernel
theorem dX5_alike_83 : decode cX5_alike 83 = .ok (.aload_n 0, 1) := by decide +kernel
theorem dX5_alike_84 : decode cX5_alike 84 = .ok (.getfield 85, 3) := by decide +kernel
theorem dX5_alike_87 : decode cX5_alike 87 = .ok (.iload 6, 2) := by decide +kernel
theorem dX5_alike_89 : decode cX5_alike 89 = .ok (.iaload, 1) := by decide +kernel
theorem dX5_alike_90 : decode cX5_alike 90 = .ok (.istore 7, 2) := by decide +kernel
theorem dX5_alike_92 : decode cX5_alike 92 = .ok (.aload_n 0, 1) := by decide +kernel
theorem dX5_alike_93 : decode cX5_alike 93 = .ok (.iconst 0, 1) := by decide +kernel
theorem dX5_alike_94 : decode cX5_alike 94 = .ok (.iload 7, 2) := by decide +kernel
theorem dX5_alike_96 : decode cX5_alike 96 = .ok (.invokevirtual 144, 3) := by decide +kernel
theorem dX5_alike_99 : decode cX5_alike 99 = .ok (.aload_n 0, 1) := by decide +kernel
theorem dX5_alike_100 : decode cX5_alike 100 = .ok (.iload 4, 2) := by decide +kernel
theorem dX5_alike_102 : decode cX5_alike 102 = .ok (.invokevirtual 182, 3) := by decide +kernel
theorem dX5_alike_105 : decode cX5_alike 105 = .ok (.aload_n 0, 1) := by decide +kernel
theorem dX5_alike_106 : decode cX5_alike 106 = .ok (.getfield 88, 3) := by decide +kernel
theorem dX5_alike_109 : decode cX5_alike 109 = .ok (.iload 7, 2) := by decide +kernel
theorem dX5_alike_111 : decode cX5_alike 111 = .ok (.iaload, 1) := by decide +kernel
theorem dX5_alike_112 : decode cX5_alike 112 = .ok (.aload_n 0, 1) := by decide +kernel
theorem dX5_alike_113 : decode cX5_alike 113 = .ok (.getfield 119, 3) := by decide +kernel
theorem dX5_alike_116 : decode cX5_alike 116 = .ok (.if_icmp .ne 28, 3) := by decide +kernel
theorem dX5_alike_119 : decode cX5_alike 119 = .ok (.aload_n 0, 1) := by decide +kernel
theorem dX5_alike_120 : decode cX5_alike 120 = .ok (.getfield 119, 3) := by decide +kernel
theorem dX5_alike_123 : decode cX5_alike 123 = .ok (.ifCond .gt 17, 3) := by decide +kernel
theorem dX5_alike_126 : decode cX5_alike 126 = .ok (.aload_n 0, 1) := by decide +kernel
theorem dX5_alike_127 : decode cX5_alike 127 = .ok (.getfield 91, 3) := by decide +kernel
theorem dX5_alike_130 : decode cX5_alike 130 = .ok (.iload 7, 2) := by decide +kernel
theorem dX5_alike_132 : decode cX5_alike 132 = .ok (.iaload, 1) := by decide +kernel
theorem dX5_alike_133 : decode cX5_alike 133 = .ok (.aload_n 0, 1) := by decide +kernel
theorem dX5_alike_134 : decode cX5_alike 134 = .ok (.getfield 131, 3) := by decide +kernel
theorem dX5_alike_137 : decode cX5_alike 137 = .ok (.if_icmp .ne 7, 3) := by decide +kernel
theorem dX5_alike_140 : decode cX5_alike 140 = .ok (.iconst 1, 1) := by decide +kernel
theorem dX5_alike_141 : decode cX5_alike 141 = .ok (.goto 4, 3) := by decide +kernel
theorem dX5_alike_144 : decode cX5_alike 144 = .ok (.iconst 0, 1) := by decide +kernel
theorem dX5_alike_145 : decode cX5_alike 145 = .ok (.istore 8, 2) := by decide +kernel
theorem dX5_alike_147 : decode cX5_alike 147 = .ok (.iload_n 2, 1) := by decide +kernel
theorem dX5_alike_148 : decode cX5_alike 148 = .ok (.iload 4, 2) := by decide +kernel
theorem dX5_alike_150 : decode cX5_alike 150 = .ok (.iconst 4, 1) := by decide +kernel
theorem dX5_alike_151 : decode cX5_alike 151 = .ok (.if_icmp .ne 12, 3) := by decide +kernel
theorem dX5_alike_154 : decode cX5_alike 154 = .ok (.iload 8, 2) := by decide +kernel
theorem dX5_alike_156 : decode cX5_alike 156 = .ok (.ifCond .ne 7, 3) := by decide +kernel
theorem dX5_alike_159 : decode cX5_alike 159 = .ok (.iconst 1, 1) := by decide +kernel
theorem dX5_alike_160 : decode cX5_alike 160 = .ok (.goto 4, 3) := by decide +kernel
theorem dX5_alike_163 : decode cX5_alike 163 = .ok (.iconst 0, 1) := by decide +kernel
theorem dX5_alike_164 : decode cX5_alike 164 = .ok (.iadd, 1) := by decide +kernel
theorem dX5_alike_165 : decode cX5_alike 165 = .ok (.istore_n 2, 1) := by decide +kernel
theorem dX5_alike_166 : decode cX5_alike 166 = .ok (.aload_n 0, 1) := by decide +kernel
theorem dX5_alike_167 : decode cX5_alike 167 = .ok (.getfield 88, 3) := by decide +kernel
theorem dX5_alike_170 : decode cX5_alike 170 = .ok (.iload 7, 2) := by decide +kernel
theorem dX5_alike_172 : decode cX5_alike 172 = .ok (.aload_n 0, 1) := by decide +kernel
theorem dX5_alike_173 : decode cX5_alike 173 = .ok (.getfield 119, 3) := by decide +kernel
theorem dX5_alike_176 : decode cX5_alike 176 = .ok (.iastore, 1) := by decide +kernel
theorem dX5_alike_177 : decode cX5_alike 177 = .ok (.aload_n 0, 1) := by decide +kernel
theorem dX5_alike_178 : decode cX5_alike 178 = .ok (.getfield 91, 3) := by decide +kernel
theorem dX5_alike_181 : decode cX5_alike 181 = .ok (.iload 7, 2) := by decide +kernel
theorem dX5_alike_183 : decode cX5_alike 183 = .ok (.aload_n 0, 1) := by decide +kernel
theorem dX5_alike_184 : decode cX5_alike 184 = .ok (.getfield 131, 3) := by decide +kernel
theorem dX5_alike_187 : decode cX5_alike 187 = .ok (.iastore, 1) := by decide +kernel
theorem dX5_alike_188 : decode cX5_alike 188 = .ok (.iinc 6 1, 3) := by decide +kernel
theorem dX5_alike_191 : decode cX5_alike 191 = .ok (.goto (-117), 3) := by decide +kernel
theorem dX5_alike_194 : decode cX5_alike 194 = .ok (.aload_n 0, 1) := by decide +kernel
theorem dX5_alike_195 : decode cX5_alike 195 = .ok (.getfield 106, 3) := by decide +kernel
theorem dX5_alike_198 : decode cX5_alike 198 = .ok (.iconst 1, 1) := by decide +kernel
theorem dX5_alike_199 : decode cX5_alike 199 = .ok (.isub, 1) := by decide +kernel
theorem dX5_alike_200 : decode cX5_alike 200 = .ok (.istore 6, 2) := by decide +kernel
theorem dX5_alike_202 : decode cX5_alike 202 = .ok (.iload 6, 2) := by decide +kernel
theorem dX5_alike_204 : decode cX5_alike 204 = .ok (.ifCond .le 61, 3) := by decide +kernel
theorem dX5_alike_207 : decode cX5_alike 207 = .ok (.iload_n 3, 1) := by decide +kernel
theorem dX5_alike_208 : decode cX5_alike 208 = .ok (.ldc 199, 2) := by decide +kernel
theorem dX5_alike_210 : decode cX5_alike 210 = .ok (.imul, 1) := by decide +kernel
theorem dX5_alike_211 : decode cX5_alike 211 = .ok (.sipush 12345, 3) := by decide +kernel
theorem dX5_alike_214 : decode cX5_alike 214 = .ok (.iadd, 1) := by decide +kernel
theorem dX5_alike_215 : decode cX5_alike 215 = .ok (.istore_n 3, 1) := by decide +kernel
theorem dX5_alike_216 : decode cX5_alike 216 = .ok (.iload_n 3, 1) := by decide +kernel
theorem dX5_alike_217 : decode cX5_alike 217 = .ok (.bipush 16, 2) := by decide +kernel
theorem dX5_alike_219 : decode cX5_alike 219 = .ok (.iushr, 1) := by decide +kernel
theorem dX5_alike_220 : decode cX5_alike 220 = .ok (.iload 6, 2) := by decide +kernel
theorem dX5_alike_222 : decode cX5_alike 222 = .ok (.iconst 1, 1) := by decide +kernel
theorem dX5_alike_223 : decode cX5_alike 223 = .ok (.iadd, 1) := by decide +kernel
theorem dX5_alike_224 : decode cX5_alike 224 = .ok (.irem, 1) := by decide +kernel
theorem dX5_alike_225 : decode cX5_alike 225 = .ok (.istore 7, 2) := by decide +kernel
theorem dX5_alike_227 : decode cX5_alike 227 = .ok (.aload_n 0, 1) := by decide +kernel
theorem dX5_alike_228 : decode cX5_alike 228 = .ok (.getfield 85, 3) := by decide +kernel
theorem dX5_alike_231 : decode cX5_alike 231 = .ok (.iload 6, 2) := by decide +kernel
theorem dX5_alike_233 : decode cX5_alike 233 = .ok (.iaload, 1) := by decide +kernel
theorem dX5_alike_234 : decode cX5_alike 234 = .ok (.istore 8, 2) := by decide +kernel
theorem dX5_alike_236 : decode cX5_alike 236 = .ok (.aload_n 0, 1) := by decide +kernel
theorem dX5_alike_237 : decode cX5_alike 237 = .ok (.getfield 85, 3) := by decide +kernel
theorem dX5_alike_240 : decode cX5_alike 240 = .ok (.iload 6, 2) := by decide +kernel
theorem dX5_alike_242 : decode cX5_alike 242 = .ok (.aload_n 0, 1) := by decide +kernel
theorem dX5_alike_243 : decode cX5_alike 243 = .ok (.getfield 85, 3) := by decide +kernel
theorem dX5_alike_246 : decode cX5_alike 246 = .ok (.iload 7, 2) := by decide +kernel
theorem dX5_alike_248 : decode cX5_alike 248 = .ok (.iaload, 1) := by decide +kernel
theorem dX5_alike_249 : decode cX5_alike 249 = .ok (.iastore, 1) := by decide +kernel
theorem dX5_alike_250 : decode cX5_alike 250 = .ok (.aload_n 0, 1) := by decide +kernel
theorem dX5_alike_251 : decode cX5_alike 251 = .ok (.getfield 85, 3) := by decide +kernel
theorem dX5_alike_254 : decode cX5_alike 254 = .ok (.iload 7, 2) := by decide +kernel
theorem dX5_alike_256 : decode cX5_alike 256 = .ok (.iload 8, 2) := by decide +kernel
theorem dX5_alike_258 : decode cX5_alike 258 = .ok (.iastore, 1) := by decide +kernel
theorem dX5_alike_259 : decode cX5_alike 259 = .ok (.iinc 6 (-1), 3) := by decide +kernel
theorem dX5_alike_262 : decode cX5_alike 262 = .ok (.goto (-60), 3) := by decide +kernel
theorem dX5_alike_265 : decode cX5_alike 265 = .ok (.iinc 4 1, 3) := by decide +kernel
theorem dX5_alike_268 : decode cX5_alike 268 = .ok (.goto (-211), 3) := by decide +kernel
theorem dX5_alike_271 : decode cX5_alike 271 = .ok (.iload_n 2, 1) := by decide +kernel
theorem dX5_alike_272 : decode cX5_alike 272 = .ok (.ireturn, 1) := by decide +kernel
theorem dX5_told_0 : decode cX5_told 0 = .ok (.iload_n 1, 1) := by decide +kernel
theorem dX5_told_1 : decode cX5_told 1 = .ok (.tableswitch 51 0 3 #[31, 36, 41, 46], 31) := by decide +kernel
theorem dX5_told_32 : decode cX5_told 32 = .ok (.aload_n 0, 1) := by decide +kernel
theorem dX5_told_33 : decode cX5_told 33 = .ok (.getfield 94, 3) := by decide +kernel
theorem dX5_told_36 : decode cX5_told 36 = .ok (.ireturn, 1) := by decide +kernel
theorem dX5_told_37 : decode cX5_told 37 = .ok (.aload_n 0, 1) := by decide +kernel
theorem dX5_told_38 : decode cX5_told 38 = .ok (.getfield 106, 3) := by decide +kernel
theorem dX5_told_41 : decode cX5_told 41 = .ok (.ireturn, 1) := by decide +kernel
theorem dX5_told_42 : decode cX5_told 42 = .ok (.aload_n 0, 1) := by decide +kernel
theorem dX5_told_43 : decode cX5_told 43 = .ok (.getfield 116, 3) := by decide +kernel
theorem dX5_told_46 : decode cX5_told 46 = .ok (.ireturn, 1) := by decide +kernel
theorem dX5_told_47 : decode cX5_told 47 = .ok (.aload_n 0, 1) := by decide +kernel
theorem dX5_told_48 : decode cX5_told 48 = .ok (.getfield 164, 3) := by decide +kernel
theorem dX5_told_51 : decode cX5_told 51 = .ok (.ireturn, 1) := by decide +kernel
theorem dX5_told_52 : decode cX5_told 52 = .ok (.iconst (-1), 1) := by decide +kernel
theorem dX5_told_53 : decode cX5_told 53 = .ok (.ireturn, 1) := by decide +kernel
end
section
theorem dL_law_0 : decode cL_law 0 = .ok (.new 7, 3) := by decide +kernel
theorem dL_law_3 : decode cL_law 3 = .ok (.dup, 1) := by decide +kernel
theorem dL_law_4 : decode cL_law 4 = .ok (.invokespecial 9, 3) := by decide +kernel
theorem dL_law_7 : decode cL_law 7 = .ok (.astore_n 1, 1) := by decide +kernel
theorem dL_law_8 : decode cL_law 8 = .ok (.new 10, 3) := by decide +kernel
theorem dL_law_11 : decode cL_law 11 = .ok (.dup, 1) := by decide +kernel
theorem dL_law_12 : decode cL_law 12 = .ok (.invokespecial 12, 3) := by decide +kernel
theorem dL_law_15 : decode cL_law 15 = .ok (.astore_n 2, 1) := by decide +kernel
theorem dL_law_16 : decode cL_law 16 = .ok (.iconst 0, 1) := by decide +kernel
theorem dL_law_17 : decode cL_law 17 = .ok (.istore_n 3, 1) := by decide +kernel
theorem dL_law_18 : decode cL_law 18 = .ok (.iload_n 3, 1) := by decide +kernel
theorem dL_law_19 : decode cL_law 19 = .ok (.aload_n 0, 1) := by decide +kernel
theorem dL_law_20 : decode cL_law 20 = .ok (.arraylength, 1) := by decide +kernel
theorem dL_law_21 : decode cL_law 21 = .ok (.bipush 6, 2) := by decide +kernel
theorem dL_law_23 : decode cL_law 23 = .ok (.isub, 1) := by decide +kernel
theorem dL_law_24 : decode cL_law 24 = .ok (.if_icmp .gt 612, 3) := by decide +kernel
theorem dL_law_27 : decode cL_law 27 = .ok (.aload_n 0, 1) := by decide +kernel
theorem dL_law_28 : decode cL_law 28 = .ok (.iload_n 3, 1) := by decide +kernel
theorem dL_law_29 : decode cL_law 29 = .ok (.iaload, 1) := by decide +kernel
theorem dL_law_30 : decode cL_law 30 = .ok (.bipush 15, 2) := by decide +kernel
theorem dL_law_32 : decode cL_law 32 = .ok (.iand, 1) := by decide +kernel
theorem dL_law_33 : decode cL_law 33 = .ok (.tableswitch 597 0 15 #[79, 102, 145, 178, 221, 284, 317, 330, 363, 386, 419, 452, 495, 528, 551, 574], 79) := by decide +kernel
theorem dL_law_112 : decode cL_law 112 = .ok (.aload_n 1, 1) := by decide +kernel
theorem dL_law_113 : decode cL_law 113 = .ok (.aload_n 0, 1) := by decide +kernel
theorem dL_law_114 : decode cL_law 114 = .ok (.iload_n 3, 1) := by decide +kernel
theorem dL_law_115 : decode cL_law 115 = .ok (.iconst 1, 1) := by decide +kernel
theorem dL_law_116 : decode cL_law 116 = .ok (.iadd, 1) := by decide +kernel
theorem dL_law_117 : decode cL_law 117 = .ok (.iaload, 1) := by decide +kernel
theorem dL_law_118 : decode cL_law 118 = .ok (.invokevirtual 13, 3) := by decide +kernel
theorem dL_law_121 : decode cL_law 121 = .ok (.aload_n 2, 1) := by decide +kernel
theorem dL_law_122 : decode cL_law 122 = .ok (.aload_n 0, 1) := by decide +kernel
theorem dL_law_123 : decode cL_law 123 = .ok (.iload_n 3, 1) := by decide +kernel
theorem dL_law_124 : decode cL_law 124 = .ok (.iconst 1, 1) := by decide +kernel
theorem dL_law_125 : decode cL_law 125 = .ok (.iadd, 1) := by decide +kernel
theorem dL_law_126 : decode cL_law 126 = .ok (.iaload, 1) := by decide +kernel
theorem dL_law_127 : decode cL_law 127 = .ok (.invokevirtual 17, 3) := by decide +kernel
theorem dL_law_130 : decode cL_law 130 = .ok (.if_icmp .eq 500, 3) := by decide +kernel
theorem dL_law_133 : decode cL_law 133 = .ok (.iconst 0, 1) := by decide +kernel
theorem dL_law_134 : decode cL_law 134 = .ok (.ireturn, 1) := by decide +kernel
theorem dL_law_135 : decode cL_law 135 = .ok (.aload_n 1, 1) := by decide +kernel
theorem dL_law_136 : decode cL_law 136 = .ok (.aload_n 0, 1) := by decide +kernel
theorem dL_law_137 : decode cL_law 137 = .ok (.iload_n 3, 1) := by decide +kernel
theorem dL_law_138 : decode cL_law 138 = .ok (.iconst 1, 1) := by decide +kernel
theorem dL_law_139 : decode cL_law 139 = .ok (.iadd, 1) := by decide +kernel
theorem dL_law_140 : decode cL_law 140 = .ok (.iaload, 1) := by decide +kernel
theorem dL_law_141 : decode cL_law 141 = .ok (.aload_n 0, 1) := by decide +kernel
theorem dL_law_142 : decode cL_law 142 = .ok (.iload_n 3, 1) := by decide +kernel
theorem dL_law_143 : decode cL_law 143 = .ok (.iconst 2, 1) := by decide +kernel
theorem dL_law_144 : decode cL_law 144 = .ok (.iadd, 1) := by decide +kernel
theorem dL_law_145 : decode cL_law 145 = .ok (.iaload, 1) := by decide +kernel
theorem dL_law_146 : decode cL_law 146 = .ok (.aload_n 0, 1) := by decide +kernel
theorem dL_law_147 : decode cL_law 147 = .ok (.iload_n 3, 1) := by decide +kernel
theorem dL_law_148 : decode cL_law 148 = .ok (.iconst 3, 1) := by decide +kernel
theorem dL_law_149 : decode cL_law 149 = .ok (.iadd, 1) := by decide +kernel
theorem dL_law_150 : decode cL_law 150 = .ok (.iaload, 1) := by decide +kernel
theorem dL_law_151 : decode cL_law 151 = .ok (.invokevirtual 18, 3) := by decide +kernel
theorem dL_law_154 : decode cL_law 154 = .ok (.aload_n 2, 1) := by decide +kernel
theorem dL_law_155 : decode cL_law 155 = .ok (.aload_n 0, 1) := by decide +kernel
theorem dL_law_156 : decode cL_law 156 = .ok (.iload_n 3, 1) := by decide +kernel
theorem dL_law_157 : decode cL_law 157 = .ok (.iconst 1, 1) := by decide +kernel
theorem dL_law_158 : decode cL_law 158 = .ok (.iadd, 1) := by decide +kernel
theorem dL_law_159 : decode cL_law 159 = .ok (.iaload, 1) := by decide +kernel
theorem dL_law_160 : decode cL_law 160 = .ok (.aload_n 0, 1) := by decide +kernel
theorem dL_law_161 : decode cL_law 161 = .ok (.iload_n 3, 1) := by decide +kernel
theorem dL_law_162 : decode cL_law 162 = .ok (.iconst 2, 1) := by decide +kernel
theorem dL_law_163 : decode cL_law 163 = .ok (.iadd, 1) := by decide +kernel
theorem dL_law_164 : decode cL_law 164 = .ok (.iaload, 1) := by decide +kernel
theorem dL_law_165 : decode cL_law 165 = .ok (.aload_n 0, 1) := by decide +kernel
theorem dL_law_166 : decode cL_law 166 = .ok (.iload_n 3, 1) := by decide +kernel
theorem dL_law_167 : decode cL_law 167 = .ok (.iconst 3, 1) := by decide +kernel
theorem dL_law_168 : decode cL_law 168 = .ok (.iadd, 1) := by decide +kernel
theorem dL_law_169 : decode cL_law 169 = .ok (.iaload, 1) := by decide +kernel
theorem dL_law_170 : decode cL_law 170 = .ok (.invokevirtual 22, 3) := by decide +kernel
theorem dL_law_173 : decode cL_law 173 = .ok (.if_icmp .eq 457, 3) := by decide +kernel
theorem dL_law_176 : decode cL_law 176 = .ok (.iconst 0, 1) := by decide +kernel
theorem dL_law_177 : decode cL_law 177 = .ok (.ireturn, 1) := by decide +kernel
theorem dL_law_178 : decode cL_law 178 = .ok (.aload_n 1, 1) := by decide +kernel
theorem dL_law_179 : decode cL_law 179 = .ok (.aload_n 0, 1) := by decide +kernel
theorem dL_law_180 : decode cL_law 180 = .ok (.iload_n 3, 1) := by decide +kernel
theorem dL_law_181 : decode cL_law 181 = .ok (.iconst 1, 1) := by decide +kernel
theorem dL_law_182 : decode cL_law 182 = .ok (.iadd, 1) := by decide +kernel
theorem dL_law_183 : decode cL_law 183 = .ok (.iaload, 1) := by decide +kernel
theorem dL_law_184 : decode cL_law 184 = .ok (.aload_n 0, 1) := by decide +kernel
theorem dL_law_185 : decode cL_law 185 = .ok (.iload_n 3, 1) := by decide +kernel
theorem dL_law_186 : decode cL_law 186 = .ok (.iconst 2, 1) := by decide +kernel
theorem dL_law_187 : decode cL_law 187 = .ok (.iadd, 1) := by decide +kernel
theorem dL_law_188 : decode cL_law 188 = .ok (.iaload, 1) := by decide +kernel
theorem dL_law_189 : decode cL_law 189 = .ok (.invokevirtual 23, 3) := by decide +kernel
theorem dL_law_192 : decode cL_law 192 = .ok (.aload_n 2, 1) := by decide +kernel
theorem dL_law_193 : decode cL_law 193 = .ok (.aload_n 0, 1) := by decide +kernel
theorem dL_law_194 : decode cL_law 194 = .ok (.iload_n 3, 1) := by decide +kernel
theorem dL_law_195 : decode cL_law 195 = .ok (.iconst 1, 1) := by decide +kernel
theorem dL_law_196 : decode cL_law 196 = .ok (.iadd, 1) := by decide +kernel
theorem dL_law_197 : decode cL_law 197 = .ok (.iaload, 1) := by decide +kernel
theorem dL_law_198 : decode cL_law 198 = .ok (.aload_n 0, 1) := by decide +kernel
theorem dL_law_199 : decode cL_law 199 = .ok (.iload_n 3, 1) := by decide +kernel
theorem dL_law_200 : decode cL_law 200 = .ok (.iconst 2, 1) := by decide +kernel
theorem dL_law_201 : decode cL_law 201 = .ok (.iadd, 1) := by decide +kernel
theorem dL_law_202 : decode cL_law 202 = .ok (.iaload, 1) := by decide +kernel
theorem dL_law_203 : decode cL_law 203 = .ok (.invokevirtual 27, 3) := by decide +kernel
theorem dL_law_206 : decode cL_law 206 = .ok (.if_icmp .eq 424, 3) := by decide +kernel
theorem dL_law_209 : decode cL_law 209 = .ok (.iconst 0, 1) := by decide +kernel
theorem dL_law_210 : decode cL_law 210 = .ok (.ireturn, 1) := by decide +kernel
theorem dL_law_211 : decode cL_law 211 = .ok (.aload_n 1, 1) := by decide +kernel
theorem dL_law_212 : decode cL_law 212 = .ok (.aload_n 0, 1) := by decide +kernel
theorem dL_law_213 : decode cL_law 213 = .ok (.iload_n 3, 1) := by decide +kernel
theorem dL_law_214 : decode cL_law 214 = .ok (.iconst 1, 1) := by decide +kernel
theorem dL_law_215 : decode cL_law 215 = .ok (.iadd, 1) := by decide +kernel
theorem dL_law_216 : decode cL_law 216 = .ok (.iaload, 1) := by decide +kernel
theorem dL_law_217 : decode cL_law 217 = .ok (.aload_n 0, 1) := by decide +kernel
theorem dL_law_218 : decode cL_law 218 = .ok (.iload_n 3, 1) := by decide +kernel
theorem dL_law_219 : decode cL_law 219 = .ok (.iconst 2, 1) := by decide +kernel
theorem dL_law_220 : decode cL_law 220 = .ok (.iadd, 1) := by decide +kernel
theorem dL_law_221 : decode cL_law 221 = .ok (.iaload, 1) := by decide +kernel
theorem dL_law_222 : decode cL_law 222 = .ok (.aload_n 0, 1) := by decide +kernel
theorem dL_law_223 : decode cL_law 223 = .ok (.iload_n 3, 1) := by decide +kernel
theorem dL_law_224 : decode cL_law 224 = .ok (.iconst 3, 1) := by decide +kernel
theorem dL_law_225 : decode cL_law 225 = .ok (.iadd, 1) := by decide +kernel
theorem dL_law_226 : decode cL_law 226 = .ok (.iaload, 1) := by decide +kernel
theorem dL_law_227 : decode cL_law 227 = .ok (.invokevirtual 28, 3) := by decide +kernel
theorem dL_law_230 : decode cL_law 230 = .ok (.aload_n 2, 1) := by decide +kernel
theorem dL_law_231 : decode cL_law 231 = .ok (.aload_n 0, 1) := by decide +kernel
theorem dL_law_232 : decode cL_law 232 = .ok (.iload_n 3, 1) := by decide +kernel
theorem dL_law_233 : decode cL_law 233 = .ok (.iconst 1, 1) := by decide +kernel
theorem dL_law_234 : decode cL_law 234 = .ok (.iadd, 1) := by decide +kernel
theorem dL_law_235 : decode cL_law 235 = .ok (.iaload, 1) := by decide +kernel
theorem dL_law_236 : decode cL_law 236 = .ok (.aload_n 0, 1) := by decide +kernel
theorem dL_law_237 : decode cL_law 237 = .ok (.iload_n 3, 1) := by decide +kernel
theorem dL_law_238 : decode cL_law 238 = .ok (.iconst 2, 1) := by decide +kernel
theorem dL_law_239 : decode cL_law 239 = .ok (.iadd, 1) := by decide +kernel
theorem dL_law_240 : decode cL_law 240 = .ok (.iaload, 1) := by decide +kernel
theorem dL_law_241 : decode cL_law 241 = .ok (.aload_n 0, 1) := by decide +kernel
theorem dL_law_242 : decode cL_law 242 = .ok (.iload_n 3, 1) := by decide +kernel
theorem dL_law_243 : decode cL_law 243 = .ok (.iconst 3, 1) := by decide +kernel
theorem dL_law_244 : decode cL_law 244 = .ok (.iadd, 1) := by decide +kernel
theorem dL_law_245 : decode cL_law 245 = .ok (.iaload, 1) := by decide +kernel
theorem dL_law_246 : decode cL_law 246 = .ok (.invokevirtual 31, 3) := by decide +kernel
theorem dL_law_249 : decode cL_law 249 = .ok (.if_icmp .eq 381, 3) := by decide +kernel
theorem dL_law_252 : decode cL_law 252 = .ok (.iconst 0, 1) := by decide +kernel
theorem dL_law_253 : decode cL_law 253 = .ok (.ireturn, 1) := by decide +kernel
theorem dL_law_254 : decode cL_law 254 = .ok (.aload_n 1, 1) := by decide +kernel
theorem dL_law_255 : decode cL_law 255 = .ok (.aload_n 0, 1) := by decide +kernel
theorem dL_law_256 : decode cL_law 256 = .ok (.iload_n 3, 1) := by decide +kernel
theorem dL_law_257 : decode cL_law 257 = .ok (.iconst 1, 1) := by decide +kernel
theorem dL_law_258 : decode cL_law 258 = .ok (.iadd, 1) := by decide +kernel
theorem dL_law_259 : decode cL_law 259 = .ok (.iaload, 1) := by decide +kernel
theorem dL_law_260 : decode cL_law 260 = .ok (.aload_n 0, 1) := by decide +kernel
theorem dL_law_261 : decode cL_law 261 = .ok (.iload_n 3, 1) := by decide +kernel
theorem dL_law_262 : decode cL_law 262 = .ok (.iconst 2, 1) := by decide +kernel
theorem dL_law_263 : decode cL_law 263 = .ok (.iadd, 1) := by decide +kernel
theorem dL_law_264 : decode cL_law 264 = .ok (.iaload, 1) := by decide +kernel
theorem dL_law_265 : decode cL_law 265 = .ok (.aload_n 0, 1) := by decide +kernel
theorem dL_law_266 : decode cL_law 266 = .ok (.iload_n 3, 1) := by decide +kernel
theorem dL_law_267 : decode cL_law 267 = .ok (.iconst 3, 1) := by decide +kernel
theorem dL_law_268 : decode cL_law 268 = .ok (.iadd, 1) := by decide +kernel
theorem dL_law_269 : decode cL_law 269 = .ok (.iaload, 1) := by decide +kernel
theorem dL_law_270 : decode cL_law 270 = .ok (.aload_n 0, 1) := by decide +kernel
theorem dL_law_271 : decode cL_law 271 = .ok (.iload_n 3, 1) := by decide +kernel
theorem dL_law_272 : decode cL_law 272 = .ok (.iconst 4, 1) := by decide +kernel
theorem dL_law_273 : decode cL_law 273 = .ok (.iadd, 1) := by decide +kernel
theorem dL_law_274 : decode cL_law 274 = .ok (.iaload, 1) := by decide +kernel
theorem dL_law_275 : decode cL_law 275 = .ok (.aload_n 0, 1) := by decide +kernel
theorem dL_law_276 : decode cL_law 276 = .ok (.iload_n 3, 1) := by decide +kernel
theorem dL_law_277 : decode cL_law 277 = .ok (.iconst 5, 1) := by decide +kernel
theorem dL_law_278 : decode cL_law 278 = .ok (.iadd, 1) := by decide +kernel
theorem dL_law_279 : decode cL_law 279 = .ok (.iaload, 1) := by decide +kernel
theorem dL_law_280 : decode cL_law 280 = .ok (.invokevirtual 32, 3) := by decide +kernel
theorem dL_law_283 : decode cL_law 283 = .ok (.aload_n 2, 1) := by decide +kernel
theorem dL_law_284 : decode cL_law 284 = .ok (.aload_n 0, 1) := by decide +kernel
theorem dL_law_285 : decode cL_law 285 = .ok (.iload_n 3, 1) := by decide +kernel
theorem dL_law_286 : decode cL_law 286 = .ok (.iconst 1, 1) := by decide +kernel
theorem dL_law_287 : decode cL_law 287 = .ok (.iadd, 1) := by decide +kernel
theorem dL_law_288 : decode cL_law 288 = .ok (.iaload, 1) := by decide +kernel
theorem dL_law_289 : decode cL_law 289 = .ok (.aload_n 0, 1) := by decide +kernel
theorem dL_law_290 : decode cL_law 290 = .ok (.iload_n 3, 1) := by decide +kernel
theorem dL_law_291 : decode cL_law 291 = .ok (.iconst 2, 1) := by decide +kernel
theorem dL_law_292 : decode cL_law 292 = .ok (.iadd, 1) := by decide +kernel
theorem dL_law_293 : decode cL_law 293 = .ok (.iaload, 1) := by decide +kernel
theorem dL_law_294 : decode cL_law 294 = .ok (.aload_n 0, 1) := by decide +kernel
theorem dL_law_295 : decode cL_law 295 = .ok (.iload_n 3, 1) := by decide +kernel
theorem dL_law_296 : decode cL_law 296 = .ok (.iconst 3, 1) := by decide +kernel
theorem dL_law_297 : decode cL_law 297 = .ok (.iadd, 1) := by decide +kernel
theorem dL_law_298 : decode cL_law 298 = .ok (.iaload, 1) := by decide +kernel
theorem dL_law_299 : decode cL_law 299 = .ok (.aload_n 0, 1) := by decide +kernel
theorem dL_law_300 : decode cL_law 300 = .ok (.iload_n 3, 1) := by decide +kernel
theorem dL_law_301 : decode cL_law 301 = .ok (.iconst 4, 1) := by decide +kernel
theorem dL_law_302 : decode cL_law 302 = .ok (.iadd, 1) := by decide +kernel
theorem dL_law_303 : decode cL_law 303 = .ok (.iaload, 1) := by decide +kernel
theorem dL_law_304 : decode cL_law 304 = .ok (.aload_n 0, 1) := by decide +kernel
theorem dL_law_305 : decode cL_law 305 = .ok (.iload_n 3, 1) := by decide +kernel
theorem dL_law_306 : decode cL_law 306 = .ok (.iconst 5, 1) := by decide +kernel
theorem dL_law_307 : decode cL_law 307 = .ok (.iadd, 1) := by decide +kernel
theorem dL_law_308 : decode cL_law 308 = .ok (.iaload, 1) := by decide +kernel
theorem dL_law_309 : decode cL_law 309 = .ok (.invokevirtual 36, 3) := by decide +kernel
theorem dL_law_312 : decode cL_law 312 = .ok (.if_icmp .eq 318, 3) := by decide +kernel
theorem dL_law_315 : decode cL_law 315 = .ok (.iconst 0, 1) := by decide +kernel
theorem dL_law_316 : decode cL_law 316 = .ok (.ireturn, 1) := by decide +kernel
theorem dL_law_317 : decode cL_law 317 = .ok (.aload_n 1, 1) := by decide +kernel
theorem dL_law_318 : decode cL_law 318 = .ok (.aload_n 0, 1) := by decide +kernel
theorem dL_law_319 : decode cL_law 319 = .ok (.iload_n 3, 1) := by decide +kernel
theorem dL_law_320 : decode cL_law 320 = .ok (.iconst 1, 1) := by decide +kernel
theorem dL_law_321 : decode cL_law 321 = .ok (.iadd, 1) := by decide +kernel
theorem dL_law_322 : decode cL_law 322 = .ok (.iaload, 1) := by decide +kernel
theorem dL_law_323 : decode cL_law 323 = .ok (.aload_n 0, 1) := by decide +kernel
theorem dL_law_324 : decode cL_law 324 = .ok (.iload_n 3, 1) := by decide +kernel
theorem dL_law_325 : decode cL_law 325 = .ok (.iconst 2, 1) := by decide +kernel
theorem dL_law_326 : decode cL_law 326 = .ok (.iadd, 1) := by decide +kernel
theorem dL_law_327 : decode cL_law 327 = .ok (.iaload, 1) := by decide +kernel
theorem dL_law_328 : decode cL_law 328 = .ok (.invokevirtual 37, 3) := by decide +kernel
theorem dL_law_331 : decode cL_law 331 = .ok (.aload_n 2, 1) := by decide +kernel
theorem dL_law_332 : decode cL_law 332 = .ok (.aload_n 0, 1) := by decide +kernel
theorem dL_law_333 : decode cL_law 333 = .ok (.iload_n 3, 1) := by decide +kernel
theorem dL_law_334 : decode cL_law 334 = .ok (.iconst 1, 1) := by decide +kernel
theorem dL_law_335 : decode cL_law 335 = .ok (.iadd, 1) := by decide +kernel
theorem dL_law_336 : decode cL_law 336 = .ok (.iaload, 1) := by decide +kernel
theorem dL_law_337 : decode cL_law 337 = .ok (.aload_n 0, 1) := by decide +kernel
theorem dL_law_338 : decode cL_law 338 = .ok (.iload_n 3, 1) := by decide +kernel
theorem dL_law_339 : decode cL_law 339 = .ok (.iconst 2, 1) := by decide +kernel
theorem dL_law_340 : decode cL_law 340 = .ok (.iadd, 1) := by decide +kernel
theorem dL_law_341 : decode cL_law 341 = .ok (.iaload, 1) := by decide +kernel
theorem dL_law_342 : decode cL_law 342 = .ok (.invokevirtual 40, 3) := by decide +kernel
theorem dL_law_345 : decode cL_law 345 = .ok (.if_icmp .eq 285, 3) := by decide +kernel
theorem dL_law_348 : decode cL_law 348 = .ok (.iconst 0, 1) := by decide +kernel
theorem dL_law_349 : decode cL_law 349 = .ok (.ireturn, 1) := by decide +kernel
theorem dL_law_350 : decode cL_law 350 = .ok (.aload_n 1, 1) := by decide +kernel
theorem dL_law_351 : decode cL_law 351 = .ok (.invokevirtual 41, 3) := by decide +kernel
theorem dL_law_354 : decode cL_law 354 = .ok (.aload_n 2, 1) := by decide +kernel
theorem dL_law_355 : decode cL_law 355 = .ok (.invokevirtual 45, 3) := by decide +kernel
theorem dL_law_358 : decode cL_law 358 = .ok (.if_icmp .eq 272, 3) := by decide +kernel
theorem dL_law_361 : decode cL_law 361 = .ok (.iconst 0, 1) := by decide +kernel
theorem dL_law_362 : decode cL_law 362 = .ok (.ireturn, 1) := by decide +kernel
theorem dL_law_363 : decode cL_law 363 = .ok (.aload_n 1, 1) := by decide +kernel
theorem dL_law_364 : decode cL_law 364 = .ok (.aload_n 0, 1) := by decide +kernel
theorem dL_law_365 : decode cL_law 365 = .ok (.iload_n 3, 1) := by decide +kernel
theorem dL_law_366 : decode cL_law 366 = .ok (.iconst 1, 1) := by decide +kernel
theorem dL_law_367 : decode cL_law 367 = .ok (.iadd, 1) := by decide +kernel
theorem dL_law_368 : decode cL_law 368 = .ok (.iaload, 1) := by decide +kernel
theorem dL_law_369 : decode cL_law 369 = .ok (.aload_n 0, 1) := by decide +kernel
theorem dL_law_370 : decode cL_law 370 = .ok (.iload_n 3, 1) := by decide +kernel
theorem dL_law_371 : decode cL_law 371 = .ok (.iconst 2, 1) := by decide +kernel
theorem dL_law_372 : decode cL_law 372 = .ok (.iadd, 1) := by decide +kernel
theorem dL_law_373 : decode cL_law 373 = .ok (.iaload, 1) := by decide +kernel
theorem dL_law_374 : decode cL_law 374 = .ok (.invokevirtual 46, 3) := by decide +kernel
theorem dL_law_377 : decode cL_law 377 = .ok (.aload_n 2, 1) := by decide +kernel
theorem dL_law_378 : decode cL_law 378 = .ok (.aload_n 0, 1) := by decide +kernel
theorem dL_law_379 : decode cL_law 379 = .ok (.iload_n 3, 1) := by decide +kernel
theorem dL_law_380 : decode cL_law 380 = .ok (.iconst 1, 1) := by decide +kernel
theorem dL_law_381 : decode cL_law 381 = .ok (.iadd, 1) := by decide +kernel
theorem dL_law_382 : decode cL_law 382 = .ok (.iaload, 1) := by decide +kernel
theorem dL_law_383 : decode cL_law 383 = .ok (.aload_n 0, 1) := by decide +kernel
theorem dL_law_384 : decode cL_law 384 = .ok (.iload_n 3, 1) := by decide +kernel
theorem dL_law_385 : decode cL_law 385 = .ok (.iconst 2, 1) := by decide +kernel
theorem dL_law_386 : decode cL_law 386 = .ok (.iadd, 1) := by decide +kernel
theorem dL_law_387 : decode cL_law 387 = .ok (.iaload, 1) := by decide +kernel
theorem dL_law_388 : decode cL_law 388 = .ok (.invokevirtual 49, 3) := by decide +kernel
theorem dL_law_391 : decode cL_law 391 = .ok (.if_icmp .eq 239, 3) := by decide +kernel
theorem dL_law_394 : decode cL_law 394 = .ok (.iconst 0, 1) := by decide +kernel
theorem dL_law_395 : decode cL_law 395 = .ok (.ireturn, 1) := by decide +kernel
theorem dL_law_396 : decode cL_law 396 = .ok (.aload_n 1, 1) := by decide +kernel
theorem dL_law_397 : decode cL_law 397 = .ok (.aload_n 0, 1) := by decide +kernel
theorem dL_law_398 : decode cL_law 398 = .ok (.iload_n 3, 1) := by decide +kernel
theorem dL_law_399 : decode cL_law 399 = .ok (.iconst 1, 1) := by decide +kernel
theorem dL_law_400 : decode cL_law 400 = .ok (.iadd, 1) := by decide +kernel
theorem dL_law_401 : decode cL_law 401 = .ok (.iaload, 1) := by decide +kernel
theorem dL_law_402 : decode cL_law 402 = .ok (.invokevirtual 50, 3) := by decide +kernel
theorem dL_law_405 : decode cL_law 405 = .ok (.aload_n 2, 1) := by decide +kernel
theorem dL_law_406 : decode cL_law 406 = .ok (.aload_n 0, 1) := by decide +kernel
theorem dL_law_407 : decode cL_law 407 = .ok (.iload_n 3, 1) := by decide +kernel
theorem dL_law_408 : decode cL_law 408 = .ok (.iconst 1, 1) := by decide +kernel
theorem dL_law_409 : decode cL_law 409 = .ok (.iadd, 1) := by decide +kernel
theorem dL_law_410 : decode cL_law 410 = .ok (.iaload, 1) := by decide +kernel
theorem dL_law_411 : decode cL_law 411 = .ok (.invokevirtual 53, 3) := by decide +kernel
theorem dL_law_414 : decode cL_law 414 = .ok (.if_icmp .eq 216, 3) := by decide +kernel
theorem dL_law_417 : decode cL_law 417 = .ok (.iconst 0, 1) := by decide +kernel
theorem dL_law_418 : decode cL_law 418 = .ok (.ireturn, 1) := by decide +kernel
theorem dL_law_419 : decode cL_law 419 = .ok (.aload_n 1, 1) := by decide +kernel
theorem dL_law_420 : decode cL_law 420 = .ok (.aload_n 0, 1) := by decide +kernel
theorem dL_law_421 : decode cL_law 421 = .ok (.iload_n 3, 1) := by decide +kernel
theorem dL_law_422 : decode cL_law 422 = .ok (.iconst 1, 1) := by decide +kernel
theorem dL_law_423 : decode cL_law 423 = .ok (.iadd, 1) := by decide +kernel
theorem dL_law_424 : decode cL_law 424 = .ok (.iaload, 1) := by decide +kernel
theorem dL_law_425 : decode cL_law 425 = .ok (.aload_n 0, 1) := by decide +kernel
theorem dL_law_426 : decode cL_law 426 = .ok (.iload_n 3, 1) := by decide +kernel
theorem dL_law_427 : decode cL_law 427 = .ok (.iconst 2, 1) := by decide +kernel
theorem dL_law_428 : decode cL_law 428 = .ok (.iadd, 1) := by decide +kernel
theorem dL_law_429 : decode cL_law 429 = .ok (.iaload, 1) := by decide +kernel
theorem dL_law_430 : decode cL_law 430 = .ok (.invokevirtual 54, 3) := by decide +kernel
theorem dL_law_433 : decode cL_law 433 = .ok (.aload_n 2, 1) := by decide +kernel
theorem dL_law_434 : decode cL_law 434 = .ok (.aload_n 0, 1) := by decide +kernel
theorem dL_law_435 : decode cL_law 435 = .ok (.iload_n 3, 1) := by decide +kernel
theorem dL_law_436 : decode cL_law 436 = .ok (.iconst 1, 1) := by decide +kernel
theorem dL_law_437 : decode cL_law 437 = .ok (.iadd, 1) := by decide +kernel
theorem dL_law_438 : decode cL_law 438 = .ok (.iaload, 1) := by decide +kernel
theorem dL_law_439 : decode cL_law 439 = .ok (.aload_n 0, 1) := by decide +kernel
theorem dL_law_440 : decode cL_law 440 = .ok (.iload_n 3, 1) := by decide +kernel
theorem dL_law_441 : decode cL_law 441 = .ok (.iconst 2, 1) := by decide +kernel
theorem dL_law_442 : decode cL_law 442 = .ok (.iadd, 1) := by decide +kernel
theorem dL_law_443 : decode cL_law 443 = .ok (.iaload, 1) := by decide +kernel
theorem dL_law_444 : decode cL_law 444 = .ok (.invokevirtual 57, 3) := by decide +kernel
theorem dL_law_447 : decode cL_law 447 = .ok (.if_icmp .eq 183, 3) := by decide +kernel
theorem dL_law_450 : decode cL_law 450 = .ok (.iconst 0, 1) := by decide +kernel
theorem dL_law_451 : decode cL_law 451 = .ok (.ireturn, 1) := by decide +kernel
theorem dL_law_452 : decode cL_law 452 = .ok (.aload_n 1, 1) := by decide +kernel
theorem dL_law_453 : decode cL_law 453 = .ok (.aload_n 0, 1) := by decide +kernel
theorem dL_law_454 : decode cL_law 454 = .ok (.iload_n 3, 1) := by decide +kernel
theorem dL_law_455 : decode cL_law 455 = .ok (.iconst 1, 1) := by decide +kernel
theorem dL_law_456 : decode cL_law 456 = .ok (.iadd, 1) := by decide +kernel
theorem dL_law_457 : decode cL_law 457 = .ok (.iaload, 1) := by decide +kernel
theorem dL_law_458 : decode cL_law 458 = .ok (.aload_n 0, 1) := by decide +kernel
theorem dL_law_459 : decode cL_law 459 = .ok (.iload_n 3, 1) := by decide +kernel
theorem dL_law_460 : decode cL_law 460 = .ok (.iconst 2, 1) := by decide +kernel
theorem dL_law_461 : decode cL_law 461 = .ok (.iadd, 1) := by decide +kernel
theorem dL_law_462 : decode cL_law 462 = .ok (.iaload, 1) := by decide +kernel
theorem dL_law_463 : decode cL_law 463 = .ok (.invokevirtual 58, 3) := by decide +kernel
theorem dL_law_466 : decode cL_law 466 = .ok (.aload_n 2, 1) := by decide +kernel
theorem dL_law_467 : decode cL_law 467 = .ok (.aload_n 0, 1) := by decide +kernel
theorem dL_law_468 : decode cL_law 468 = .ok (.iload_n 3, 1) := by decide +kernel
theorem dL_law_469 : decode cL_law 469 = .ok (.iconst 1, 1) := by decide +kernel
theorem dL_law_470 : decode cL_law 470 = .ok (.iadd, 1) := by decide +kernel
theorem dL_law_471 : decode cL_law 471 = .ok (.iaload, 1) := by decide +kernel
theorem dL_law_472 : decode cL_law 472 = .ok (.aload_n 0, 1) := by decide +kernel
theorem dL_law_473 : decode cL_law 473 = .ok (.iload_n 3, 1) := by decide +kernel
theorem dL_law_474 : decode cL_law 474 = .ok (.iconst 2, 1) := by decide +kernel
theorem dL_law_475 : decode cL_law 475 = .ok (.iadd, 1) := by decide +kernel
theorem dL_law_476 : decode cL_law 476 = .ok (.iaload, 1) := by decide +kernel
theorem dL_law_477 : decode cL_law 477 = .ok (.invokevirtual 61, 3) := by decide +kernel
theorem dL_law_480 : decode cL_law 480 = .ok (.if_icmp .eq 150, 3) := by decide +kernel
theorem dL_law_483 : decode cL_law 483 = .ok (.iconst 0, 1) := by decide +kernel
theorem dL_law_484 : decode cL_law 484 = .ok (.ireturn, 1) := by decide +kernel
theorem dL_law_485 : decode cL_law 485 = .ok (.aload_n 1, 1) := by decide +kernel
theorem dL_law_486 : decode cL_law 486 = .ok (.aload_n 0, 1) := by decide +kernel
theorem dL_law_487 : decode cL_law 487 = .ok (.iload_n 3, 1) := by decide +kernel
theorem dL_law_488 : decode cL_law 488 = .ok (.iconst 1, 1) := by decide +kernel
theorem dL_law_489 : decode cL_law 489 = .ok (.iadd, 1) := by decide +kernel
theorem dL_law_490 : decode cL_law 490 = .ok (.iaload, 1) := by decide +kernel
theorem dL_law_491 : decode cL_law 491 = .ok (.aload_n 0, 1) := by decide +kernel
theorem dL_law_492 : decode cL_law 492 = .ok (.iload_n 3, 1) := by decide +kernel
theorem dL_law_493 : decode cL_law 493 = .ok (.iconst 2, 1) := by decide +kernel
theorem dL_law_494 : decode cL_law 494 = .ok (.iadd, 1) := by decide +kernel
theorem dL_law_495 : decode cL_law 495 = .ok (.iaload, 1) := by decide +kernel
theorem dL_law_496 : decode cL_law 496 = .ok (.aload_n 0, 1) := by decide +kernel
theorem dL_law_497 : decode cL_law 497 = .ok (.iload_n 3, 1) := by decide +kernel
theorem dL_law_498 : decode cL_law 498 = .ok (.iconst 3, 1) := by decide +kernel
theorem dL_law_499 : decode cL_law 499 = .ok (.iadd, 1) := by decide +kernel
theorem dL_law_500 : decode cL_law 500 = .ok (.iaload, 1) := by decide +kernel
theorem dL_law_501 : decode cL_law 501 = .ok (.invokevirtual 62, 3) := by decide +kernel
theorem dL_law_504 : decode cL_law 504 = .ok (.aload_n 2, 1) := by decide +kernel
theorem dL_law_505 : decode cL_law 505 = .ok (.aload_n 0, 1) := by decide +kernel
theorem dL_law_506 : decode cL_law 506 = .ok (.iload_n 3, 1) := by decide +kernel
theorem dL_law_507 : decode cL_law 507 = .ok (.iconst 1, 1) := by decide +kernel
theorem dL_law_508 : decode cL_law 508 = .ok (.iadd, 1) := by decide +kernel
theorem dL_law_509 : decode cL_law 509 = .ok (.iaload, 1) := by decide +kernel
theorem dL_law_510 : decode cL_law 510 = .ok (.aload_n 0, 1) := by decide +kernel
theorem dL_law_511 : decode cL_law 511 = .ok (.iload_n 3, 1) := by decide +kernel
theorem dL_law_512 : decode cL_law 512 = .ok (.iconst 2, 1) := by decide +kernel
theorem dL_law_513 : decode cL_law 513 = .ok (.iadd, 1) := by decide +kernel
theorem dL_law_514 : decode cL_law 514 = .ok (.iaload, 1) := by decide +kernel
theorem dL_law_515 : decode cL_law 515 = .ok (.aload_n 0, 1) := by decide +kernel
theorem dL_law_516 : decode cL_law 516 = .ok (.iload_n 3, 1) := by decide +kernel
theorem dL_law_517 : decode cL_law 517 = .ok (.iconst 3, 1) := by decide +kernel
theorem dL_law_518 : decode cL_law 518 = .ok (.iadd, 1) := by decide +kernel
theorem dL_law_519 : decode cL_law 519 = .ok (.iaload, 1) := by decide +kernel
theorem dL_law_520 : decode cL_law 520 = .ok (.invokevirtual 65, 3) := by decide +kernel
theorem dL_law_523 : decode cL_law 523 = .ok (.if_icmp .eq 107, 3) := by decide +kernel
theorem dL_law_526 : decode cL_law 526 = .ok (.iconst 0, 1) := by decide +kernel
theorem dL_law_527 : decode cL_law 527 = .ok (.ireturn, 1) := by decide +kernel
theorem dL_law_528 : decode cL_law 528 = .ok (.aload_n 1, 1) := by decide +kernel
theorem dL_law_529 : decode cL_law 529 = .ok (.aload_n 0, 1) := by decide +kernel
theorem dL_law_530 : decode cL_law 530 = .ok (.iload_n 3, 1) := by decide +kernel
theorem dL_law_531 : decode cL_law 531 = .ok (.iconst 1, 1) := by decide +kernel
theorem dL_law_532 : decode cL_law 532 = .ok (.iadd, 1) := by decide +kernel
theorem dL_law_533 : decode cL_law 533 = .ok (.iaload, 1) := by decide +kernel
theorem dL_law_534 : decode cL_law 534 = .ok (.aload_n 0, 1) := by decide +kernel
theorem dL_law_535 : decode cL_law 535 = .ok (.iload_n 3, 1) := by decide +kernel
theorem dL_law_536 : decode cL_law 536 = .ok (.iconst 2, 1) := by decide +kernel
theorem dL_law_537 : decode cL_law 537 = .ok (.iadd, 1) := by decide +kernel
theorem dL_law_538 : decode cL_law 538 = .ok (.iaload, 1) := by decide +kernel
theorem dL_law_539 : decode cL_law 539 = .ok (.invokevirtual 66, 3) := by decide +kernel
theorem dL_law_542 : decode cL_law 542 = .ok (.aload_n 2, 1) := by decide +kernel
theorem dL_law_543 : decode cL_law 543 = .ok (.aload_n 0, 1) := by decide +kernel
theorem dL_law_544 : decode cL_law 544 = .ok (.iload_n 3, 1) := by decide +kernel
theorem dL_law_545 : decode cL_law 545 = .ok (.iconst 1, 1) := by decide +kernel
theorem dL_law_546 : decode cL_law 546 = .ok (.iadd, 1) := by decide +kernel
theorem dL_law_547 : decode cL_law 547 = .ok (.iaload, 1) := by decide +kernel
theorem dL_law_548 : decode cL_law 548 = .ok (.aload_n 0, 1) := by decide +kernel
theorem dL_law_549 : decode cL_law 549 = .ok (.iload_n 3, 1) := by decide +kernel
theorem dL_law_550 : decode cL_law 550 = .ok (.iconst 2, 1) := by decide +kernel
theorem dL_law_551 : decode cL_law 551 = .ok (.iadd, 1) := by decide +kernel
theorem dL_law_552 : decode cL_law 552 = .ok (.iaload, 1) := by decide +kernel
theorem dL_law_553 : decode cL_law 553 = .ok (.invokevirtual 69, 3) := by decide +kernel
theorem dL_law_556 : decode cL_law 556 = .ok (.if_icmp .eq 74, 3) := by decide +kernel
theorem dL_law_559 : decode cL_law 559 = .ok (.iconst 0, 1) := by decide +kernel
theorem dL_law_560 : decode cL_law 560 = .ok (.ireturn, 1) := by decide +kernel
theorem dL_law_561 : decode cL_law 561 = .ok (.aload_n 1, 1) := by decide +kernel
theorem dL_law_562 : decode cL_law 562 = .ok (.aload_n 0, 1) := by decide +kernel
theorem dL_law_563 : decode cL_law 563 = .ok (.iload_n 3, 1) := by decide +kernel
theorem dL_law_564 : decode cL_law 564 = .ok (.iconst 1, 1) := by decide +kernel
theorem dL_law_565 : decode cL_law 565 = .ok (.iadd, 1) := by decide +kernel
theorem dL_law_566 : decode cL_law 566 = .ok (.iaload, 1) := by decide +kernel
theorem dL_law_567 : decode cL_law 567 = .ok (.invokevirtual 70, 3) := by decide +kernel
theorem dL_law_570 : decode cL_law 570 = .ok (.aload_n 2, 1) := by decide +kernel
theorem dL_law_571 : decode cL_law 571 = .ok (.aload_n 0, 1) := by decide +kernel
theorem dL_law_572 : decode cL_law 572 = .ok (.iload_n 3, 1) := by decide +kernel
theorem dL_law_573 : decode cL_law 573 = .ok (.iconst 1, 1) := by decide +kernel
theorem dL_law_574 : decode cL_law 574 = .ok (.iadd, 1) := by decide +kernel
theorem dL_law_575 : decode cL_law 575 = .ok (.iaload, 1) := by decide +kernel
theorem dL_law_576 : decode cL_law 576 = .ok (.invokevirtual 73, 3) := by decide +kernel
theorem dL_law_579 : decode cL_law 579 = .ok (.if_icmp .eq 51, 3) := by decide +kernel
theorem dL_law_582 : decode cL_law 582 = .ok (.iconst 0, 1) := by decide +kernel
theorem dL_law_583 : decode cL_law 583 = .ok (.ireturn, 1) := by decide +kernel
theorem dL_law_584 : decode cL_law 584 = .ok (.aload_n 1, 1) := by decide +kernel
theorem dL_law_585 : decode cL_law 585 = .ok (.aload_n 0, 1) := by decide +kernel
theorem dL_law_586 : decode cL_law 586 = .ok (.iload_n 3, 1) := by decide +kernel
theorem dL_law_587 : decode cL_law 587 = .ok (.iconst 1, 1) := by decide +kernel
theorem dL_law_588 : decode cL_law 588 = .ok (.iadd, 1) := by decide +kernel
theorem dL_law_589 : decode cL_law 589 = .ok (.iaload, 1) := by decide +kernel
theorem dL_law_590 : decode cL_law 590 = .ok (.invokevirtual 74, 3) := by decide +kernel
theorem dL_law_593 : decode cL_law 593 = .ok (.aload_n 2, 1) := by decide +kernel
theorem dL_law_594 : decode cL_law 594 = .ok (.aload_n 0, 1) := by decide +kernel
theorem dL_law_595 : decode cL_law 595 = .ok (.iload_n 3, 1) := by decide +kernel
theorem dL_law_596 : decode cL_law 596 = .ok (.iconst 1, 1) := by decide +kernel
theorem dL_law_597 : decode cL_law 597 = .ok (.iadd, 1) := by decide +kernel
theorem dL_law_598 : decode cL_law 598 = .ok (.iaload, 1) := by decide +kernel
theorem dL_law_599 : decode cL_law 599 = .ok (.invokevirtual 77, 3) := by decide +kernel
theorem dL_law_602 : decode cL_law 602 = .ok (.if_icmp .eq 28, 3) := by decide +kernel
theorem dL_law_605 : decode cL_law 605 = .ok (.iconst 0, 1) := by decide +kernel
theorem dL_law_606 : decode cL_law 606 = .ok (.ireturn, 1) := by decide +kernel
theorem dL_law_607 : decode cL_law 607 = .ok (.aload_n 1, 1) := by decide +kernel
theorem dL_law_608 : decode cL_law 608 = .ok (.aload_n 0, 1) := by decide +kernel
theorem dL_law_609 : decode cL_law 609 = .ok (.iload_n 3, 1) := by decide +kernel
theorem dL_law_610 : decode cL_law 610 = .ok (.iconst 1, 1) := by decide +kernel
theorem dL_law_611 : decode cL_law 611 = .ok (.iadd, 1) := by decide +kernel
theorem dL_law_612 : decode cL_law 612 = .ok (.iaload, 1) := by decide +kernel
theorem dL_law_613 : decode cL_law 613 = .ok (.invokevirtual 78, 3) := by decide +kernel
theorem dL_law_616 : decode cL_law 616 = .ok (.aload_n 2, 1) := by decide +kernel
theorem dL_law_617 : decode cL_law 617 = .ok (.aload_n 0, 1) := by decide +kernel
theorem dL_law_618 : decode cL_law 618 = .ok (.iload_n 3, 1) := by decide +kernel
theorem dL_law_619 : decode cL_law 619 = .ok (.iconst 1, 1) := by decide +kernel
theorem dL_law_620 : decode cL_law 620 = .ok (.iadd, 1) := by decide +kernel
theorem dL_law_621 : decode cL_law 621 = .ok (.iaload, 1) := by decide +kernel
theorem dL_law_622 : decode cL_law 622 = .ok (.invokevirtual 81, 3) := by decide +kernel
theorem dL_law_625 : decode cL_law 625 = .ok (.if_icmp .eq 5, 3) := by decide +kernel
theorem dL_law_628 : decode cL_law 628 = .ok (.iconst 0, 1) := by decide +kernel
theorem dL_law_629 : decode cL_law 629 = .ok (.ireturn, 1) := by decide +kernel
theorem dL_law_630 : decode cL_law 630 = .ok (.iinc 3 6, 3) := by decide +kernel
theorem dL_law_633 : decode cL_law 633 = .ok (.goto (-615), 3) := by decide +kernel
theorem dL_law_636 : decode cL_law 636 = .ok (.iconst 1, 1) := by decide +kernel
theorem dL_law_637 : decode cL_law 637 = .ok (.ireturn, 1) := by decide +kernel
end
section
def gtbl : List Cond := lw_tbl.filter goodWord
theorem gtbl_sub {w : Cond} (h : w ∈ gtbl) : w ∈ lw_tbl := (List.mem_filter.mp h).1
theorem gtbl_good {w : Cond} (h : w ∈ gtbl) : (w.onTables && w.keeps) = true ∨ ∃ ty, w = .arrayClass ty := good_of_word (List.mem_filter.mp h).2
/-- the words that speak of a nest mate's private members: they travel with the world -/
def fm_isNest : Cond → Bool
  | .fieldLinkNest _ _ _ _ _ _ => true
  | .methodLinkNest _ _ _ _ => true
  | _ => false
def fm_nest : List Cond := lw_tbl.filter fm_isNest
theorem fm_nest_warm {w : Cond} (h : w ∈ fm_nest) {s U : State} (hW : s.WarmedH U.vm) (hZ : va_Nw w s) : va_Nw w U := by
  have hn := (List.mem_filter.mp h).2
  cases w <;> first | (cases hn; done) | exact va_Nw.warmF hW hZ | exact va_Nw.warmM hW hZ
abbrev fm_S : Type := Nat → (Nat → Int32) → va_E
abbrev fm_T : Type := Nat → Nat → Int32
/-- one number changes -/
def fm_u (v : fm_T) (t k : Nat) (x : Int32) : fm_T := va_up v t (upd (v t) k x)
theorem fm_u_at (v : fm_T) (t k : Nat) (x : Int32) (a j : Nat) : fm_u v t k x a j = if a = t ∧ j = k then x else v a j := by
  unfold fm_u va_up upd
  by_cases h1 : a = t
  · subst h1
    by_cases h2 : j = k <;> simp [h2]
  · simp [h1]
theorem fm_u_eq (v : fm_T) (t k : Nat) (x : Int32) : fm_u v t k x t k = x := by rw [fm_u_at, if_pos ⟨rfl, rfl⟩]
theorem fm_u_t (v : fm_T) (t k : Nat) (x : Int32) {a : Nat} (h : a ≠ t) : fm_u v t k x a = v a := by unfold fm_u va_up; rw [if_neg h]
theorem fm_u_ne (v : fm_T) (t k : Nat) (x : Int32) {a j : Nat} (h : a ≠ t ∨ j ≠ k) : fm_u v t k x a j = v a j := by
  rw [fm_u_at, if_neg]
  intro q
  rcases h with h | h
  · exact h q.1
  · exact h q.2
/-- the block of cells -/
def fm_w (b N : Nat) (g : Nat → va_E) : va_W := (List.range N).map (fun t => (b + t, g t))
theorem fm_w_get {b N t : Nat} {g : Nat → va_E} (h : t < N) : (fm_w b N g)[t]? = some (b + t, g t) := by simp [fm_w, h]
theorem fm_w_of {b N t : Nat} {g : Nat → va_E} {q : Nat × va_E} (h : (fm_w b N g)[t]? = some q) : t < N ∧ q = (b + t, g t) := by
  have hl := (List.getElem?_eq_some_iff.mp h).1
  have ht : t < N := by simpa [fm_w] using hl
  rw [fm_w_get ht] at h
  exact ⟨ht, (Option.some.inj h).symm⟩
theorem fm_w_set {b N t : Nat} {g : Nat → va_E} {e : va_E} : (fm_w b N g).set t (b + t, e) = fm_w b N (va_up g t e) := by
  apply List.ext_getElem?
  intro j
  by_cases hj : j < N
  · rw [fm_w_get hj]
    by_cases e1 : j = t
    · subst e1
      rw [List.getElem?_set_self (by simpa [fm_w] using hj), va_up_self]
    · rw [List.getElem?_set_ne (Ne.symm e1), fm_w_get hj, va_up_ne _ _ e1]
  · rw [List.getElem?_eq_none (by simp [fm_w]; omega), List.getElem?_eq_none (by simp [fm_w]; omega)]
theorem fm_w_D {b N : Nat} {g : Nat → va_E} {A : Nat → Prop} (hA : ∀ q, b ≤ q → q < b + N → A q) : va_D A (fm_w b N g) := by
  refine ⟨fun i j p q hp hq e => ?_, fun k q hq => ?_⟩
  · obtain ⟨h1, rfl⟩ := fm_w_of hp
    obtain ⟨h2, rfl⟩ := fm_w_of hq
    have e' : b + i = b + j := e
    omega
  · obtain ⟨h1, rfl⟩ := fm_w_of hq
    exact hA _ (Nat.le_add_right _ _) (by show b + k < b + N; omega)
def fm_c (sh : fm_S) (v : fm_T) : Nat → va_E := fun t => sh t (v t)
theorem fm_c_up (sh : fm_S) (v : fm_T) (t : Nat) (f : Nat → Int32) : va_up (fm_c sh v) t (sh t f) = fm_c sh (va_up v t f) := by
  funext u
  unfold va_up fm_c
  by_cases h : u = t
  · subst h; simp
  · simp [h]
/-- what holds at a method's start beside its cells -/
def fm_K (D : va_G) (tys : List (ClassId × FieldType)) (tA b N : Nat) (A : Nat → Prop) (U : State) : Prop :=
  va_K D vwCl tys U ∧ (∀ w ∈ fm_nest, va_Nw w U) ∧ (∀ q, b ≤ q → q < b + N → A q) ∧ va_Z "ConstantStarts" "NAMED_CONSTANTS" "[I" (.ref tA) A U U.heap ∧ va_T .int tA 12 (fun j => .int (([0, 1, 2, 2, 1, 1, 0, 3, 0, 0, 0, 1] : List Int32).getD j 0)) A U U.heap
theorem fm_K.to {D : va_G} {tys : List (ClassId × FieldType)} {tA b N : Nat} {A : Nat → Prop} {s U : State} (h : fm_K D tys tA b N A s) (hW : s.WarmedH U.vm) {locs : List Loc} (hS : va_S A s.heap U.heap locs) : fm_K D tys tA b N A U := by
  obtain ⟨h1, h2, h3, h4, h5⟩ := h
  exact ⟨h1.moved hW.alike, fun w hw => fm_nest_warm hw hW (h2 w hw), h3, (h4.moved hW.alike).kept hS.2.1, (h5.moved hW.alike).kept hS.2.1⟩
def fm_C (p : Program) (s : State) (m : MethodId) (args : Array Value) (c : Code) (cc : ByteArray) (own : String) (nL : Nat) (D : va_G) (tys : List (ClassId × FieldType)) (tA b N : Nat) (A : Nat → Prop) : Prop :=
  p.tables.exec = Jvm.exec ∧ c.code = cc ∧ c.maxLocals = nL ∧ s.vm.findClass own = some m.cls ∧ (∀ w ∈ gtbl, w.before args s = true) ∧ fm_K D tys tA b N A s
def fm_V (p : Program) (l : Launch) (e : Env) (R : Room) (s : State) (m : MethodId) (args : Array Value) (below : List Frame) (meth : Method) (c : Code) (D : va_G) (b N : Nat) (sh : fm_S) (A : Nat → Prop) (Q : State → Prop) (nL pc : Nat) (lv : List (Nat × Value)) (st : List Value) (v : fm_T) : Prop :=
  ∀ (H : Heap) (locs : List Loc) (ls : Array Slot), va_P D vwCl (fm_w b N (fm_c sh v)) H → va_S A s.heap H locs → lv_has ls nL lv → W p l e R s m args below meth c H locs 0 0 Q (F0 m pc ls st)
def fm_Pc (D : va_G) (tys : List (ClassId × FieldType)) (tA b N : Nat) (sh : fm_S) (A : Nat → Prop) (av : List Value) (v : fm_T) : Array Value → State → Prop := va_Pc av (fun U => va_P D vwCl (fm_w b N (fm_c sh v)) U.heap ∧ fm_K D tys tA b N A U)
def fm_Q (D : va_G) (b N : Nat) (sh : fm_S) (A : Nat → Prop) (r : Option Value) (v' : fm_T) : Array Value → State → Outcome → State → Prop := fun _ st oc t => oc = .returned r ∧ va_P D vwCl (fm_w b N (fm_c sh v')) t.heap ∧ va_F A st t
def fm_rm (h : Nat) : Room := { frames := h, cells := 0, slots := 0, locals := 40 * h }
/-- the contract of a method that makes nothing: called with av over v it answers r and leaves v' -/
def fm_M (l : Launch) (D : va_G) (tys : List (ClassId × FieldType)) (tA b N : Nat) (sh : fm_S) (A : Nat → Prop) (y : MethodName) (cc : ByteArray) (nL : Nat) (ret : Option FieldType) (h : Nat) (av : List Value) (v : fm_T) (r : Option Value) (v' : fm_T) : Prop :=
  Met l y (.code y cc nL ret :: gtbl) (fm_rm h) (fm_Pc D tys tA b N sh A av v) (fm_Q D b N sh A r v') 0 0 A
theorem fm_blind {D : va_G} {tys : List (ClassId × FieldType)} {tA b N : Nat} {sh : fm_S} {A : Nat → Prop} {av : List Value} {v : fm_T} : FrameBlind (fm_Pc D tys tA b N sh A av v) := by
  intro a U g mk q
  obtain ⟨q0, qP, q1, q2, q3, q4, q5⟩ := q
  exact ⟨q0, qP, va_K.moved (u := U) (U := U.calling g mk a) (Vm.Alike.refl U.vm) q1, fun w hw => by
    have hn := (List.mem_filter.mp hw).2
    have hz := q2 w hw
    cases w <;> first | (cases hn; done) | exact va_Nw.same rfl (u := U) (U := U.calling g mk a) rfl hz, q3, va_Z.moved (u := U) (U := U.calling g mk a) (Vm.Alike.refl U.vm) q4, va_T.moved (u := U) (U := U.calling g mk a) (Vm.Alike.refl U.vm) q5⟩
theorem gtbl_GoodIn {big : List Cond} {y : MethodName} {cc : ByteArray} {n : Nat} {ret : Option FieldType} (hb : ∀ w ∈ gtbl, w ∈ big) (hc : Cond.code y cc n ret ∈ gtbl) : GoodIn big (.code y cc n ret :: gtbl) := by
  intro w hw
  rcases List.mem_cons.mp hw with rfl | hw
  · exact ⟨hb _ hc, gtbl_good hc⟩
  · exact ⟨hb _ hw, gtbl_good hw⟩
/-- what a call needs of its callee: the words of its link and of the callee -/
def fm_Y (y : MethodName) (cc : ByteArray) (nL : Nat) (ret : Option FieldType) (n : Nat) : Prop :=
  Cond.code y cc nL ret ∈ gtbl ∧ Cond.initialized y.cls ∈ gtbl ∧ (y.cls ≠ "java/lang/invoke/MethodHandle" ∧ y.cls ≠ "java/lang/invoke/VarHandle" ∧ (parseMethodDescriptor y.desc).map (fun d => d.parameters.length) = some n) ∧ 8 + (nL + 11) ≤ 40
section FM
variable {p : Program} {l : Launch} {e : Env} {R : Room} {s : State} {m : MethodId} {args : Array Value} {below : List Frame} {meth : Method} {c : Code} {D : va_G} {tys : List (ClassId × FieldType)} {tA b N : Nat} {sh : fm_S} {A : Nat → Prop} {Q : State → Prop} {nL pc : Nat} {lv : List (Nat × Value)} {rest : List Value} {v : fm_T} {cc : ByteArray} {own : String}

theorem fm_iconst (C : fm_C p s m args c cc own nL D tys tA b N A) {n : Int} {x : Int32} (hdg : decode cc pc = .ok (.iconst n, 1)) (hv : Int32.ofInt n = x) (np : Nat) (hnp : pc + 1 = np) (k : fm_V p l e R s m args below meth c D b N sh A Q nL np lv (.int x :: rest) v) : fm_V p l e R s m args below meth c D b N sh A Q nL pc lv (rest) v := fun H locs ls hP hS hl => by subst hnp; exact lv_iconst C.1 C.2.1 hdg hv (k H locs ls hP hS hl)
theorem fm_bipush (C : fm_C p s m args c cc own nL D tys tA b N A) {n : Int} {x : Int32} (hdg : decode cc pc = .ok (.bipush n, 2)) (hv : (Int8.ofInt n).toInt32 = x) (np : Nat) (hnp : pc + 2 = np) (k : fm_V p l e R s m args below meth c D b N sh A Q nL np lv (.int x :: rest) v) : fm_V p l e R s m args below meth c D b N sh A Q nL pc lv (rest) v := fun H locs ls hP hS hl => by subst hnp; exact lv_bipush C.1 C.2.1 hdg hv (k H locs ls hP hS hl)
theorem fm_sipush (C : fm_C p s m args c cc own nL D tys tA b N A) {n : Int} {x : Int32} (hdg : decode cc pc = .ok (.sipush n, 3)) (hv : (Int16.ofInt n).toInt32 = x) (np : Nat) (hnp : pc + 3 = np) (k : fm_V p l e R s m args below meth c D b N sh A Q nL np lv (.int x :: rest) v) : fm_V p l e R s m args below meth c D b N sh A Q nL pc lv (rest) v := fun H locs ls hP hS hl => by subst hnp; exact lv_sipush C.1 C.2.1 hdg hv (k H locs ls hP hS hl)
theorem fm_iadd (C : fm_C p s m args c cc own nL D tys tA b N A) {x y : Int32} (hdg : decode cc pc = .ok (.iadd, 1))  (np : Nat) (hnp : pc + 1 = np) (k : fm_V p l e R s m args below meth c D b N sh A Q nL np lv (.int (x + y) :: rest) v) : fm_V p l e R s m args below meth c D b N sh A Q nL pc lv (.int y :: .int x :: rest) v := fun H locs ls hP hS hl => by subst hnp; exact lv_iadd C.1 C.2.1 hdg  (k H locs ls hP hS hl)
theorem fm_isub (C : fm_C p s m args c cc own nL D tys tA b N A) {x y : Int32} (hdg : decode cc pc = .ok (.isub, 1))  (np : Nat) (hnp : pc + 1 = np) (k : fm_V p l e R s m args below meth c D b N sh A Q nL np lv (.int (x - y) :: rest) v) : fm_V p l e R s m args below meth c D b N sh A Q nL pc lv (.int y :: .int x :: rest) v := fun H locs ls hP hS hl => by subst hnp; exact lv_isub C.1 C.2.1 hdg  (k H locs ls hP hS hl)
theorem fm_imul (C : fm_C p s m args c cc own nL D tys tA b N A) {x y : Int32} (hdg : decode cc pc = .ok (.imul, 1))  (np : Nat) (hnp : pc + 1 = np) (k : fm_V p l e R s m args below meth c D b N sh A Q nL np lv (.int (x * y) :: rest) v) : fm_V p l e R s m args below meth c D b N sh A Q nL pc lv (.int y :: .int x :: rest) v := fun H locs ls hP hS hl => by subst hnp; exact lv_imul C.1 C.2.1 hdg  (k H locs ls hP hS hl)
theorem fm_iand (C : fm_C p s m args c cc own nL D tys tA b N A) {x y : Int32} (hdg : decode cc pc = .ok (.iand, 1))  (np : Nat) (hnp : pc + 1 = np) (k : fm_V p l e R s m args below meth c D b N sh A Q nL np lv (.int (x &&& y) :: rest) v) : fm_V p l e R s m args below meth c D b N sh A Q nL pc lv (.int y :: .int x :: rest) v := fun H locs ls hP hS hl => by subst hnp; exact lv_iand C.1 C.2.1 hdg  (k H locs ls hP hS hl)
theorem fm_idiv (C : fm_C p s m args c cc own nL D tys tA b N A) {x y : Int32} (hdg : decode cc pc = .ok (.idiv, 1)) (hne : ¬ y = 0) (np : Nat) (hnp : pc + 1 = np) (k : fm_V p l e R s m args below meth c D b N sh A Q nL np lv (.int (x / y) :: rest) v) : fm_V p l e R s m args below meth c D b N sh A Q nL pc lv (.int y :: .int x :: rest) v := fun H locs ls hP hS hl => by subst hnp; exact lv_idiv C.1 C.2.1 hdg hne (k H locs ls hP hS hl)
theorem fm_irem (C : fm_C p s m args c cc own nL D tys tA b N A) {x y : Int32} (hdg : decode cc pc = .ok (.irem, 1)) (hne : ¬ y = 0) (np : Nat) (hnp : pc + 1 = np) (k : fm_V p l e R s m args below meth c D b N sh A Q nL np lv (.int (x - x / y * y) :: rest) v) : fm_V p l e R s m args below meth c D b N sh A Q nL pc lv (.int y :: .int x :: rest) v := fun H locs ls hP hS hl => by subst hnp; exact lv_irem C.1 C.2.1 hdg hne (k H locs ls hP hS hl)
theorem fm_iushr (C : fm_C p s m args c cc own nL D tys tA b N A) {x y : Int32} (hdg : decode cc pc = .ok (.iushr, 1))  (np : Nat) (hnp : pc + 1 = np) (k : fm_V p l e R s m args below meth c D b N sh A Q nL np lv (.int ((x.toUInt32 >>> (y.toUInt32 &&& Int32.toUInt32 31)).toInt32) :: rest) v) : fm_V p l e R s m args below meth c D b N sh A Q nL pc lv (.int y :: .int x :: rest) v := fun H locs ls hP hS hl => by subst hnp; exact lv_iushr C.1 C.2.1 hdg rfl (k H locs ls hP hS hl)
theorem fm_dup (C : fm_C p s m args c cc own nL D tys tA b N A) {x : Value} (hdg : decode cc pc = .ok (.dup, 1)) (hx : x.category = 1) (np : Nat) (hnp : pc + 1 = np) (k : fm_V p l e R s m args below meth c D b N sh A Q nL np lv (x :: x :: rest) v) : fm_V p l e R s m args below meth c D b N sh A Q nL pc lv (x :: rest) v := fun H locs ls hP hS hl => by subst hnp; exact lv_dup C.1 C.2.1 hdg hx (k H locs ls hP hS hl)
theorem fm_pop (C : fm_C p s m args c cc own nL D tys tA b N A) {x : Value} (hdg : decode cc pc = .ok (.pop, 1)) (hx : x.category = 1) (np : Nat) (hnp : pc + 1 = np) (k : fm_V p l e R s m args below meth c D b N sh A Q nL np lv (rest) v) : fm_V p l e R s m args below meth c D b N sh A Q nL pc lv (x :: rest) v := fun H locs ls hP hS hl => by subst hnp; exact lv_pop C.1 C.2.1 hdg hx (k H locs ls hP hS hl)
theorem fm_dup_x1 (C : fm_C p s m args c cc own nL D tys tA b N A) {x y : Value} (hdg : decode cc pc = .ok (.dup_x1, 1)) (hx : x.category = 1) (hy : y.category = 1) (np : Nat) (hnp : pc + 1 = np) (k : fm_V p l e R s m args below meth c D b N sh A Q nL np lv (x :: y :: x :: rest) v) : fm_V p l e R s m args below meth c D b N sh A Q nL pc lv (x :: y :: rest) v := fun H locs ls hP hS hl => by subst hnp; exact lv_dup_x1 C.1 C.2.1 hdg hx hy (k H locs ls hP hS hl)
theorem fm_dup2 (C : fm_C p s m args c cc own nL D tys tA b N A) {x y : Value} (hdg : decode cc pc = .ok (.dup2, 1)) (hx : x.category = 1) (hy : y.category = 1) (np : Nat) (hnp : pc + 1 = np) (k : fm_V p l e R s m args below meth c D b N sh A Q nL np lv (x :: y :: x :: y :: rest) v) : fm_V p l e R s m args below meth c D b N sh A Q nL pc lv (x :: y :: rest) v := fun H locs ls hP hS hl => by subst hnp; exact lv_dup2_11 C.1 C.2.1 hdg hx hy (k H locs ls hP hS hl)
theorem fm_null (C : fm_C p s m args c cc own nL D tys tA b N A)  (hdg : decode cc pc = .ok (.aconst_null, 1))  (np : Nat) (hnp : pc + 1 = np) (k : fm_V p l e R s m args below meth c D b N sh A Q nL np lv (.null :: rest) v) : fm_V p l e R s m args below meth c D b N sh A Q nL pc lv (rest) v := fun H locs ls hP hS hl => by subst hnp; exact lv_null C.1 C.2.1 hdg  (k H locs ls hP hS hl)
theorem fm_ldc (C : fm_C p s m args c cc own nL D tys tA b N A) {index : Nat} {x : Int32} (hdg : decode cc pc = .ok (.ldc index, 2)) (hw : Cond.constant own index x ∈ gtbl) (np : Nat) (hnp : pc + 2 = np) (k : fm_V p l e R s m args below meth c D b N sh A Q nL np lv (.int x :: rest) v) : fm_V p l e R s m args below meth c D b N sh A Q nL pc lv rest v := fun H locs ls hP hS hl => by subst hnp; exact lv_ldc C.1 C.2.1 C.2.2.2.1 (C.2.2.2.2.1 _ hw) hdg (k H locs ls hP hS hl)
theorem fm_iload_n (C : fm_C p s m args c cc own nL D tys tA b N A) {k : Fin 4} {i : Nat} {x : Int32} (hdg : decode cc pc = .ok (.iload_n k, 1)) (hi : (k : Nat) = i) (j : Nat) (hj : lv[j]? = some (i, .int x)) (np : Nat) (hnp : pc + 1 = np) (kk : fm_V p l e R s m args below meth c D b N sh A Q nL np lv (.int x :: rest) v) : fm_V p l e R s m args below meth c D b N sh A Q nL pc lv rest v := fun H locs ls hP hS hl => by subst hnp; exact lv_iload_n C.1 C.2.1 hdg hi (lv_at hl j hj) (kk H locs ls hP hS hl)
theorem fm_iload (C : fm_C p s m args c cc own nL D tys tA b N A) {i : Nat} {x : Int32} (hdg : decode cc pc = .ok (.iload i, 2)) (j : Nat) (hj : lv[j]? = some (i, .int x)) (np : Nat) (hnp : pc + 2 = np) (kk : fm_V p l e R s m args below meth c D b N sh A Q nL np lv (.int x :: rest) v) : fm_V p l e R s m args below meth c D b N sh A Q nL pc lv rest v := fun H locs ls hP hS hl => by subst hnp; exact lv_iload C.1 C.2.1 hdg (lv_at hl j hj) (kk H locs ls hP hS hl)
theorem fm_istore_n (C : fm_C p s m args c cc own nL D tys tA b N A) {k : Fin 4} {i : Nat} {x : Int32} (lv2 : List (Nat × Value)) (hdg : decode cc pc = .ok (.istore_n k, 1)) (hi : (k : Nat) = i) (hn : i < nL) (hl2 : (i, Value.int x) :: lv.filter (fun q => !(q.1 == i) && !(q.1 + 1 == i && q.2.category == 2)) = lv2) (np : Nat) (hnp : pc + 1 = np) (kk : fm_V p l e R s m args below meth c D b N sh A Q nL np lv2 rest v) : fm_V p l e R s m args below meth c D b N sh A Q nL pc lv (.int x :: rest) v := fun H locs ls hP hS hl => by subst hnp; exact lv_istore_n C.1 C.2.1 hdg hi hl hn hl2 (fun ls2 hl3 => kk H locs ls2 hP hS hl3)
theorem fm_istore (C : fm_C p s m args c cc own nL D tys tA b N A) {i : Nat} {x : Int32} (lv2 : List (Nat × Value)) (hdg : decode cc pc = .ok (.istore i, 2)) (hn : i < nL) (hl2 : (i, Value.int x) :: lv.filter (fun q => !(q.1 == i) && !(q.1 + 1 == i && q.2.category == 2)) = lv2) (np : Nat) (hnp : pc + 2 = np) (kk : fm_V p l e R s m args below meth c D b N sh A Q nL np lv2 rest v) : fm_V p l e R s m args below meth c D b N sh A Q nL pc lv (.int x :: rest) v := fun H locs ls hP hS hl => by subst hnp; exact lv_istore C.1 C.2.1 hdg hl hn hl2 (fun ls2 hl3 => kk H locs ls2 hP hS hl3)
theorem fm_aload_n (C : fm_C p s m args c cc own nL D tys tA b N A) {k : Fin 4} {i : Nat} {x : Nat} (hdg : decode cc pc = .ok (.aload_n k, 1)) (hi : (k : Nat) = i) (j : Nat) (hj : lv[j]? = some (i, .ref x)) (np : Nat) (hnp : pc + 1 = np) (kk : fm_V p l e R s m args below meth c D b N sh A Q nL np lv (.ref x :: rest) v) : fm_V p l e R s m args below meth c D b N sh A Q nL pc lv rest v := fun H locs ls hP hS hl => by subst hnp; exact lv_aload_n C.1 C.2.1 hdg hi (lv_at hl j hj) (kk H locs ls hP hS hl)
theorem fm_aload (C : fm_C p s m args c cc own nL D tys tA b N A) {i : Nat} {x : Nat} (hdg : decode cc pc = .ok (.aload i, 2)) (j : Nat) (hj : lv[j]? = some (i, .ref x)) (np : Nat) (hnp : pc + 2 = np) (kk : fm_V p l e R s m args below meth c D b N sh A Q nL np lv (.ref x :: rest) v) : fm_V p l e R s m args below meth c D b N sh A Q nL pc lv rest v := fun H locs ls hP hS hl => by subst hnp; exact lv_aload C.1 C.2.1 hdg (lv_at hl j hj) (kk H locs ls hP hS hl)
theorem fm_astore_n (C : fm_C p s m args c cc own nL D tys tA b N A) {k : Fin 4} {i : Nat} {x : Nat} (lv2 : List (Nat × Value)) (hdg : decode cc pc = .ok (.astore_n k, 1)) (hi : (k : Nat) = i) (hn : i < nL) (hl2 : (i, Value.ref x) :: lv.filter (fun q => !(q.1 == i) && !(q.1 + 1 == i && q.2.category == 2)) = lv2) (np : Nat) (hnp : pc + 1 = np) (kk : fm_V p l e R s m args below meth c D b N sh A Q nL np lv2 rest v) : fm_V p l e R s m args below meth c D b N sh A Q nL pc lv (.ref x :: rest) v := fun H locs ls hP hS hl => by subst hnp; exact lv_astore_n C.1 C.2.1 hdg hi hl hn hl2 (fun ls2 hl3 => kk H locs ls2 hP hS hl3)
theorem fm_astore (C : fm_C p s m args c cc own nL D tys tA b N A) {i : Nat} {x : Nat} (lv2 : List (Nat × Value)) (hdg : decode cc pc = .ok (.astore i, 2)) (hn : i < nL) (hl2 : (i, Value.ref x) :: lv.filter (fun q => !(q.1 == i) && !(q.1 + 1 == i && q.2.category == 2)) = lv2) (np : Nat) (hnp : pc + 2 = np) (kk : fm_V p l e R s m args below meth c D b N sh A Q nL np lv2 rest v) : fm_V p l e R s m args below meth c D b N sh A Q nL pc lv (.ref x :: rest) v := fun H locs ls hP hS hl => by subst hnp; exact lv_astore C.1 C.2.1 hdg hl hn hl2 (fun ls2 hl3 => kk H locs ls2 hP hS hl3)
theorem fm_aload_nN (C : fm_C p s m args c cc own nL D tys tA b N A) {k : Fin 4} {i : Nat} (hdg : decode cc pc = .ok (.aload_n k, 1)) (hi : (k : Nat) = i) (j : Nat) (hj : lv[j]? = some (i, .null)) (np : Nat) (hnp : pc + 1 = np) (kk : fm_V p l e R s m args below meth c D b N sh A Q nL np lv (.null :: rest) v) : fm_V p l e R s m args below meth c D b N sh A Q nL pc lv rest v := fun H locs ls hP hS hl => by subst hnp; exact lv_aload_nN C.1 C.2.1 hdg hi (lv_at hl j hj) (kk H locs ls hP hS hl)
theorem fm_aloadN (C : fm_C p s m args c cc own nL D tys tA b N A) {i : Nat} (hdg : decode cc pc = .ok (.aload i, 2)) (j : Nat) (hj : lv[j]? = some (i, .null)) (np : Nat) (hnp : pc + 2 = np) (kk : fm_V p l e R s m args below meth c D b N sh A Q nL np lv (.null :: rest) v) : fm_V p l e R s m args below meth c D b N sh A Q nL pc lv rest v := fun H locs ls hP hS hl => by subst hnp; exact lv_aloadN C.1 C.2.1 hdg (lv_at hl j hj) (kk H locs ls hP hS hl)
theorem fm_astore_nN (C : fm_C p s m args c cc own nL D tys tA b N A) {k : Fin 4} {i : Nat} (lv2 : List (Nat × Value)) (hdg : decode cc pc = .ok (.astore_n k, 1)) (hi : (k : Nat) = i) (hn : i < nL) (hl2 : (i, Value.null) :: lv.filter (fun q => !(q.1 == i) && !(q.1 + 1 == i && q.2.category == 2)) = lv2) (np : Nat) (hnp : pc + 1 = np) (kk : fm_V p l e R s m args below meth c D b N sh A Q nL np lv2 rest v) : fm_V p l e R s m args below meth c D b N sh A Q nL pc lv (.null :: rest) v := fun H locs ls hP hS hl => by subst hnp; exact lv_astore_nN C.1 C.2.1 hdg hi hl hn hl2 (fun ls2 hl3 => kk H locs ls2 hP hS hl3)
theorem fm_astoreN (C : fm_C p s m args c cc own nL D tys tA b N A) {i : Nat} (lv2 : List (Nat × Value)) (hdg : decode cc pc = .ok (.astore i, 2)) (hn : i < nL) (hl2 : (i, Value.null) :: lv.filter (fun q => !(q.1 == i) && !(q.1 + 1 == i && q.2.category == 2)) = lv2) (np : Nat) (hnp : pc + 2 = np) (kk : fm_V p l e R s m args below meth c D b N sh A Q nL np lv2 rest v) : fm_V p l e R s m args below meth c D b N sh A Q nL pc lv (.null :: rest) v := fun H locs ls hP hS hl => by subst hnp; exact lv_astoreN C.1 C.2.1 hdg hl hn hl2 (fun ls2 hl3 => kk H locs ls2 hP hS hl3)
theorem fm_iinc (C : fm_C p s m args c cc own nL D tys tA b N A) {i : Nat} {n : Int} {x y : Int32} (lv2 : List (Nat × Value)) (hdg : decode cc pc = .ok (.iinc i n, 3)) (j : Nat) (hj : lv[j]? = some (i, .int x)) (hy : x + Int32.ofInt n = y) (hn : i < nL) (hl2 : (i, Value.int y) :: lv.filter (fun q => !(q.1 == i) && !(q.1 + 1 == i && q.2.category == 2)) = lv2) (np : Nat) (hnp : pc + 3 = np) (kk : fm_V p l e R s m args below meth c D b N sh A Q nL np lv2 rest v) : fm_V p l e R s m args below meth c D b N sh A Q nL pc lv rest v := fun H locs ls hP hS hl => by subst hnp; exact lv_iinc C.1 C.2.1 hdg hl hj hy hn hl2 (fun ls2 hl3 => kk H locs ls2 hP hS hl3)
theorem fm_if_eq (C : fm_C p s m args c cc own nL D tys tA b N A) {x : Int32} {off : Int} (tgt : Nat) (hdg : decode cc pc = .ok (.ifCond .eq off, 3)) (ht : (pc : Int) + off = (tgt : Int)) (kt : x = 0 → fm_V p l e R s m args below meth c D b N sh A Q nL tgt lv rest v) (np : Nat) (hnp : pc + 3 = np) (kf : ¬ x = 0 → fm_V p l e R s m args below meth c D b N sh A Q nL np lv rest v) : fm_V p l e R s m args below meth c D b N sh A Q nL pc lv (.int x :: rest) v := fun H locs ls hP hS hl => by subst hnp; exact lv_if_eq C.1 C.2.1 hdg ht (fun q => kt q H locs ls hP hS hl) (fun q => kf q H locs ls hP hS hl)
theorem fm_icmp_eq (C : fm_C p s m args c cc own nL D tys tA b N A) {x y : Int32} {off : Int} (tgt : Nat) (hdg : decode cc pc = .ok (.if_icmp .eq off, 3)) (ht : (pc : Int) + off = (tgt : Int)) (kt : x = y → fm_V p l e R s m args below meth c D b N sh A Q nL tgt lv rest v) (np : Nat) (hnp : pc + 3 = np) (kf : ¬ x = y → fm_V p l e R s m args below meth c D b N sh A Q nL np lv rest v) : fm_V p l e R s m args below meth c D b N sh A Q nL pc lv (.int y :: .int x :: rest) v := fun H locs ls hP hS hl => by subst hnp; exact lv_icmp_eq C.1 C.2.1 hdg ht (fun q => kt q H locs ls hP hS hl) (fun q => kf q H locs ls hP hS hl)
theorem fm_if_ne (C : fm_C p s m args c cc own nL D tys tA b N A) {x : Int32} {off : Int} (tgt : Nat) (hdg : decode cc pc = .ok (.ifCond .ne off, 3)) (ht : (pc : Int) + off = (tgt : Int)) (kt : ¬ x = 0 → fm_V p l e R s m args below meth c D b N sh A Q nL tgt lv rest v) (np : Nat) (hnp : pc + 3 = np) (kf : x = 0 → fm_V p l e R s m args below meth c D b N sh A Q nL np lv rest v) : fm_V p l e R s m args below meth c D b N sh A Q nL pc lv (.int x :: rest) v := fun H locs ls hP hS hl => by subst hnp; exact lv_if_ne C.1 C.2.1 hdg ht (fun q => kt q H locs ls hP hS hl) (fun q => kf q H locs ls hP hS hl)
theorem fm_icmp_ne (C : fm_C p s m args c cc own nL D tys tA b N A) {x y : Int32} {off : Int} (tgt : Nat) (hdg : decode cc pc = .ok (.if_icmp .ne off, 3)) (ht : (pc : Int) + off = (tgt : Int)) (kt : ¬ x = y → fm_V p l e R s m args below meth c D b N sh A Q nL tgt lv rest v) (np : Nat) (hnp : pc + 3 = np) (kf : x = y → fm_V p l e R s m args below meth c D b N sh A Q nL np lv rest v) : fm_V p l e R s m args below meth c D b N sh A Q nL pc lv (.int y :: .int x :: rest) v := fun H locs ls hP hS hl => by subst hnp; exact lv_icmp_ne C.1 C.2.1 hdg ht (fun q => kt q H locs ls hP hS hl) (fun q => kf q H locs ls hP hS hl)
theorem fm_if_lt (C : fm_C p s m args c cc own nL D tys tA b N A) {x : Int32} {off : Int} (tgt : Nat) (hdg : decode cc pc = .ok (.ifCond .lt off, 3)) (ht : (pc : Int) + off = (tgt : Int)) (kt : x < 0 → fm_V p l e R s m args below meth c D b N sh A Q nL tgt lv rest v) (np : Nat) (hnp : pc + 3 = np) (kf : ¬ x < 0 → fm_V p l e R s m args below meth c D b N sh A Q nL np lv rest v) : fm_V p l e R s m args below meth c D b N sh A Q nL pc lv (.int x :: rest) v := fun H locs ls hP hS hl => by subst hnp; exact lv_if_lt C.1 C.2.1 hdg ht (fun q => kt q H locs ls hP hS hl) (fun q => kf q H locs ls hP hS hl)
theorem fm_icmp_lt (C : fm_C p s m args c cc own nL D tys tA b N A) {x y : Int32} {off : Int} (tgt : Nat) (hdg : decode cc pc = .ok (.if_icmp .lt off, 3)) (ht : (pc : Int) + off = (tgt : Int)) (kt : x < y → fm_V p l e R s m args below meth c D b N sh A Q nL tgt lv rest v) (np : Nat) (hnp : pc + 3 = np) (kf : ¬ x < y → fm_V p l e R s m args below meth c D b N sh A Q nL np lv rest v) : fm_V p l e R s m args below meth c D b N sh A Q nL pc lv (.int y :: .int x :: rest) v := fun H locs ls hP hS hl => by subst hnp; exact lv_icmp_lt C.1 C.2.1 hdg ht (fun q => kt q H locs ls hP hS hl) (fun q => kf q H locs ls hP hS hl)
theorem fm_if_ge (C : fm_C p s m args c cc own nL D tys tA b N A) {x : Int32} {off : Int} (tgt : Nat) (hdg : decode cc pc = .ok (.ifCond .ge off, 3)) (ht : (pc : Int) + off = (tgt : Int)) (kt : 0 ≤ x → fm_V p l e R s m args below meth c D b N sh A Q nL tgt lv rest v) (np : Nat) (hnp : pc + 3 = np) (kf : ¬ 0 ≤ x → fm_V p l e R s m args below meth c D b N sh A Q nL np lv rest v) : fm_V p l e R s m args below meth c D b N sh A Q nL pc lv (.int x :: rest) v := fun H locs ls hP hS hl => by subst hnp; exact lv_if_ge C.1 C.2.1 hdg ht (fun q => kt q H locs ls hP hS hl) (fun q => kf q H locs ls hP hS hl)
theorem fm_icmp_ge (C : fm_C p s m args c cc own nL D tys tA b N A) {x y : Int32} {off : Int} (tgt : Nat) (hdg : decode cc pc = .ok (.if_icmp .ge off, 3)) (ht : (pc : Int) + off = (tgt : Int)) (kt : y ≤ x → fm_V p l e R s m args below meth c D b N sh A Q nL tgt lv rest v) (np : Nat) (hnp : pc + 3 = np) (kf : ¬ y ≤ x → fm_V p l e R s m args below meth c D b N sh A Q nL np lv rest v) : fm_V p l e R s m args below meth c D b N sh A Q nL pc lv (.int y :: .int x :: rest) v := fun H locs ls hP hS hl => by subst hnp; exact lv_icmp_ge C.1 C.2.1 hdg ht (fun q => kt q H locs ls hP hS hl) (fun q => kf q H locs ls hP hS hl)
theorem fm_if_gt (C : fm_C p s m args c cc own nL D tys tA b N A) {x : Int32} {off : Int} (tgt : Nat) (hdg : decode cc pc = .ok (.ifCond .gt off, 3)) (ht : (pc : Int) + off = (tgt : Int)) (kt : 0 < x → fm_V p l e R s m args below meth c D b N sh A Q nL tgt lv rest v) (np : Nat) (hnp : pc + 3 = np) (kf : ¬ 0 < x → fm_V p l e R s m args below meth c D b N sh A Q nL np lv rest v) : fm_V p l e R s m args below meth c D b N sh A Q nL pc lv (.int x :: rest) v := fun H locs ls hP hS hl => by subst hnp; exact lv_if_gt C.1 C.2.1 hdg ht (fun q => kt q H locs ls hP hS hl) (fun q => kf q H locs ls hP hS hl)
theorem fm_icmp_gt (C : fm_C p s m args c cc own nL D tys tA b N A) {x y : Int32} {off : Int} (tgt : Nat) (hdg : decode cc pc = .ok (.if_icmp .gt off, 3)) (ht : (pc : Int) + off = (tgt : Int)) (kt : y < x → fm_V p l e R s m args below meth c D b N sh A Q nL tgt lv rest v) (np : Nat) (hnp : pc + 3 = np) (kf : ¬ y < x → fm_V p l e R s m args below meth c D b N sh A Q nL np lv rest v) : fm_V p l e R s m args below meth c D b N sh A Q nL pc lv (.int y :: .int x :: rest) v := fun H locs ls hP hS hl => by subst hnp; exact lv_icmp_gt C.1 C.2.1 hdg ht (fun q => kt q H locs ls hP hS hl) (fun q => kf q H locs ls hP hS hl)
theorem fm_if_le (C : fm_C p s m args c cc own nL D tys tA b N A) {x : Int32} {off : Int} (tgt : Nat) (hdg : decode cc pc = .ok (.ifCond .le off, 3)) (ht : (pc : Int) + off = (tgt : Int)) (kt : x ≤ 0 → fm_V p l e R s m args below meth c D b N sh A Q nL tgt lv rest v) (np : Nat) (hnp : pc + 3 = np) (kf : ¬ x ≤ 0 → fm_V p l e R s m args below meth c D b N sh A Q nL np lv rest v) : fm_V p l e R s m args below meth c D b N sh A Q nL pc lv (.int x :: rest) v := fun H locs ls hP hS hl => by subst hnp; exact lv_if_le C.1 C.2.1 hdg ht (fun q => kt q H locs ls hP hS hl) (fun q => kf q H locs ls hP hS hl)
theorem fm_icmp_le (C : fm_C p s m args c cc own nL D tys tA b N A) {x y : Int32} {off : Int} (tgt : Nat) (hdg : decode cc pc = .ok (.if_icmp .le off, 3)) (ht : (pc : Int) + off = (tgt : Int)) (kt : x ≤ y → fm_V p l e R s m args below meth c D b N sh A Q nL tgt lv rest v) (np : Nat) (hnp : pc + 3 = np) (kf : ¬ x ≤ y → fm_V p l e R s m args below meth c D b N sh A Q nL np lv rest v) : fm_V p l e R s m args below meth c D b N sh A Q nL pc lv (.int y :: .int x :: rest) v := fun H locs ls hP hS hl => by subst hnp; exact lv_icmp_le C.1 C.2.1 hdg ht (fun q => kt q H locs ls hP hS hl) (fun q => kf q H locs ls hP hS hl)
theorem fm_goto (C : fm_C p s m args c cc own nL D tys tA b N A) {off : Int} (tgt : Nat) (hdg : decode cc pc = .ok (.goto off, 3)) (ht : (pc : Int) + off = (tgt : Int)) (k : fm_V p l e R s m args below meth c D b N sh A Q nL tgt lv rest v) : fm_V p l e R s m args below meth c D b N sh A Q nL pc lv rest v := fun H locs ls hP hS hl => lv_goto C.1 C.2.1 hdg ht (k H locs ls hP hS hl)
theorem fm_ifnull (C : fm_C p s m args c cc own nL D tys tA b N A) {x : Nat} {off : Int} (hdg : decode cc pc = .ok (.ifnull off, 3)) (np : Nat) (hnp : pc + 3 = np) (k : fm_V p l e R s m args below meth c D b N sh A Q nL np lv rest v) : fm_V p l e R s m args below meth c D b N sh A Q nL pc lv (.ref x :: rest) v := fun H locs ls hP hS hl => by subst hnp; exact lv_ifnull C.1 C.2.1 hdg (k H locs ls hP hS hl)
theorem fm_ifnullN (C : fm_C p s m args c cc own nL D tys tA b N A) {off : Int} (tgt : Nat) (hdg : decode cc pc = .ok (.ifnull off, 3)) (ht : (pc : Int) + off = (tgt : Int)) (k : fm_V p l e R s m args below meth c D b N sh A Q nL tgt lv rest v) : fm_V p l e R s m args below meth c D b N sh A Q nL pc lv (.null :: rest) v := fun H locs ls hP hS hl => lv_ifnullN C.1 C.2.1 hdg ht (k H locs ls hP hS hl)
theorem fm_ifnonnull (C : fm_C p s m args c cc own nL D tys tA b N A) {x : Nat} {off : Int} (tgt : Nat) (hdg : decode cc pc = .ok (.ifnonnull off, 3)) (ht : (pc : Int) + off = (tgt : Int)) (k : fm_V p l e R s m args below meth c D b N sh A Q nL tgt lv rest v) : fm_V p l e R s m args below meth c D b N sh A Q nL pc lv (.ref x :: rest) v := fun H locs ls hP hS hl => lv_ifnonnull C.1 C.2.1 hdg ht (k H locs ls hP hS hl)
theorem fm_ifnonnullN (C : fm_C p s m args c cc own nL D tys tA b N A) {off : Int} (hdg : decode cc pc = .ok (.ifnonnull off, 3)) (np : Nat) (hnp : pc + 3 = np) (k : fm_V p l e R s m args below meth c D b N sh A Q nL np lv rest v) : fm_V p l e R s m args below meth c D b N sh A Q nL pc lv (.null :: rest) v := fun H locs ls hP hS hl => by subst hnp; exact lv_ifnonnullN C.1 C.2.1 hdg (k H locs ls hP hS hl)
theorem fm_tableOut (C : fm_C p s m args c cc own nL D tys tA b N A) {dflt lo hi : Int} {offs : Array Int} {len : Nat} {x : Int32} (tgt : Nat) (hdg : decode cc pc = .ok (.tableswitch dflt lo hi offs, len)) (h : x.toInt < lo ∨ hi < x.toInt) (ht : (pc : Int) + dflt = (tgt : Int)) (k : fm_V p l e R s m args below meth c D b N sh A Q nL tgt lv rest v) : fm_V p l e R s m args below meth c D b N sh A Q nL pc lv (.int x :: rest) v := fun H locs ls hP hS hl => lv_tableOut C.1 C.2.1 hdg h ht (k H locs ls hP hS hl)
theorem fm_tableIn (C : fm_C p s m args c cc own nL D tys tA b N A) {dflt lo hi : Int} {offs : Array Int} {len : Nat} {x : Int32} {off : Int} (tgt : Nat) (hdg : decode cc pc = .ok (.tableswitch dflt lo hi offs, len)) (h1 : ¬ x.toInt < lo) (h2 : ¬ hi < x.toInt) (ho : offs[(x.toInt - lo).toNat]? = some off) (ht : (pc : Int) + off = (tgt : Int)) (k : fm_V p l e R s m args below meth c D b N sh A Q nL tgt lv rest v) : fm_V p l e R s m args below meth c D b N sh A Q nL pc lv (.int x :: rest) v := fun H locs ls hP hS hl => lv_tableIn C.1 C.2.1 hdg h1 h2 ho ht (k H locs ls hP hS hl)
theorem fm_lookup (C : fm_C p s m args c cc own nL D tys tA b N A) {dflt : Int} {ps : Array (Int × Int)} {len : Nat} {x : Int32} {off : Int} (tgt : Nat) (hdg : decode cc pc = .ok (.lookupswitch dflt ps, len)) (hp : (ps.toList.zip (ps.toList.drop 1)).all (fun (a, next) => a.1 < next.1) = true) (ho : Op.lookupswitch.offset ps.toList dflt x.toInt = off) (ht : (pc : Int) + off = (tgt : Int)) (k : fm_V p l e R s m args below meth c D b N sh A Q nL tgt lv rest v) : fm_V p l e R s m args below meth c D b N sh A Q nL pc lv (.int x :: rest) v := fun H locs ls hP hS hl => lv_lookup C.1 C.2.1 hdg hp ho ht (k H locs ls hP hS hl)
theorem fm_w_c {t : Nat} {x : va_E} (hsh : sh t (v t) = x) (ht : t < N) : (fm_w b N (fm_c sh v))[t]? = some (b + t, x) := by
  rw [fm_w_get ht]
  show some (b + t, sh t (v t)) = _
  rw [hsh]
theorem fm_get (C : fm_C p s m args c cc own nL D tys tA b N A) {t ci n : Nat} {fs : List Value} {Cn : String} {T : u_T} {index : Nat} (ht : t < N) (hsh : sh t (v t) = .inr (ci, fs)) (hc : vwCl[ci]? = some (Cn, T, n)) (hin : ∀ w ∈ u_ws Cn T n, w ∈ gtbl) (k : Nat) (hk : k < n) (hlink : Cond.fieldLink own index (T k).1 (T k).2.1 (T k).2.2.1 ∈ gtbl) {x : Value} (hv : fs[k]? = some x) (hdg : decode cc pc = .ok (.getfield index, 3)) (np : Nat) (hnp : pc + 3 = np) (kk : fm_V p l e R s m args below meth c D b N sh A Q nL np lv (x :: rest) v) : fm_V p l e R s m args below meth c D b N sh A Q nL pc lv (.ref (b + t) :: rest) v := fun H locs ls hP hS hl => by subst hnp; exact va_get C.1 C.2.1 C.2.2.2.2.1 hin C.2.2.2.1 C.2.2.2.2.2.1 hP t (fm_w_c hsh ht) hc k hk (C.2.2.2.2.1 _ hlink) (fun _ h => h) hv hdg (kk H locs ls hP hS hl)
theorem fm_getN (C : fm_C p s m args c cc own nL D tys tA b N A) {t ci n : Nat} {fs : List Value} {Cn : String} {T : u_T} {index : Nat} (ht : t < N) (hsh : sh t (v t) = .inr (ci, fs)) (hc : vwCl[ci]? = some (Cn, T, n)) (hin : ∀ w ∈ u_ws Cn T n, w ∈ gtbl) (k : Nat) (hk : k < n) {host : String} (hlink : Cond.fieldLinkNest own index (T k).1 (T k).2.1 (T k).2.2.1 host ∈ fm_nest) {x : Value} (hv : fs[k]? = some x) (hdg : decode cc pc = .ok (.getfield index, 3)) (np : Nat) (hnp : pc + 3 = np) (kk : fm_V p l e R s m args below meth c D b N sh A Q nL np lv (x :: rest) v) : fm_V p l e R s m args below meth c D b N sh A Q nL pc lv (.ref (b + t) :: rest) v := fun H locs ls hP hS hl => by subst hnp; exact va_getN C.1 C.2.1 C.2.2.2.2.1 hin C.2.2.2.1 C.2.2.2.2.2.1 hP t (fm_w_c hsh ht) hc k hk (va_Nw.use rfl (C.2.2.2.2.2.2.1 _ hlink)) (fun _ h => h) hv hdg (kk H locs ls hP hS hl)
theorem fm_put (C : fm_C p s m args c cc own nL D tys tA b N A) {t ci n : Nat} {fs : List Value} {Cn : String} {T : u_T} {index : Nat} (ht : t < N) (hsh : sh t (v t) = .inr (ci, fs)) (hc : vwCl[ci]? = some (Cn, T, n)) (hin : ∀ w ∈ u_ws Cn T n, w ∈ gtbl) (k : Nat) (hk : k < n) (hlink : Cond.fieldLink own index (T k).1 (T k).2.1 (T k).2.2.1 ∈ gtbl) (ty0 : Nat → FieldType) (hty : ∀ k, k < n → parseFieldDescriptor (T k).2.2.1 = some (ty0 k)) (hnm : ∀ a, a < n → ∀ b, b < n → a ≠ b → (T a).2.1 ≠ (T b).2.1) (hfin : (T k).2.2.2 = false) {x : Int32} {ty : FieldType} (hd : parseFieldDescriptor (T k).2.2.1 = some ty) (hn : narrow ty (.int x) = .int x) (hfit : fits ty (.int x) = true) (hl : k < fs.length) (hset : sh t (upd (v t) k x) = .inr (ci, fs.set k (.int x))) (hdg : decode cc pc = .ok (.putfield index, 3)) (np : Nat) (hnp : pc + 3 = np) (v2 : fm_T) (hv2 : fm_u v t k x = v2) (kk : fm_V p l e R s m args below meth c D b N sh A Q nL np lv rest v2) : fm_V p l e R s m args below meth c D b N sh A Q nL pc lv (.int x :: .ref (b + t) :: rest) v := fun H locs ls hP hS hlv => by subst hnp; subst hv2; exact va_put C.1 C.2.1 C.2.2.2.2.1 hin ty0 hty hnm C.2.2.2.1 C.2.2.2.2.2.1 hP (fm_w_D C.2.2.2.2.2.2.2.1) hS t (fm_w_c hsh ht) hc k hk (C.2.2.2.2.1 _ hlink) (fun _ h => h) hfin hd hn hfit hl hdg (fun H1 locs1 hP1 _ hS1 => kk H1 locs1 ls (by
    rw [fm_w_set, ← hset, fm_c_up] at hP1
    exact hP1) hS1 hlv)
theorem fm_putN (C : fm_C p s m args c cc own nL D tys tA b N A) {t ci n : Nat} {fs : List Value} {Cn : String} {T : u_T} {index : Nat} (ht : t < N) (hsh : sh t (v t) = .inr (ci, fs)) (hc : vwCl[ci]? = some (Cn, T, n)) (hin : ∀ w ∈ u_ws Cn T n, w ∈ gtbl) (k : Nat) (hk : k < n) {host : String} (hlink : Cond.fieldLinkNest own index (T k).1 (T k).2.1 (T k).2.2.1 host ∈ fm_nest) (ty0 : Nat → FieldType) (hty : ∀ k, k < n → parseFieldDescriptor (T k).2.2.1 = some (ty0 k)) (hnm : ∀ a, a < n → ∀ b, b < n → a ≠ b → (T a).2.1 ≠ (T b).2.1) (hfin : (T k).2.2.2 = false) {x : Int32} {ty : FieldType} (hd : parseFieldDescriptor (T k).2.2.1 = some ty) (hn : narrow ty (.int x) = .int x) (hfit : fits ty (.int x) = true) (hl : k < fs.length) (hset : sh t (upd (v t) k x) = .inr (ci, fs.set k (.int x))) (hdg : decode cc pc = .ok (.putfield index, 3)) (np : Nat) (hnp : pc + 3 = np) (v2 : fm_T) (hv2 : fm_u v t k x = v2) (kk : fm_V p l e R s m args below meth c D b N sh A Q nL np lv rest v2) : fm_V p l e R s m args below meth c D b N sh A Q nL pc lv (.int x :: .ref (b + t) :: rest) v := fun H locs ls hP hS hlv => by subst hnp; subst hv2; exact va_putN C.1 C.2.1 C.2.2.2.2.1 hin ty0 hty hnm C.2.2.2.1 C.2.2.2.2.2.1 hP (fm_w_D C.2.2.2.2.2.2.2.1) hS t (fm_w_c hsh ht) hc k hk (va_Nw.use rfl (C.2.2.2.2.2.2.1 _ hlink)) (fun _ h => h) hfin hd hn hfit hl hdg (fun H1 locs1 hP1 _ hS1 => kk H1 locs1 ls (by
    rw [fm_w_set, ← hset, fm_c_up] at hP1
    exact hP1) hS1 hlv)
theorem fm_iald (C : fm_C p s m args c cc own nL D tys tA b N A) {t t0 n : Nat} {cA : ClassId} (ht : t < N) (hsh : sh t (v t) = .inl (cA, n, .inl (v t))) (hty : tys[t0]? = some (cA, .int)) {i : Int32} (hi : ¬ (i < 0 ∨ n ≤ i.toNatClampNeg)) (hdg : decode cc pc = .ok (.iaload, 1)) (np : Nat) (hnp : pc + 1 = np) (kk : fm_V p l e R s m args below meth c D b N sh A Q nL np lv (.int (v t i.toNatClampNeg) :: rest) v) : fm_V p l e R s m args below meth c D b N sh A Q nL pc lv (.int i :: .ref (b + t) :: rest) v := fun H locs ls hP hS hl => by subst hnp; exact va_iald C.1 C.2.1 C.2.2.2.2.2.1 hP t t0 (fm_w_c hsh ht) hty hi hdg (kk H locs ls hP hS hl)
theorem fm_iast (C : fm_C p s m args c cc own nL D tys tA b N A) {t t0 n : Nat} {cA : ClassId} (ht : t < N) (hsh : ∀ f, sh t f = .inl (cA, n, .inl f)) (hty : tys[t0]? = some (cA, .int)) {i x : Int32} (hi : ¬ (i < 0 ∨ n ≤ i.toNatClampNeg)) (hdg : decode cc pc = .ok (.iastore, 1)) (np : Nat) (hnp : pc + 1 = np) (v2 : fm_T) (hv2 : fm_u v t i.toNatClampNeg x = v2) (kk : fm_V p l e R s m args below meth c D b N sh A Q nL np lv rest v2) : fm_V p l e R s m args below meth c D b N sh A Q nL pc lv (.int x :: .int i :: .ref (b + t) :: rest) v := fun H locs ls hP hS hl => by subst hnp; subst hv2; exact va_iast C.1 C.2.1 C.2.2.2.2.2.1 hP (fm_w_D C.2.2.2.2.2.2.2.1) hS t t0 (fm_w_c (hsh (v t)) ht) hty hi hdg (fun H1 locs1 hP1 _ hS1 => kk H1 locs1 ls (by
    rw [fm_w_set, ← hsh, fm_c_up] at hP1
    exact hP1) hS1 hl)
theorem fm_alen (C : fm_C p s m args c cc own nL D tys tA b N A) {t t0 : Nat} {cA : ClassId} {a : vp_A} {ty : FieldType} (ht : t < N) (hsh : sh t (v t) = .inl (cA, a)) (hty : tys[t0]? = some (cA, ty)) {x : Int32} (hx : Int32.ofNat a.1 = x) (hdg : decode cc pc = .ok (.arraylength, 1)) (np : Nat) (hnp : pc + 1 = np) (kk : fm_V p l e R s m args below meth c D b N sh A Q nL np lv (.int x :: rest) v) : fm_V p l e R s m args below meth c D b N sh A Q nL pc lv (.ref (b + t) :: rest) v := fun H locs ls hP hS hl => by subst hnp; exact va_alen C.1 C.2.1 C.2.2.2.2.2.1 hP t t0 (fm_w_c hsh ht) hty hx hdg (kk H locs ls hP hS hl)
theorem fm_aald (C : fm_C p s m args c cc own nL D tys tA b N A) {t t0 n : Nat} {cA : ClassId} {g : Nat → Option Nat} {ty : FieldType} (ht : t < N) (hsh : sh t (v t) = .inl (cA, n, .inr (.inr (.inr (.inr g))))) (hty : tys[t0]? = some (cA, ty)) (hr : ty.isReference = true) {i : Int32} (hi : ¬ (i < 0 ∨ n ≤ i.toNatClampNeg)) {x : Nat} (hx : g i.toNatClampNeg = some x) (hdg : decode cc pc = .ok (.aaload, 1)) (np : Nat) (hnp : pc + 1 = np) (kk : fm_V p l e R s m args below meth c D b N sh A Q nL np lv (.ref x :: rest) v) : fm_V p l e R s m args below meth c D b N sh A Q nL pc lv (.int i :: .ref (b + t) :: rest) v := fun H locs ls hP hS hl => by
  subst hnp
  have hlt : i.toNatClampNeg < n := Nat.not_le.mp fun q => hi (Or.inr q)
  exact W.aald (v := .ref x) (ty := ty) C.1 C.2.1 (hP t _ (fm_w_c hsh ht)) ((C.2.2.2.2.2.1.2 t0 _ hty).1 n (fun j => va_rf (g j))) hr (fun q => by cases q) (by show ¬ (i < 0 ∨ (arrV _ _ _).slots.size ≤ _); rw [arrV_size]; exact hi) (by show (arrV _ _ _).slots[_]? = _; rw [arrV_read _ _ hlt, hx]; rfl) rfl rfl hdg (kk H locs ls hP hS hl)
theorem fm_gets (C : fm_C p s m args c cc own nL D tys tA b N A) {index : Nat} {host : String} (hlink : Cond.fieldLinkNest own index "ConstantStarts" "NAMED_CONSTANTS" "[I" host ∈ fm_nest) (hdg : decode cc pc = .ok (.getstatic index, 3)) (np : Nat) (hnp : pc + 3 = np) (kk : fm_V p l e R s m args below meth c D b N sh A Q nL np lv (.ref tA :: rest) v) : fm_V p l e R s m args below meth c D b N sh A Q nL pc lv rest v := fun H locs ls hP hS hl => by subst hnp; exact va_getsN C.1 C.2.1 C.2.2.2.2.2.2.2.2.1 hS C.2.2.2.1 (va_Nw.use rfl (C.2.2.2.2.2.2.1 _ hlink)) (fun _ h => h) hdg (kk H locs ls hP hS hl)
theorem fm_ti (C : fm_C p s m args c cc own nL D tys tA b N A) {i : Int32} (hi : ¬ (i < 0 ∨ 12 ≤ i.toNatClampNeg)) (hdg : decode cc pc = .ok (.iaload, 1)) (np : Nat) (hnp : pc + 1 = np) (kk : fm_V p l e R s m args below meth c D b N sh A Q nL np lv (.int (([0, 1, 2, 2, 1, 1, 0, 3, 0, 0, 0, 1] : List Int32).getD i.toNatClampNeg 0) :: rest) v) : fm_V p l e R s m args below meth c D b N sh A Q nL pc lv (.int i :: .ref tA :: rest) v := fun H locs ls hP hS hl => by subst hnp; exact va_ti C.1 C.2.1 C.2.2.2.2.2.2.2.2.2 hS hi rfl hdg (kk H locs ls hP hS hl)
theorem fm_tlen (C : fm_C p s m args c cc own nL D tys tA b N A) (hdg : decode cc pc = .ok (.arraylength, 1)) (np : Nat) (hnp : pc + 1 = np) (kk : fm_V p l e R s m args below meth c D b N sh A Q nL np lv (.int 12 :: rest) v) : fm_V p l e R s m args below meth c D b N sh A Q nL pc lv (.ref tA :: rest) v := fun H locs ls hP hS hl => by subst hnp; exact va_tlen C.1 C.2.1 C.2.2.2.2.2.2.2.2.2 hS (by decide) hdg (kk H locs ls hP hS hl)
theorem fm_copy (C : fm_C p s m args c cc own nL D tys tA b N A) {index t0 t1 j0 n0 n1 : Nat} {cA : ClassId} (h0 : t0 < N) (h1 : t1 < N) (hs0 : sh t0 (v t0) = .inl (cA, n0, .inl (v t0))) (hs1 : ∀ f, sh t1 f = .inl (cA, n1, .inl f)) (hty : tys[j0]? = some (cA, .int)) (hlink : Cond.methodLink own index arraycopyName ∈ gtbl) (hnat : Cond.native arraycopyName ∈ gtbl) (hstat : Cond.static arraycopyName ∈ gtbl) (hini : Cond.initialized "java/lang/System" ∈ gtbl)
    {sp dp n : Int32} (g1 : ¬ sp < 0) (g2 : ¬ dp < 0) (g3 : ¬ n < 0) (g4 : sp.toNatClampNeg + n.toNatClampNeg ≤ n0) (g5 : dp.toNatClampNeg + n.toNatClampNeg ≤ n1) (hframes : 1 ≤ R.frames) (hlocals : (rest.map fun v => v.category).sum + (nativeFrameWords "java/lang/System" "arraycopy" 5 + 11) ≤ R.locals) (hdg : decode cc pc = .ok (.invokestatic index, 3))
    (np : Nat) (hnp : pc + 3 = np) (v2 : fm_T) (hv2 : va_up v t1 (va_cpy (v t0) (v t1) sp.toNatClampNeg dp.toNatClampNeg n.toNatClampNeg) = v2) (kk : fm_V p l e R s m args below meth c D b N sh A Q nL np lv rest v2) : fm_V p l e R s m args below meth c D b N sh A Q nL pc lv (.int n :: .int dp :: .ref (b + t1) :: .int sp :: .ref (b + t0) :: rest) v := fun H locs ls hP hS hl => by
  subst hnp
  subst hv2
  exact
  va_copyi C.1 C.2.1 (by rw [C.2.2.1]; exact hl.1.symm) C.2.2.2.1 (C.2.2.2.2.1 _ hlink) (C.2.2.2.2.1 _ hnat) (C.2.2.2.2.1 _ hstat) (C.2.2.2.2.1 _ hini) C.2.2.2.2.2.1 hP (fm_w_D C.2.2.2.2.2.2.2.1) hS t0 t1 j0 j0 (fm_w_c hs0 h0) (fm_w_c (hs1 (v t1)) h1) hty hty rfl g1 g2 g3 g4 g5 (fun _ _ => rfl) hframes hlocals hdg (fun H1 locs1 hP1 _ hS1 => kk H1 locs1 ls (by
    rw [fm_w_set, ← hs1, fm_c_up] at hP1
    exact hP1) hS1 hl)
theorem fm_lv (ks : List Nat) (lv2 : List (Nat × Value)) (h : lv_pick lv ks = lv2) (k : fm_V p l e R s m args below meth c D b N sh A Q nL pc lv2 rest v) : fm_V p l e R s m args below meth c D b N sh A Q nL pc lv rest v := fun H locs ls hP hS hl => k H locs ls hP hS (lv_sub hl ks h)
theorem fm_iret (C : fm_C p s m args c cc own nL D tys tA b N A) (hr : meth.sig.returnType = some .int) (hk : meth.locks = false) {x : Int32} (hdg : decode cc pc = .ok (.ireturn, 1)) : fm_V p l e R s m args below meth c D b N sh A (MQ below (fm_Q D b N sh A (some (.int x)) v) args s 0 0 A) nL pc lv [.int x] v := fun H locs ls hP hS hl => W.iret C.1 C.2.1 hr (fun t ht _ => ⟨rfl, by rw [ht]; exact hP, hS.F ht⟩) hS.2.2 hdg hk
theorem fm_zret (C : fm_C p s m args c cc own nL D tys tA b N A) (hr : meth.sig.returnType = some .boolean) (hk : meth.locks = false) {x : Int32} (hx : x = 0 ∨ x = 1) (hdg : decode cc pc = .ok (.ireturn, 1)) : fm_V p l e R s m args below meth c D b N sh A (MQ below (fm_Q D b N sh A (some (.int x)) v) args s 0 0 A) nL pc lv [.int x] v := fun H locs ls hP hS hl => W.zret C.1 C.2.1 hr (by rcases hx with rfl | rfl <;> decide) (fun t ht _ => ⟨rfl, by rw [ht]; exact hP, hS.F ht⟩) hS.2.2 hdg hk
theorem fm_vret (C : fm_C p s m args c cc own nL D tys tA b N A) (hr : meth.sig.returnType = none) (hk : meth.locks = false) (hdg : decode cc pc = .ok (.return_, 1)) : fm_V p l e R s m args below meth c D b N sh A (MQ below (fm_Q D b N sh A none v) args s 0 0 A) nL pc lv [] v := fun H locs ls hP hS hl => W.vret C.1 C.2.1 hr (fun t ht _ => ⟨rfl, by rw [ht]; exact hP, hS.F ht⟩) hS.2.2 hdg hk
theorem fm_aret (C : fm_C p s m args c cc own nL D tys tA b N A) {rt : FieldType} (hr : meth.sig.returnType = some rt) (hrt : (∃ n, rt = .object n) ∨ ∃ t, rt = .array t) (hk : meth.locks = false) {x : Value} (hx : x = .null ∨ ∃ a, x = .ref a) (hdg : decode cc pc = .ok (.areturn, 1)) : fm_V p l e R s m args below meth c D b N sh A (MQ below (fm_Q D b N sh A (some x) v) args s 0 0 A) nL pc lv [x] v := fun H locs ls hP hS hl => W.aret C.1 C.2.1 hr hrt hx (fun t ht _ => ⟨rfl, by rw [ht]; exact hP, hS.F ht⟩) hS.2.2 hdg hk
theorem fm_run {y : MethodName} {r : Option Value} {v2 : fm_T} {H : Heap} {locs : List Loc} {ls : Array Slot} {st0 : List Value} {a : Array Value} (hr : va_Run p l e R s m args below meth c H locs 0 0 0 0 (F0 m pc ls st0) rest (fm_Q D b N sh A r v2 a) A) (hS : va_S A s.heap H locs) (hl : lv_has ls nL lv) (kk : fm_V p l e R s m args below meth c D b N sh A Q nL (pc + 3) lv (r.toList ++ rest) v2) : W p l e R s m args below meth c H locs 0 0 Q (F0 m pc ls st0) := by
  intro T hT X
  obtain ⟨x, st₀, t, T2, L, h0, X2, hL, e1, e2, ⟨hv, hb, hz, hk⟩, st⟩ := hr T hT X
  cases hv
  rw [h0] at hz hk
  obtain ⟨t2, a1, b1⟩ := kk T2.heap (locs ++ L) ls (by rw [e1]; exact hb) ⟨Nat.le_trans hS.1 (by rw [e1]; exact hz), fun q h1 h2 => by rw [e1, hk q (Nat.lt_of_lt_of_le h1 hS.1) h2]; exact hS.2.1 q h1 h2, fun q hq => by
      rcases List.mem_append.mp hq with h | h
      · exact hS.2.2 q h
      · exact hL q h⟩ hl T2 rfl X2
  exact ⟨t2, st t2 a1, b1⟩
theorem fm_callV (C : fm_C p s m args c cc own nL D tys tA b N A) {y : MethodName} {cy : ByteArray} {ny n h : Nat} {rety : Option FieldType} {As : List Value} {r : Option Value} {v2 : fm_T} {index : Nat} (hY : fm_Y y cy ny rety n) {t ci nn : Nat} {fs : List Value} {Cn : String} {T : u_T} (ht : t < N) (hsh : sh t (v t) = .inr (ci, fs)) (hc : vwCl[ci]? = some (Cn, T, nn)) (hw : Cond.methodLink own index y ∈ gtbl ∧ Cond.instanceMethod y ∈ gtbl ∧ Cond.selects Cn y y ∈ gtbl) (hM : fm_M l D tys tA b N sh A y cy ny rety h (.ref (b + t) :: As) v r v2) (hF : h + 1 ≤ R.frames) (hLo : 40 * (h + 1) ≤ R.locals) (hn : As.length = n) (hrest : (rest.map fun v => v.category).sum ≤ 8) (hdg : decode cc pc = .ok (.invokevirtual index, 3)) (np : Nat) (hnp : pc + 3 = np) (st2 : List Value) (hst : r.toList ++ rest = st2) (kk : fm_V p l e R s m args below meth c D b N sh A Q nL np lv st2 v2) : fm_V p l e R s m args below meth c D b N sh A Q nL pc lv (As.reverse ++ .ref (b + t) :: rest) v := fun H locs ls hP hS hl => by
  subst hnp
  subst hst
  have hts := C.2.2.2.2.1
  obtain ⟨y1, y2, y3, y4⟩ := hY
  have hcb : CallB R s args own index y cy ny rety (.code y cy ny rety :: gtbl) (fm_rm h) 0 0 n := callB_of n hts (gtbl_GoodIn (fun _ h => h) y1) rfl rfl rfl (hts _ y2) (hts _ hw.1) y3 ⟨hF, by show 8 + (ny + 11) + 40 * h ≤ R.locals; omega⟩
  exact fm_run (y := y) (va_runV (Ts := gtbl) ⟨C.1, C.2.1, C.2.2.1, C.2.2.2.1, hts⟩ hM ⟨hcb, hts _ hw.2.1, hts _ hw.2.2⟩ ⟨fm_blind, va_recv (q0 := t) C.2.2.2.2.2.1 hP hc (fm_w_c hsh ht), fun U hU hW => ⟨rfl, by rw [hU]; exact hP, C.2.2.2.2.2.to hW (locs := locs) (by rw [hU]; exact hS)⟩⟩ rfl hn hl.1 rfl (lv_room hrest) hdg ⟨Nat.zero_le _, Nat.zero_le _⟩) hS hl kk
theorem fm_callN (C : fm_C p s m args c cc own nL D tys tA b N A) {y : MethodName} {cy : ByteArray} {ny n h : Nat} {rety : Option FieldType} {As : List Value} {r : Option Value} {v2 : fm_T} {index : Nat} (hY : fm_Y y cy ny rety n) {t ci nn : Nat} {fs : List Value} {Cn : String} {T : u_T} (ht : t < N) (hsh : sh t (v t) = .inr (ci, fs)) (hc : vwCl[ci]? = some (Cn, T, nn)) {host : String} (hw : Cond.methodLinkNest own index y host ∈ fm_nest ∧ Cond.instanceMethod y ∈ gtbl ∧ Cond.selects Cn y y ∈ gtbl) (hM : fm_M l D tys tA b N sh A y cy ny rety h (.ref (b + t) :: As) v r v2) (hF : h + 1 ≤ R.frames) (hLo : 40 * (h + 1) ≤ R.locals) (hn : As.length = n) (hrest : (rest.map fun v => v.category).sum ≤ 8) (hdg : decode cc pc = .ok (.invokevirtual index, 3)) (np : Nat) (hnp : pc + 3 = np) (st2 : List Value) (hst : r.toList ++ rest = st2) (kk : fm_V p l e R s m args below meth c D b N sh A Q nL np lv st2 v2) : fm_V p l e R s m args below meth c D b N sh A Q nL pc lv (As.reverse ++ .ref (b + t) :: rest) v := fun H locs ls hP hS hl => by
  subst hnp
  subst hst
  have hts := C.2.2.2.2.1
  obtain ⟨y1, y2, y3, y4⟩ := hY
  have hcb : va_CN R s args own index y host cy ny rety (.code y cy ny rety :: gtbl) (fm_rm h) 0 0 n := va_cnB n hts (gtbl_GoodIn (fun _ h => h) y1) rfl rfl rfl (C.2.2.2.2.2.2.1 _ hw.1) (hts _ y2) y3 ⟨hF, by show 8 + (ny + 11) + 40 * h ≤ R.locals; omega⟩
  exact fm_run (y := y) (va_runVN (Ts := gtbl) ⟨C.1, C.2.1, C.2.2.1, C.2.2.2.1, hts⟩ hM ⟨hcb, hts _ hw.2.1, hts _ hw.2.2⟩ ⟨fm_blind, va_recv (q0 := t) C.2.2.2.2.2.1 hP hc (fm_w_c hsh ht), fun U hU hW => ⟨rfl, by rw [hU]; exact hP, C.2.2.2.2.2.to hW (locs := locs) (by rw [hU]; exact hS)⟩⟩ rfl hn hl.1 rfl (lv_room hrest) hdg ⟨Nat.zero_le _, Nat.zero_le _⟩) hS hl kk
theorem fm_callS (C : fm_C p s m args c cc own nL D tys tA b N A) {y : MethodName} {cy : ByteArray} {ny n h : Nat} {rety : Option FieldType} {As : List Value} {r : Option Value} {v2 : fm_T} {index : Nat} (hY : fm_Y y cy ny rety n) (hw : Cond.methodLink own index y ∈ gtbl ∧ Cond.static y ∈ gtbl) (hM : fm_M l D tys tA b N sh A y cy ny rety h As v r v2) (hF : h + 1 ≤ R.frames) (hLo : 40 * (h + 1) ≤ R.locals) (hn : As.length = n) (hrest : (rest.map fun v => v.category).sum ≤ 8) (hdg : decode cc pc = .ok (.invokestatic index, 3)) (np : Nat) (hnp : pc + 3 = np) (st2 : List Value) (hst : r.toList ++ rest = st2) (kk : fm_V p l e R s m args below meth c D b N sh A Q nL np lv st2 v2) : fm_V p l e R s m args below meth c D b N sh A Q nL pc lv (As.reverse ++ rest) v := fun H locs ls hP hS hl => by
  subst hnp
  subst hst
  have hts := C.2.2.2.2.1
  obtain ⟨y1, y2, y3, y4⟩ := hY
  have hcb : CallB R s args own index y cy ny rety (.code y cy ny rety :: gtbl) (fm_rm h) 0 0 n := callB_of n hts (gtbl_GoodIn (fun _ h => h) y1) rfl rfl rfl (hts _ y2) (hts _ hw.1) y3 ⟨hF, by show 8 + (ny + 11) + 40 * h ≤ R.locals; omega⟩
  exact fm_run (y := y) (va_runS (Ts := gtbl) ⟨C.1, C.2.1, C.2.2.1, C.2.2.2.1, hts⟩ hM ⟨hcb, hts _ hw.2⟩ ⟨fm_blind, fun U hU hW => ⟨rfl, by rw [hU]; exact hP, C.2.2.2.2.2.to hW (locs := locs) (by rw [hU]; exact hS)⟩⟩ rfl hn hl.1 rfl (lv_room hrest) hdg ⟨Nat.zero_le _, Nat.zero_le _⟩) hS hl kk
end FM
/-- the entry: a contract out of the walk of the body -/
theorem fm_entry {l : Launch} {D : va_G} {tys : List (ClassId × FieldType)} {tA b N : Nat} {sh : fm_S} {A : Nat → Prop} {y : MethodName} {cc : ByteArray} {nL : Nat} {ret : Option FieldType} {h : Nat} {av : List Value} {v v2 : fm_T} {r : Option Value} (hy : plainName y.cls = true) (hlen : (lg_sl av).length ≤ nL)
    (body : ∀ (p : Program) (e : Env) (R : Room) (s : State) (m : MethodId) (args : Array Value) (below : List Frame) (meth : Method) (c : Code), fm_C p s m args c cc y.cls nL D tys tA b N A → meth.sig.returnType = ret → meth.locks = false → h ≤ R.frames → 40 * h ≤ R.locals →
      fm_V p l e R s m args below meth c D b N sh A (MQ below (fm_Q D b N sh A r v2) args s 0 0 A) nL 0 (lv_args 0 av) [] v) : fm_M l D tys tA b N sh A y cc nL ret h av v r v2 := by
  refine Met.ofW (cc := cc) (maxL := nL) (ret := ret) hy rfl ?_
  intro p e s m args below meth c s₁ B hml hv
  obtain ⟨rfl, hP, hK⟩ := hv
  have hts := atoms_spec (ws := .code y cc nL ret :: gtbl) B.pre
  have hl := lv_entry av (n := nL) hlen
  rw [lg_entry_eq]
  exact body p e _ s m av.toArray below meth c ⟨B.exec, B.bytes, hml, findClass_of_methodNamed B.named, fun w hw => hts w (List.mem_cons_of_mem _ hw), hK⟩ B.returns B.notSynchronized (Nat.le_refl _) (Nat.le_refl _) s.heap [] _ hP va_S.rf hl
end
section
abbrev fm_tys (cI cII cLd cOc : ClassId) : List (ClassId × FieldType) := [(cI, .int), (cII, .array .int), (cLd, .object "ConstantStarts$Loader"), (cOc, .object "ConstantStarts$Outcome")]
/-- loader k (3: the one aside): its object, the block of its cells, its trace -/
def lo (k : Nat) : Nat := if k < 3 then 66 + 58 * k else 241
def bo (k : Nat) : Nat := if k < 3 then 67 + 58 * k else 245
def ev (k : Nat) : Nat := if k < 3 then 62 else 242
theorem k4 {k : Nat} (h : k < 4) : k = 0 ∨ k = 1 ∨ k = 2 ∨ k = 3 := by omega
abbrev shI (cI : ClassId) (n : Nat) (f : Nat → Int32) : va_E := .inl (cI, n, .inl f)
abbrev shR (c : ClassId) (n : Nat) (g : Nat → Nat) : va_E := .inl (c, n, .inr (.inr (.inr (.inr (fun i => if i < n then some (g i) else none)))))
abbrev shO (f : Nat → Int32) : va_E := .inr (1, [.int (f 0), .int (f 1), .int (f 2), .int (f 3), .int (f 4)])
abbrev shT (b t : Nat) (f : Nat → Int32) : va_E := .inr (3, [.ref (b + (t + 1)), .ref (b + (t + 2)), .int (f 2)])
abbrev shL (b e q : Nat) (f : Nat → Int32) : va_E := .inr (0, [.ref (b + 1), .ref (b + e), .ref (b + q), .ref (b + (q + 1)), .ref (b + (q + 14)), .ref (b + (q + 15)), .ref (b + (q + 16)), .int (f 7)])
def shB (cI cII cOc : ClassId) (b q r : Nat) (f : Nat → Int32) : va_E :=
  if r = 0 then shI cI 12 f else if r = 1 then shR cII 12 (fun i => b + (q + 2 + i)) else if r < 14 then shI cI 8 f else if r = 14 then shI cI 40 f else if r = 15 then shR cOc 40 (fun i => b + (q + 17 + i)) else shO f
def shC (cI cII cLd cOc : ClassId) (b : Nat) : fm_S := fun t f =>
  if t = 0 then .inr (4, [.ref (b + 1), .ref (b + ev 0), .ref (b + 65), .ref (b + 240), .int (f 4), .ref (b + lo 3), .ref (b + 302), .ref (b + 303), .ref (b + 304), .int (f 9)])
  else if t = 1 then .inr (2, [.int (f 0), .ref (b + 2), .ref (b + 3), .ref (b + 16), .ref (b + 17), .ref (b + 30), .ref (b + 31), .ref (b + 44), .int (f 8), .ref (b + 57), .ref (b + 58), .ref (b + 59), .ref (b + 60), .ref (b + 61)])
  else if t = 2 then shI cI 12 f
  else if t = 3 then shR cII 12 (fun i => b + (4 + i))
  else if t < 16 then shI cI 8 f
  else if t = 16 then shI cI 12 f
  else if t = 17 then shR cII 12 (fun i => b + (18 + i))
  else if t < 30 then shI cI 6 f
  else if t = 30 then shI cI 12 f
  else if t = 31 then shR cII 12 (fun i => b + (32 + i))
  else if t < 44 then shI cI 6 f
  else if t = 44 then shR cII 12 (fun i => b + (45 + i))
  else if t < 57 then shI cI 6 f
  else if t < 62 then shI cI 40 f
  else if t = 62 then shT b 62 f
  else if t < 65 then shI cI 200 f
  else if t = 65 then shR cLd 3 (fun i => b + lo i)
  else if t = 66 then shL b 62 67 f
  else if t < 124 then shB cI cII cOc b 67 (t - 67) f
  else if t = 124 then shL b 62 125 f
  else if t < 182 then shB cI cII cOc b 125 (t - 125) f
  else if t = 182 then shL b 62 183 f
  else if t < 240 then shB cI cII cOc b 183 (t - 183) f
  else if t = 240 then shO f
  else if t = 241 then shL b 242 245 f
  else if t = 242 then shT b 242 f
  else if t < 245 then shI cI 200 f
  else if t < 302 then shB cI cII cOc b 245 (t - 245) f
  else shI cI 40 f
section SHC
variable {cI cII cLd cOc : ClassId} {b : Nat} {f : Nat → Int32}
abbrev SC (cI cII cLd cOc : ClassId) (b : Nat) : fm_S := shC cI cII cLd cOc b
theorem shC_0 (f : Nat → Int32) : shC cI cII cLd cOc b 0 f = .inr (4, [.ref (b + 1), .ref (b + ev 0), .ref (b + 65), .ref (b + 240), .int (f 4), .ref (b + lo 3), .ref (b + 302), .ref (b + 303), .ref (b + 304), .int (f 9)]) := rfl
theorem shC_1 (f : Nat → Int32) : shC cI cII cLd cOc b 1 f = .inr (2, [.int (f 0), .ref (b + 2), .ref (b + 3), .ref (b + 16), .ref (b + 17), .ref (b + 30), .ref (b + 31), .ref (b + 44), .int (f 8), .ref (b + 57), .ref (b + 58), .ref (b + 59), .ref (b + 60), .ref (b + 61)]) := rfl
theorem shC_2 (f : Nat → Int32) : shC cI cII cLd cOc b 2 f = shI cI 12 f := rfl
theorem shC_16 (f : Nat → Int32) : shC cI cII cLd cOc b 16 f = shI cI 12 f := rfl
theorem shC_30 (f : Nat → Int32) : shC cI cII cLd cOc b 30 f = shI cI 12 f := rfl
theorem shC_57 (f : Nat → Int32) : shC cI cII cLd cOc b 57 f = shI cI 40 f := rfl
theorem shC_58 (f : Nat → Int32) : shC cI cII cLd cOc b 58 f = shI cI 40 f := rfl
theorem shC_59 (f : Nat → Int32) : shC cI cII cLd cOc b 59 f = shI cI 40 f := rfl
theorem shC_60 (f : Nat → Int32) : shC cI cII cLd cOc b 60 f = shI cI 40 f := rfl
theorem shC_61 (f : Nat → Int32) : shC cI cII cLd cOc b 61 f = shI cI 40 f := rfl
theorem shC_302 (f : Nat → Int32) : shC cI cII cLd cOc b 302 f = shI cI 40 f := rfl
theorem shC_303 (f : Nat → Int32) : shC cI cII cLd cOc b 303 f = shI cI 40 f := rfl
theorem shC_304 (f : Nat → Int32) : shC cI cII cLd cOc b 304 f = shI cI 40 f := rfl
theorem shC_3 (f : Nat → Int32) : shC cI cII cLd cOc b 3 f = shR cII 12 (fun i => b + (4 + i)) := rfl
theorem shC_17 (f : Nat → Int32) : shC cI cII cLd cOc b 17 f = shR cII 12 (fun i => b + (18 + i)) := rfl
theorem shC_31 (f : Nat → Int32) : shC cI cII cLd cOc b 31 f = shR cII 12 (fun i => b + (32 + i)) := rfl
theorem shC_44 (f : Nat → Int32) : shC cI cII cLd cOc b 44 f = shR cII 12 (fun i => b + (45 + i)) := rfl
theorem shC_65 (f : Nat → Int32) : shC cI cII cLd cOc b 65 f = shR cLd 3 (fun i => b + lo i) := rfl
theorem shC_r4 {i : Nat} (hi : i < 12) (f : Nat → Int32) : shC cI cII cLd cOc b (4 + i) f = shI cI 8 f := by
  show (if 4 + i = 0 then _ else _) = _
  rw [if_neg (by omega), if_neg (by omega), if_neg (by omega), if_neg (by omega), if_pos (by omega)]
theorem shC_r18 {i : Nat} (hi : i < 12) (f : Nat → Int32) : shC cI cII cLd cOc b (18 + i) f = shI cI 6 f := by
  show (if 18 + i = 0 then _ else _) = _
  rw [if_neg (by omega), if_neg (by omega), if_neg (by omega), if_neg (by omega), if_neg (by omega), if_neg (by omega), if_neg (by omega), if_pos (by omega)]
theorem shC_r32 {i : Nat} (hi : i < 12) (f : Nat → Int32) : shC cI cII cLd cOc b (32 + i) f = shI cI 6 f := by
  show (if 32 + i = 0 then _ else _) = _
  rw [if_neg (by omega), if_neg (by omega), if_neg (by omega), if_neg (by omega), if_neg (by omega), if_neg (by omega), if_neg (by omega), if_neg (by omega), if_neg (by omega), if_neg (by omega), if_pos (by omega)]
theorem shC_r45 {i : Nat} (hi : i < 12) (f : Nat → Int32) : shC cI cII cLd cOc b (45 + i) f = shI cI 6 f := by
  show (if 45 + i = 0 then _ else _) = _
  rw [if_neg (by omega), if_neg (by omega), if_neg (by omega), if_neg (by omega), if_neg (by omega), if_neg (by omega), if_neg (by omega), if_neg (by omega), if_neg (by omega), if_neg (by omega), if_neg (by omega), if_neg (by omega), if_pos (by omega)]
theorem shC_lo {k : Nat} (hk : k < 4) (f : Nat → Int32) : shC cI cII cLd cOc b (lo k) f = shL b (ev k) (bo k) f := by
  rcases k4 hk with rfl | rfl | rfl | rfl <;> rfl
theorem shC_ev {k : Nat} (hk : k < 4) (f : Nat → Int32) : shC cI cII cLd cOc b (ev k) f = shT b (ev k) f := by
  rcases k4 hk with rfl | rfl | rfl | rfl <;> rfl
theorem shC_ev1 {k : Nat} (hk : k < 4) (f : Nat → Int32) : shC cI cII cLd cOc b (ev k + 1) f = shI cI 200 f := by
  rcases k4 hk with rfl | rfl | rfl | rfl <;> rfl
theorem shC_ev2 {k : Nat} (hk : k < 4) (f : Nat → Int32) : shC cI cII cLd cOc b (ev k + 2) f = shI cI 200 f := by
  rcases k4 hk with rfl | rfl | rfl | rfl <;> rfl
theorem shC_b0 {k : Nat} (hk : k < 4) (f : Nat → Int32) : shC cI cII cLd cOc b (bo k) f = shI cI 12 f := by
  rcases k4 hk with rfl | rfl | rfl | rfl <;> rfl
theorem shC_b1 {k : Nat} (hk : k < 4) (f : Nat → Int32) : shC cI cII cLd cOc b (bo k + 1) f = shR cII 12 (fun i => b + (bo k + 2 + i)) := by
  rcases k4 hk with rfl | rfl | rfl | rfl <;> rfl
theorem shC_b14 {k : Nat} (hk : k < 4) (f : Nat → Int32) : shC cI cII cLd cOc b (bo k + 14) f = shI cI 40 f := by
  rcases k4 hk with rfl | rfl | rfl | rfl <;> rfl
theorem shC_b15 {k : Nat} (hk : k < 4) (f : Nat → Int32) : shC cI cII cLd cOc b (bo k + 15) f = shR cOc 40 (fun i => b + (bo k + 17 + i)) := by
  rcases k4 hk with rfl | rfl | rfl | rfl <;> rfl
theorem shC_b16 {k : Nat} (hk : k < 4) (f : Nat → Int32) : shC cI cII cLd cOc b (bo k + 16) f = shO f := by
  rcases k4 hk with rfl | rfl | rfl | rfl <;> rfl
theorem shC_row {k i : Nat} (hk : k < 4) (hi : i < 12) (f : Nat → Int32) : shC cI cII cLd cOc b (bo k + 2 + i) f = shI cI 8 f := by
  rcases k4 hk with rfl | rfl | rfl | rfl
  · rw [show bo 0 = 67 from rfl]
    show (if 67 + 2 + i = 0 then _ else _) = _
    rw [if_neg (by omega), if_neg (by omega), if_neg (by omega), if_neg (by omega), if_neg (by omega), if_neg (by omega), if_neg (by omega), if_neg (by omega), if_neg (by omega), if_neg (by omega), if_neg (by omega), if_neg (by omega), if_neg (by omega), if_neg (by omega), if_neg (by omega), if_neg (by omega), if_neg (by omega), if_neg (by omega), if_pos (by omega)]
    show shB cI cII cOc b 67 (67 + 2 + i - 67) f = _
    unfold shB
    rw [if_neg (by omega), if_neg (by omega), if_pos (by omega)]
  · rw [show bo 1 = 125 from rfl]
    show (if 125 + 2 + i = 0 then _ else _) = _
    rw [if_neg (by omega), if_neg (by omega), if_neg (by omega), if_neg (by omega), if_neg (by omega), if_neg (by omega), if_neg (by omega), if_neg (by omega), if_neg (by omega), if_neg (by omega), if_neg (by omega), if_neg (by omega), if_neg (by omega), if_neg (by omega), if_neg (by omega), if_neg (by omega), if_neg (by omega), if_neg (by omega), if_neg (by omega), if_neg (by omega), if_pos (by omega)]
    show shB cI cII cOc b 125 (125 + 2 + i - 125) f = _
    unfold shB
    rw [if_neg (by omega), if_neg (by omega), if_pos (by omega)]
  · rw [show bo 2 = 183 from rfl]
    show (if 183 + 2 + i = 0 then _ else _) = _
    rw [if_neg (by omega), if_neg (by omega), if_neg (by omega), if_neg (by omega), if_neg (by omega), if_neg (by omega), if_neg (by omega), if_neg (by omega), if_neg (by omega), if_neg (by omega), if_neg (by omega), if_neg (by omega), if_neg (by omega), if_neg (by omega), if_neg (by omega), if_neg (by omega), if_neg (by omega), if_neg (by omega), if_neg (by omega), if_neg (by omega), if_neg (by omega), if_neg (by omega), if_pos (by omega)]
    show shB cI cII cOc b 183 (183 + 2 + i - 183) f = _
    unfold shB
    rw [if_neg (by omega), if_neg (by omega), if_pos (by omega)]
  · rw [show bo 3 = 245 from rfl]
    show (if 245 + 2 + i = 0 then _ else _) = _
    rw [if_neg (by omega), if_neg (by omega), if_neg (by omega), if_neg (by omega), if_neg (by omega), if_neg (by omega), if_neg (by omega), if_neg (by omega), if_neg (by omega), if_neg (by omega), if_neg (by omega), if_neg (by omega), if_neg (by omega), if_neg (by omega), if_neg (by omega), if_neg (by omega), if_neg (by omega), if_neg (by omega), if_neg (by omega), if_neg (by omega), if_neg (by omega), if_neg (by omega), if_neg (by omega), if_neg (by omega), if_neg (by omega), if_neg (by omega), if_neg (by omega), if_pos (by omega)]
    show shB cI cII cOc b 245 (245 + 2 + i - 245) f = _
    unfold shB
    rw [if_neg (by omega), if_neg (by omega), if_pos (by omega)]
theorem shC_out {k i : Nat} (hk : k < 4) (hi : i < 40) (f : Nat → Int32) : shC cI cII cLd cOc b (bo k + 17 + i) f = shO f := by
  rcases k4 hk with rfl | rfl | rfl | rfl
  · rw [show bo 0 = 67 from rfl]
    show (if 67 + 17 + i = 0 then _ else _) = _
    rw [if_neg (by omega), if_neg (by omega), if_neg (by omega), if_neg (by omega), if_neg (by omega), if_neg (by omega), if_neg (by omega), if_neg (by omega), if_neg (by omega), if_neg (by omega), if_neg (by omega), if_neg (by omega), if_neg (by omega), if_neg (by omega), if_neg (by omega), if_neg (by omega), if_neg (by omega), if_neg (by omega), if_pos (by omega)]
    show shB cI cII cOc b 67 (67 + 17 + i - 67) f = _
    unfold shB
    rw [if_neg (by omega), if_neg (by omega), if_neg (by omega), if_neg (by omega), if_neg (by omega)]
  · rw [show bo 1 = 125 from rfl]
    show (if 125 + 17 + i = 0 then _ else _) = _
    rw [if_neg (by omega), if_neg (by omega), if_neg (by omega), if_neg (by omega), if_neg (by omega), if_neg (by omega), if_neg (by omega), if_neg (by omega), if_neg (by omega), if_neg (by omega), if_neg (by omega), if_neg (by omega), if_neg (by omega), if_neg (by omega), if_neg (by omega), if_neg (by omega), if_neg (by omega), if_neg (by omega), if_neg (by omega), if_neg (by omega), if_pos (by omega)]
    show shB cI cII cOc b 125 (125 + 17 + i - 125) f = _
    unfold shB
    rw [if_neg (by omega), if_neg (by omega), if_neg (by omega), if_neg (by omega), if_neg (by omega)]
  · rw [show bo 2 = 183 from rfl]
    show (if 183 + 17 + i = 0 then _ else _) = _
    rw [if_neg (by omega), if_neg (by omega), if_neg (by omega), if_neg (by omega), if_neg (by omega), if_neg (by omega), if_neg (by omega), if_neg (by omega), if_neg (by omega), if_neg (by omega), if_neg (by omega), if_neg (by omega), if_neg (by omega), if_neg (by omega), if_neg (by omega), if_neg (by omega), if_neg (by omega), if_neg (by omega), if_neg (by omega), if_neg (by omega), if_neg (by omega), if_neg (by omega), if_pos (by omega)]
    show shB cI cII cOc b 183 (183 + 17 + i - 183) f = _
    unfold shB
    rw [if_neg (by omega), if_neg (by omega), if_neg (by omega), if_neg (by omega), if_neg (by omega)]
  · rw [show bo 3 = 245 from rfl]
    show (if 245 + 17 + i = 0 then _ else _) = _
    rw [if_neg (by omega), if_neg (by omega), if_neg (by omega), if_neg (by omega), if_neg (by omega), if_neg (by omega), if_neg (by omega), if_neg (by omega), if_neg (by omega), if_neg (by omega), if_neg (by omega), if_neg (by omega), if_neg (by omega), if_neg (by omega), if_neg (by omega), if_neg (by omega), if_neg (by omega), if_neg (by omega), if_neg (by omega), if_neg (by omega), if_neg (by omega), if_neg (by omega), if_neg (by omega), if_neg (by omega), if_neg (by omega), if_neg (by omega), if_neg (by omega), if_pos (by omega)]
    show shB cI cII cOc b 245 (245 + 17 + i - 245) f = _
    unfold shB
    rw [if_neg (by omega), if_neg (by omega), if_neg (by omega), if_neg (by omega), if_neg (by omega)]
def isO (t : Nat) : Prop := t = 240 ∨ ∃ k, k < 4 ∧ (t = bo k + 16 ∨ ∃ i, i < 40 ∧ t = bo k + 17 + i)
theorem isO_240 : isO 240 := Or.inl rfl
theorem isO_now {k : Nat} (hk : k < 4) : isO (bo k + 16) := Or.inr ⟨k, hk, Or.inl rfl⟩
theorem isO_out {k i : Nat} (hk : k < 4) (hi : i < 40) : isO (bo k + 17 + i) := Or.inr ⟨k, hk, Or.inr ⟨i, hi, rfl⟩⟩
theorem shC_O {t : Nat} (h : isO t) (f : Nat → Int32) : shC cI cII cLd cOc b t f = shO f := by
  rcases h with rfl | ⟨k, hk, rfl | ⟨i, hi, rfl⟩⟩
  · rfl
  · exact shC_b16 hk f
  · exact shC_out hk hi f
theorem bo_lt {k : Nat} (hk : k < 4) {j : Nat} (hj : j < 57) : bo k + j < 305 := by
  rcases k4 hk with rfl | rfl | rfl | rfl <;> simp [bo] <;> omega
theorem lo_lt {k : Nat} (hk : k < 4) : lo k < 305 := by rcases k4 hk with rfl | rfl | rfl | rfl <;> decide
theorem ev_lt {k : Nat} (hk : k < 4) {j : Nat} (hj : j < 3) : ev k + j < 305 := by rcases k4 hk with rfl | rfl | rfl | rfl <;> simp [ev] <;> omega
theorem isO_lt {t : Nat} (h : isO t) : t < 305 := by
  rcases h with rfl | ⟨k, hk, rfl | ⟨i, hi, rfl⟩⟩
  · decide
  · exact bo_lt hk (by decide)
  · rw [Nat.add_assoc]; exact bo_lt hk (by omega)
theorem row_lt {k : Nat} (hk : k < 4) {i : Nat} (hi : i < 12) : bo k + 2 + i < 305 := by rw [Nat.add_assoc]; exact bo_lt hk (by omega)
theorem out_lt {k : Nat} (hk : k < 4) {i : Nat} (hi : i < 40) : bo k + 17 + i < 305 := by rw [Nat.add_assoc]; exact bo_lt hk (by omega)
end SHC
theorem in_lt {i : Int32} {n : Nat} (h : ¬ (i < 0 ∨ n ≤ i.toNatClampNeg)) : i.toNatClampNeg < n := Nat.not_le.mp fun q => h (Or.inr q)
theorem in_some {i : Int32} {n : Nat} {g : Nat → Nat} (h : ¬ (i < 0 ∨ n ≤ i.toNatClampNeg)) : (if i.toNatClampNeg < n then some (g i.toNatClampNeg) else none) = some (g i.toNatClampNeg) := if_pos (in_lt h)
def lenM : List Nat := [0, 12, 96, 12, 72, 12, 72, 72, 40, 40, 40, 40, 40, 60, 480, 200, 200, 200, 200, 200, 400, 4, 200, 200, 200, 200, 40, 40, 40]
def shM (cI : ClassId) (b : Nat) : fm_S := fun t f => if t = 0 then .inr (5, [.int (f 0), .ref (b + 1), .ref (b + 2), .ref (b + 3), .ref (b + 4), .ref (b + 5), .ref (b + 6), .ref (b + 7), .int (f 8), .ref (b + 8), .ref (b + 9), .ref (b + 10), .ref (b + 11), .ref (b + 12), .ref (b + 13), .ref (b + 14), .ref (b + 15), .ref (b + 16), .ref (b + 17), .ref (b + 18), .ref (b + 19), .ref (b + 20), .int (f 22), .int (f 23), .int (f 24), .int (f 25), .int (f 26), .ref (b + 21), .ref (b + 22), .ref (b + 23), .ref (b + 24), .ref (b + 25), .int (f 32), .int (f 33), .int (f 34), .int (f 35), .int (f 36), .int (f 37), .ref (b + 26), .ref (b + 27), .ref (b + 28)]) else shI cI (lenM.getD t 0) f
section SHM
variable {cI : ClassId} {b : Nat}
theorem shM_0 (f : Nat → Int32) : shM cI b 0 f = .inr (5, [.int (f 0), .ref (b + 1), .ref (b + 2), .ref (b + 3), .ref (b + 4), .ref (b + 5), .ref (b + 6), .ref (b + 7), .int (f 8), .ref (b + 8), .ref (b + 9), .ref (b + 10), .ref (b + 11), .ref (b + 12), .ref (b + 13), .ref (b + 14), .ref (b + 15), .ref (b + 16), .ref (b + 17), .ref (b + 18), .ref (b + 19), .ref (b + 20), .int (f 22), .int (f 23), .int (f 24), .int (f 25), .int (f 26), .ref (b + 21), .ref (b + 22), .ref (b + 23), .ref (b + 24), .ref (b + 25), .int (f 32), .int (f 33), .int (f 34), .int (f 35), .int (f 36), .int (f 37), .ref (b + 26), .ref (b + 27), .ref (b + 28)]) := rfl
theorem shM_1 (f : Nat → Int32) : shM cI b 1 f = shI cI 12 f := rfl
theorem shM_2 (f : Nat → Int32) : shM cI b 2 f = shI cI 96 f := rfl
theorem shM_3 (f : Nat → Int32) : shM cI b 3 f = shI cI 12 f := rfl
theorem shM_4 (f : Nat → Int32) : shM cI b 4 f = shI cI 72 f := rfl
theorem shM_5 (f : Nat → Int32) : shM cI b 5 f = shI cI 12 f := rfl
theorem shM_6 (f : Nat → Int32) : shM cI b 6 f = shI cI 72 f := rfl
theorem shM_7 (f : Nat → Int32) : shM cI b 7 f = shI cI 72 f := rfl
theorem shM_8 (f : Nat → Int32) : shM cI b 8 f = shI cI 40 f := rfl
theorem shM_9 (f : Nat → Int32) : shM cI b 9 f = shI cI 40 f := rfl
theorem shM_10 (f : Nat → Int32) : shM cI b 10 f = shI cI 40 f := rfl
theorem shM_11 (f : Nat → Int32) : shM cI b 11 f = shI cI 40 f := rfl
theorem shM_12 (f : Nat → Int32) : shM cI b 12 f = shI cI 40 f := rfl
theorem shM_13 (f : Nat → Int32) : shM cI b 13 f = shI cI 60 f := rfl
theorem shM_14 (f : Nat → Int32) : shM cI b 14 f = shI cI 480 f := rfl
theorem shM_15 (f : Nat → Int32) : shM cI b 15 f = shI cI 200 f := rfl
theorem shM_16 (f : Nat → Int32) : shM cI b 16 f = shI cI 200 f := rfl
theorem shM_17 (f : Nat → Int32) : shM cI b 17 f = shI cI 200 f := rfl
theorem shM_18 (f : Nat → Int32) : shM cI b 18 f = shI cI 200 f := rfl
theorem shM_19 (f : Nat → Int32) : shM cI b 19 f = shI cI 200 f := rfl
theorem shM_20 (f : Nat → Int32) : shM cI b 20 f = shI cI 400 f := rfl
theorem shM_21 (f : Nat → Int32) : shM cI b 21 f = shI cI 4 f := rfl
theorem shM_22 (f : Nat → Int32) : shM cI b 22 f = shI cI 200 f := rfl
theorem shM_23 (f : Nat → Int32) : shM cI b 23 f = shI cI 200 f := rfl
theorem shM_24 (f : Nat → Int32) : shM cI b 24 f = shI cI 200 f := rfl
theorem shM_25 (f : Nat → Int32) : shM cI b 25 f = shI cI 200 f := rfl
theorem shM_26 (f : Nat → Int32) : shM cI b 26 f = shI cI 40 f := rfl
theorem shM_27 (f : Nat → Int32) : shM cI b 27 f = shI cI 40 f := rfl
theorem shM_28 (f : Nat → Int32) : shM cI b 28 f = shI cI 40 f := rfl
end SHM
end
section
theorem inG_X0 : ∀ w ∈ u_ws RX0 TX0 8, w ∈ gtbl := by decide +kernel
theorem inG_X1 : ∀ w ∈ u_ws RX1 TX1 5, w ∈ gtbl := by decide +kernel
theorem inG_X2 : ∀ w ∈ u_ws RX2 TX2 14, w ∈ gtbl := by decide +kernel
theorem inG_X3 : ∀ w ∈ u_ws RX3 TX3 3, w ∈ gtbl := by decide +kernel
theorem inG_X4 : ∀ w ∈ u_ws RX4 TX4 10, w ∈ gtbl := by decide +kernel
theorem FA_X0_125 : Cond.methodLink RX0 125 arraycopyName ∈ gtbl := by decide +kernel
theorem cp_nat : Cond.native arraycopyName ∈ gtbl := by decide +kernel
theorem cp_stat : Cond.static arraycopyName ∈ gtbl := by decide +kernel
theorem cp_ini : Cond.initialized "java/lang/System" ∈ gtbl := by decide +kernel
theorem F_X0_17 : Cond.fieldLink RX0 17 (TX0 3).1 (TX0 3).2.1 (TX0 3).2.2.1 ∈ gtbl := by decide +kernel
theorem F_X0_20 : Cond.fieldLink RX0 20 (TX0 4).1 (TX0 4).2.1 (TX0 4).2.2.1 ∈ gtbl := by decide +kernel
theorem F_X0_25 : Cond.fieldLink RX0 25 (TX0 5).1 (TX0 5).2.1 (TX0 5).2.2.1 ∈ gtbl := by decide +kernel
theorem F_X0_30 : Cond.fieldLink RX0 30 (TX0 6).1 (TX0 6).2.1 (TX0 6).2.2.1 ∈ gtbl := by decide +kernel
theorem F_X0_34 : Cond.fieldLink RX0 34 (TX0 0).1 (TX0 0).2.1 (TX0 0).2.2.1 ∈ gtbl := by decide +kernel
theorem F_X0_38 : Cond.fieldLink RX0 38 (TX0 1).1 (TX0 1).2.1 (TX0 1).2.2.1 ∈ gtbl := by decide +kernel
theorem F_X0_72 : Cond.fieldLink RX0 72 (TX0 7).1 (TX0 7).2.1 (TX0 7).2.2.1 ∈ gtbl := by decide +kernel
theorem F_X0_9 : Cond.fieldLink RX0 9 (TX0 2).1 (TX0 2).2.1 (TX0 2).2.2.1 ∈ gtbl := by decide +kernel
theorem F_X1_15 : Cond.fieldLink RX1 15 (TX1 1).1 (TX1 1).2.1 (TX1 1).2.2.1 ∈ gtbl := by decide +kernel
theorem F_X1_18 : Cond.fieldLink RX1 18 (TX1 2).1 (TX1 2).2.1 (TX1 2).2.2.1 ∈ gtbl := by decide +kernel
theorem F_X1_21 : Cond.fieldLink RX1 21 (TX1 3).1 (TX1 3).2.1 (TX1 3).2.2.1 ∈ gtbl := by decide +kernel
theorem F_X1_24 : Cond.fieldLink RX1 24 (TX1 4).1 (TX1 4).2.1 (TX1 4).2.2.1 ∈ gtbl := by decide +kernel
theorem F_X1_9 : Cond.fieldLink RX1 9 (TX1 0).1 (TX1 0).2.1 (TX1 0).2.2.1 ∈ gtbl := by decide +kernel
theorem F_X2_17 : Cond.fieldLink RX2 17 (TX2 2).1 (TX2 2).2.1 (TX2 2).2.2.1 ∈ gtbl := by decide +kernel
theorem F_X2_20 : Cond.fieldLink RX2 20 (TX2 3).1 (TX2 3).2.1 (TX2 3).2.2.1 ∈ gtbl := by decide +kernel
theorem F_X2_23 : Cond.fieldLink RX2 23 (TX2 4).1 (TX2 4).2.1 (TX2 4).2.2.1 ∈ gtbl := by decide +kernel
theorem F_X2_26 : Cond.fieldLink RX2 26 (TX2 5).1 (TX2 5).2.1 (TX2 5).2.2.1 ∈ gtbl := by decide +kernel
theorem F_X2_29 : Cond.fieldLink RX2 29 (TX2 6).1 (TX2 6).2.1 (TX2 6).2.2.1 ∈ gtbl := by decide +kernel
theorem F_X2_32 : Cond.fieldLink RX2 32 (TX2 7).1 (TX2 7).2.1 (TX2 7).2.2.1 ∈ gtbl := by decide +kernel
theorem F_X2_35 : Cond.fieldLink RX2 35 (TX2 9).1 (TX2 9).2.1 (TX2 9).2.2.1 ∈ gtbl := by decide +kernel
theorem F_X2_38 : Cond.fieldLink RX2 38 (TX2 10).1 (TX2 10).2.1 (TX2 10).2.2.1 ∈ gtbl := by decide +kernel
theorem F_X2_41 : Cond.fieldLink RX2 41 (TX2 11).1 (TX2 11).2.1 (TX2 11).2.2.1 ∈ gtbl := by decide +kernel
theorem F_X2_44 : Cond.fieldLink RX2 44 (TX2 12).1 (TX2 12).2.1 (TX2 12).2.2.1 ∈ gtbl := by decide +kernel
theorem F_X2_47 : Cond.fieldLink RX2 47 (TX2 13).1 (TX2 13).2.1 (TX2 13).2.2.1 ∈ gtbl := by decide +kernel
theorem F_X2_50 : Cond.fieldLink RX2 50 (TX2 0).1 (TX2 0).2.1 (TX2 0).2.2.1 ∈ gtbl := by decide +kernel
theorem F_X2_58 : Cond.fieldLink RX2 58 (TX2 8).1 (TX2 8).2.1 (TX2 8).2.2.1 ∈ gtbl := by decide +kernel
theorem F_X2_9 : Cond.fieldLink RX2 9 (TX2 1).1 (TX2 1).2.1 (TX2 1).2.2.1 ∈ gtbl := by decide +kernel
theorem F_X3_15 : Cond.fieldLink RX3 15 (TX3 1).1 (TX3 1).2.1 (TX3 1).2.2.1 ∈ gtbl := by decide +kernel
theorem F_X3_18 : Cond.fieldLink RX3 18 (TX3 2).1 (TX3 2).2.1 (TX3 2).2.2.1 ∈ gtbl := by decide +kernel
theorem F_X3_9 : Cond.fieldLink RX3 9 (TX3 0).1 (TX3 0).2.1 (TX3 0).2.2.1 ∈ gtbl := by decide +kernel
theorem F_X4_12 : Cond.fieldLink RX4 12 (TX4 0).1 (TX4 0).2.1 (TX4 0).2.2.1 ∈ gtbl := by decide +kernel
theorem F_X4_145 : Cond.fieldLink RX4 145 (TX4 9).1 (TX4 9).2.1 (TX4 9).2.2.1 ∈ gtbl := by decide +kernel
theorem F_X4_19 : Cond.fieldLink RX4 19 (TX4 1).1 (TX4 1).2.1 (TX4 1).2.2.1 ∈ gtbl := by decide +kernel
theorem F_X4_25 : Cond.fieldLink RX4 25 (TX4 2).1 (TX4 2).2.1 (TX4 2).2.2.1 ∈ gtbl := by decide +kernel
theorem F_X4_35 : Cond.fieldLink RX4 35 (TX4 3).1 (TX4 3).2.1 (TX4 3).2.2.1 ∈ gtbl := by decide +kernel
theorem F_X4_39 : Cond.fieldLink RX4 39 (TX4 5).1 (TX4 5).2.1 (TX4 5).2.2.1 ∈ gtbl := by decide +kernel
theorem F_X4_43 : Cond.fieldLink RX4 43 (TX4 6).1 (TX4 6).2.1 (TX4 6).2.2.1 ∈ gtbl := by decide +kernel
theorem F_X4_47 : Cond.fieldLink RX4 47 (TX4 7).1 (TX4 7).2.1 (TX4 7).2.2.1 ∈ gtbl := by decide +kernel
theorem F_X4_50 : Cond.fieldLink RX4 50 (TX4 8).1 (TX4 8).2.1 (TX4 8).2.2.1 ∈ gtbl := by decide +kernel
theorem F_X4_94 : Cond.fieldLink RX4 94 (TX4 4).1 (TX4 4).2.1 (TX4 4).2.2.1 ∈ gtbl := by decide +kernel
theorem FC_X4_177 : Cond.constant RX4 177 1103515245 ∈ gtbl := by decide +kernel
theorem FN_X0_112 : Cond.fieldLinkNest RX0 112 (TX2 13).1 (TX2 13).2.1 (TX2 13).2.2.1 "ConstantStarts" ∈ fm_nest := by decide +kernel
theorem FN_X0_140 : Cond.fieldLinkNest RX0 140 (TX2 3).1 (TX2 3).2.1 (TX2 3).2.2.1 "ConstantStarts" ∈ fm_nest := by decide +kernel
theorem FN_X0_143 : Cond.fieldLinkNest RX0 143 (TX2 4).1 (TX2 4).2.1 (TX2 4).2.2.1 "ConstantStarts" ∈ fm_nest := by decide +kernel
theorem FN_X0_146 : Cond.fieldLinkNest RX0 146 (TX2 5).1 (TX2 5).2.1 (TX2 5).2.2.1 "ConstantStarts" ∈ fm_nest := by decide +kernel
theorem FN_X0_149 : Cond.fieldLinkNest RX0 149 (TX2 6).1 (TX2 6).2.1 (TX2 6).2.2.1 "ConstantStarts" ∈ fm_nest := by decide +kernel
theorem FN_X0_152 : Cond.fieldLinkNest RX0 152 (TX2 7).1 (TX2 7).2.1 (TX2 7).2.2.1 "ConstantStarts" ∈ fm_nest := by decide +kernel
theorem FN_X0_42 : Cond.fieldLinkNest RX0 42 (TX1 1).1 (TX1 1).2.1 (TX1 1).2.2.1 "ConstantStarts" ∈ fm_nest := by decide +kernel
theorem FN_X0_46 : Cond.fieldLinkNest RX0 46 (TX2 2).1 (TX2 2).2.1 (TX2 2).2.2.1 "ConstantStarts" ∈ fm_nest := by decide +kernel
theorem FN_X0_59 : Cond.fieldLinkNest RX0 59 (TX2 9).1 (TX2 9).2.1 (TX2 9).2.2.1 "ConstantStarts" ∈ fm_nest := by decide +kernel
theorem FN_X0_84 : Cond.fieldLinkNest RX0 84 (TX2 11).1 (TX2 11).2.1 (TX2 11).2.2.1 "ConstantStarts" ∈ fm_nest := by decide +kernel
theorem FN_X0_87 : Cond.fieldLinkNest RX0 87 (TX2 12).1 (TX2 12).2.1 (TX2 12).2.2.1 "ConstantStarts" ∈ fm_nest := by decide +kernel
theorem FN_X0_90 : Cond.fieldLinkNest RX0 90 (TX2 10).1 (TX2 10).2.1 (TX2 10).2.2.1 "ConstantStarts" ∈ fm_nest := by decide +kernel
theorem FN_X0_99 : Cond.fieldLinkNest RX0 99 (TX1 0).1 (TX1 0).2.1 (TX1 0).2.2.1 "ConstantStarts" ∈ fm_nest := by decide +kernel
theorem FN_X2_75 : Cond.fieldLinkNest RX2 75 "ConstantStarts" "NAMED_CONSTANTS" "[I" "ConstantStarts" ∈ fm_nest := by decide +kernel
theorem FN_X4_107 : Cond.fieldLinkNest RX4 107 (TX1 1).1 (TX1 1).2.1 (TX1 1).2.2.1 "ConstantStarts" ∈ fm_nest := by decide +kernel
theorem FN_X4_110 : Cond.fieldLinkNest RX4 110 (TX1 2).1 (TX1 2).2.1 (TX1 2).2.2.1 "ConstantStarts" ∈ fm_nest := by decide +kernel
theorem FN_X4_113 : Cond.fieldLinkNest RX4 113 (TX1 3).1 (TX1 3).2.1 (TX1 3).2.2.1 "ConstantStarts" ∈ fm_nest := by decide +kernel
theorem FN_X4_116 : Cond.fieldLinkNest RX4 116 (TX1 4).1 (TX1 4).2.1 (TX1 4).2.2.1 "ConstantStarts" ∈ fm_nest := by decide +kernel
theorem FN_X4_119 : Cond.fieldLinkNest RX4 119 (TX0 2).1 (TX0 2).2.1 (TX0 2).2.2.1 "ConstantStarts" ∈ fm_nest := by decide +kernel
theorem FN_X4_131 : Cond.fieldLinkNest RX4 131 (TX3 2).1 (TX3 2).2.1 (TX3 2).2.2.1 "ConstantStarts" ∈ fm_nest := by decide +kernel
theorem FN_X4_134 : Cond.fieldLinkNest RX4 134 (TX3 0).1 (TX3 0).2.1 (TX3 0).2.2.1 "ConstantStarts" ∈ fm_nest := by decide +kernel
theorem FN_X4_137 : Cond.fieldLinkNest RX4 137 (TX3 1).1 (TX3 1).2.1 (TX3 1).2.2.1 "ConstantStarts" ∈ fm_nest := by decide +kernel
theorem FN_X4_158 : Cond.fieldLinkNest RX4 158 (TX2 0).1 (TX2 0).2.1 (TX2 0).2.2.1 "ConstantStarts" ∈ fm_nest := by decide +kernel
theorem FN_X4_161 : Cond.fieldLinkNest RX4 161 (TX2 8).1 (TX2 8).2.1 (TX2 8).2.2.1 "ConstantStarts" ∈ fm_nest := by decide +kernel
theorem FN_X4_174 : Cond.fieldLinkNest RX4 174 (TX0 7).1 (TX0 7).2.1 (TX0 7).2.2.1 "ConstantStarts" ∈ fm_nest := by decide +kernel
theorem FN_X4_87 : Cond.fieldLinkNest RX4 87 (TX0 6).1 (TX0 6).2.1 (TX0 6).2.2.1 "ConstantStarts" ∈ fm_nest := by decide +kernel
theorem FN_X4_90 : Cond.fieldLinkNest RX4 90 (TX1 0).1 (TX1 0).2.1 (TX1 0).2.2.1 "ConstantStarts" ∈ fm_nest := by decide +kernel
theorem Y_X0_begin : fm_Y yX0_begin cX0_begin 4 (some .boolean) 2 := ⟨by decide +kernel, by decide +kernel, by decide +kernel, by decide⟩
theorem Y_X0_beginUsed : fm_Y yX0_beginUsed cX0_beginUsed 4 (some .boolean) 2 := ⟨by decide +kernel, by decide +kernel, by decide +kernel, by decide⟩
theorem Y_X0_clear : fm_Y yX0_clear cX0_clear 2 none 0 := ⟨by decide +kernel, by decide +kernel, by decide +kernel, by decide⟩
theorem Y_X0_countEnded : fm_Y yX0_countEnded cX0_countEnded 3 (some .int) 0 := ⟨by decide +kernel, by decide +kernel, by decide +kernel, by decide⟩
theorem Y_X0_divide : fm_Y yX0_divide cX0_divide 6 (some .boolean) 3 := ⟨by decide +kernel, by decide +kernel, by decide +kernel, by decide⟩
theorem Y_X0_doDeed : fm_Y yX0_doDeed cX0_doDeed 4 (some .boolean) 3 := ⟨by decide +kernel, by decide +kernel, by decide +kernel, by decide⟩
theorem Y_X0_doDeeds : fm_Y yX0_doDeeds cX0_doDeeds 4 (some .boolean) 2 := ⟨by decide +kernel, by decide +kernel, by decide +kernel, by decide⟩
theorem Y_X0_multiply : fm_Y yX0_multiply cX0_multiply 5 (some .boolean) 3 := ⟨by decide +kernel, by decide +kernel, by decide +kernel, by decide⟩
theorem Y_X0_obtain : fm_Y yX0_obtain cX0_obtain 3 (some .boolean) 2 := ⟨by decide +kernel, by decide +kernel, by decide +kernel, by decide⟩
theorem Y_X0_readItem : fm_Y yX0_readItem cX0_readItem 3 (some .boolean) 2 := ⟨by decide +kernel, by decide +kernel, by decide +kernel, by decide⟩
theorem Y_X0_reckon : fm_Y yX0_reckon cX0_reckon 5 (some .boolean) 2 := ⟨by decide +kernel, by decide +kernel, by decide +kernel, by decide⟩
theorem Y_X0_tellItem : fm_Y yX0_tellItem cX0_tellItem 3 (some .int) 2 := ⟨by decide +kernel, by decide +kernel, by decide +kernel, by decide⟩
theorem Y_X0_tellKept : fm_Y yX0_tellKept cX0_tellKept 3 (some .int) 1 := ⟨by decide +kernel, by decide +kernel, by decide +kernel, by decide⟩
theorem Y_X0_work : fm_Y yX0_work cX0_work 4 (some .boolean) 2 := ⟨by decide +kernel, by decide +kernel, by decide +kernel, by decide⟩
theorem Y_X0_writeItem : fm_Y yX0_writeItem cX0_writeItem 4 (some .boolean) 3 := ⟨by decide +kernel, by decide +kernel, by decide +kernel, by decide⟩
theorem Y_X1_copy : fm_Y yX1_copy cX1_copy 2 none 1 := ⟨by decide +kernel, by decide +kernel, by decide +kernel, by decide⟩
theorem Y_X1_fail : fm_Y yX1_fail cX1_fail 3 (some .boolean) 2 := ⟨by decide +kernel, by decide +kernel, by decide +kernel, by decide⟩
theorem Y_X1_failStart : fm_Y yX1_failStart cX1_failStart 2 (some .boolean) 1 := ⟨by decide +kernel, by decide +kernel, by decide +kernel, by decide⟩
theorem Y_X1_succeed : fm_Y yX1_succeed cX1_succeed 2 (some .boolean) 1 := ⟨by decide +kernel, by decide +kernel, by decide +kernel, by decide⟩
theorem Y_X2_addConstant : fm_Y yX2_addConstant cX2_addConstant 6 (some .int) 5 := ⟨by decide +kernel, by decide +kernel, by decide +kernel, by decide⟩
theorem Y_X2_addDeed : fm_Y yX2_addDeed cX2_addDeed 5 (some .int) 3 := ⟨by decide +kernel, by decide +kernel, by decide +kernel, by decide⟩
theorem Y_X2_addModule : fm_Y yX2_addModule cX2_addModule 2 (some .int) 1 := ⟨by decide +kernel, by decide +kernel, by decide +kernel, by decide⟩
theorem Y_X2_addUsed : fm_Y yX2_addUsed cX2_addUsed 3 (some .int) 2 := ⟨by decide +kernel, by decide +kernel, by decide +kernel, by decide⟩
theorem Y_X2_countConstants : fm_Y yX2_countConstants cX2_countConstants 4 (some .int) 1 := ⟨by decide +kernel, by decide +kernel, by decide +kernel, by decide⟩
theorem Y_X2_hasConstant : fm_Y yX2_hasConstant cX2_hasConstant 2 (some .boolean) 1 := ⟨by decide +kernel, by decide +kernel, by decide +kernel, by decide⟩
theorem Y_X2_hasItem : fm_Y yX2_hasItem cX2_hasItem 3 (some .boolean) 2 := ⟨by decide +kernel, by decide +kernel, by decide +kernel, by decide⟩
theorem Y_X2_hasModule : fm_Y yX2_hasModule cX2_hasModule 2 (some .boolean) 1 := ⟨by decide +kernel, by decide +kernel, by decide +kernel, by decide⟩
theorem Y_X2_isDeed : fm_Y yX2_isDeed cX2_isDeed 3 (some .boolean) 2 := ⟨by decide +kernel, by decide +kernel, by decide +kernel, by decide⟩
theorem Y_X2_isFormula : fm_Y yX2_isFormula cX2_isFormula 6 (some .boolean) 4 := ⟨by decide +kernel, by decide +kernel, by decide +kernel, by decide⟩
theorem Y_X2_mayBeConstant : fm_Y yX2_mayBeConstant cX2_mayBeConstant 2 (some .boolean) 1 := ⟨by decide +kernel, by decide +kernel, by decide +kernel, by decide⟩
theorem Y_X2_setItem : fm_Y yX2_setItem cX2_setItem 4 (some .int) 3 := ⟨by decide +kernel, by decide +kernel, by decide +kernel, by decide⟩
theorem Y_X3_clear : fm_Y yX3_clear cX3_clear 1 none 0 := ⟨by decide +kernel, by decide +kernel, by decide +kernel, by decide⟩
theorem Y_X3_note : fm_Y yX3_note cX3_note 3 none 2 := ⟨by decide +kernel, by decide +kernel, by decide +kernel, by decide⟩
theorem Y_X4_answer : fm_Y yX4_answer cX4_answer 3 (some .int) 2 := ⟨by decide +kernel, by decide +kernel, by decide +kernel, by decide⟩
theorem Y_X4_countUnlike : fm_Y yX4_countUnlike cX4_countUnlike 4 (some .int) 0 := ⟨by decide +kernel, by decide +kernel, by decide +kernel, by decide⟩
theorem Y_X4_countWorked : fm_Y yX4_countWorked cX4_countWorked 3 (some .int) 0 := ⟨by decide +kernel, by decide +kernel, by decide +kernel, by decide⟩
theorem Y_X4_loaderAt : fm_Y yX4_loaderAt cX4_loaderAt 2 (some (.object "ConstantStarts$Loader")) 1 := ⟨by decide +kernel, by decide +kernel, by decide +kernel, by decide⟩
theorem Y_X4_mixOrder : fm_Y yX4_mixOrder cX4_mixOrder 6 none 1 := ⟨by decide +kernel, by decide +kernel, by decide +kernel, by decide⟩
theorem Y_X4_needByNumbers : fm_Y yX4_needByNumbers cX4_needByNumbers 2 none 0 := ⟨by decide +kernel, by decide +kernel, by decide +kernel, by decide⟩
theorem LM_X0_62 : Cond.methodLink RX0 62 yX0_begin ∈ gtbl ∧ Cond.instanceMethod yX0_begin ∈ gtbl ∧ Cond.selects RX0 yX0_begin yX0_begin ∈ gtbl := ⟨by decide +kernel, by decide +kernel, by decide +kernel⟩
theorem LM_X0_69 : Cond.methodLink RX0 69 yX0_work ∈ gtbl ∧ Cond.instanceMethod yX0_work ∈ gtbl ∧ Cond.selects RX0 yX0_work yX0_work ∈ gtbl := ⟨by decide +kernel, by decide +kernel, by decide +kernel⟩
theorem LM_X0_81 : Cond.methodLink RX0 81 yX0_reckon ∈ gtbl ∧ Cond.instanceMethod yX0_reckon ∈ gtbl ∧ Cond.selects RX0 yX0_reckon yX0_reckon ∈ gtbl := ⟨by decide +kernel, by decide +kernel, by decide +kernel⟩
theorem LM_X0_96 : Cond.methodLink RX0 96 yX0_obtain ∈ gtbl ∧ Cond.instanceMethod yX0_obtain ∈ gtbl ∧ Cond.selects RX0 yX0_obtain yX0_obtain ∈ gtbl := ⟨by decide +kernel, by decide +kernel, by decide +kernel⟩
theorem LM_X0_102 : Cond.methodLink RX0 102 yX0_multiply ∈ gtbl ∧ Cond.instanceMethod yX0_multiply ∈ gtbl ∧ Cond.selects RX0 yX0_multiply yX0_multiply ∈ gtbl := ⟨by decide +kernel, by decide +kernel, by decide +kernel⟩
theorem LM_X0_106 : Cond.methodLink RX0 106 yX0_divide ∈ gtbl ∧ Cond.instanceMethod yX0_divide ∈ gtbl ∧ Cond.selects RX0 yX0_divide yX0_divide ∈ gtbl := ⟨by decide +kernel, by decide +kernel, by decide +kernel⟩
theorem LM_X0_109 : Cond.methodLink RX0 109 yX0_readItem ∈ gtbl ∧ Cond.instanceMethod yX0_readItem ∈ gtbl ∧ Cond.selects RX0 yX0_readItem yX0_readItem ∈ gtbl := ⟨by decide +kernel, by decide +kernel, by decide +kernel⟩
theorem LM_X0_119 : Cond.methodLink RX0 119 yX0_writeItem ∈ gtbl ∧ Cond.instanceMethod yX0_writeItem ∈ gtbl ∧ Cond.selects RX0 yX0_writeItem yX0_writeItem ∈ gtbl := ⟨by decide +kernel, by decide +kernel, by decide +kernel⟩
theorem LM_X0_131 : Cond.methodLink RX0 131 yX0_beginUsed ∈ gtbl ∧ Cond.instanceMethod yX0_beginUsed ∈ gtbl ∧ Cond.selects RX0 yX0_beginUsed yX0_beginUsed ∈ gtbl := ⟨by decide +kernel, by decide +kernel, by decide +kernel⟩
theorem LM_X0_134 : Cond.methodLink RX0 134 yX0_doDeeds ∈ gtbl ∧ Cond.instanceMethod yX0_doDeeds ∈ gtbl ∧ Cond.selects RX0 yX0_doDeeds yX0_doDeeds ∈ gtbl := ⟨by decide +kernel, by decide +kernel, by decide +kernel⟩
theorem LM_X0_155 : Cond.methodLink RX0 155 yX0_doDeed ∈ gtbl ∧ Cond.instanceMethod yX0_doDeed ∈ gtbl ∧ Cond.selects RX0 yX0_doDeed yX0_doDeed ∈ gtbl := ⟨by decide +kernel, by decide +kernel, by decide +kernel⟩
theorem LM_X2_54 : Cond.methodLink RX2 54 yX2_hasModule ∈ gtbl ∧ Cond.instanceMethod yX2_hasModule ∈ gtbl ∧ Cond.selects RX2 yX2_hasModule yX2_hasModule ∈ gtbl := ⟨by decide +kernel, by decide +kernel, by decide +kernel⟩
theorem LM_X2_61 : Cond.methodLink RX2 61 yX2_hasItem ∈ gtbl ∧ Cond.instanceMethod yX2_hasItem ∈ gtbl ∧ Cond.selects RX2 yX2_hasItem yX2_hasItem ∈ gtbl := ⟨by decide +kernel, by decide +kernel, by decide +kernel⟩
theorem LM_X2_65 : Cond.methodLink RX2 65 yX2_isDeed ∈ gtbl ∧ Cond.instanceMethod yX2_isDeed ∈ gtbl ∧ Cond.selects RX2 yX2_isDeed yX2_isDeed ∈ gtbl := ⟨by decide +kernel, by decide +kernel, by decide +kernel⟩
theorem LM_X2_68 : Cond.methodLink RX2 68 yX2_mayBeConstant ∈ gtbl ∧ Cond.instanceMethod yX2_mayBeConstant ∈ gtbl ∧ Cond.selects RX2 yX2_mayBeConstant yX2_mayBeConstant ∈ gtbl := ⟨by decide +kernel, by decide +kernel, by decide +kernel⟩
theorem LM_X2_71 : Cond.methodLink RX2 71 yX2_isFormula ∈ gtbl ∧ Cond.instanceMethod yX2_isFormula ∈ gtbl ∧ Cond.selects RX2 yX2_isFormula yX2_isFormula ∈ gtbl := ⟨by decide +kernel, by decide +kernel, by decide +kernel⟩
theorem LM_X4_72 : Cond.methodLink RX4 72 yX4_loaderAt ∈ gtbl ∧ Cond.instanceMethod yX4_loaderAt ∈ gtbl ∧ Cond.selects RX4 yX4_loaderAt yX4_loaderAt ∈ gtbl := ⟨by decide +kernel, by decide +kernel, by decide +kernel⟩
theorem LM_X4_97 : Cond.methodLink RX4 97 yX4_answer ∈ gtbl ∧ Cond.instanceMethod yX4_answer ∈ gtbl ∧ Cond.selects RX4 yX4_answer yX4_answer ∈ gtbl := ⟨by decide +kernel, by decide +kernel, by decide +kernel⟩
theorem LM_X4_148 : Cond.methodLink RX4 148 yX4_needByNumbers ∈ gtbl ∧ Cond.instanceMethod yX4_needByNumbers ∈ gtbl ∧ Cond.selects RX4 yX4_needByNumbers yX4_needByNumbers ∈ gtbl := ⟨by decide +kernel, by decide +kernel, by decide +kernel⟩
theorem LM_X4_151 : Cond.methodLink RX4 151 yX4_mixOrder ∈ gtbl ∧ Cond.instanceMethod yX4_mixOrder ∈ gtbl ∧ Cond.selects RX4 yX4_mixOrder yX4_mixOrder ∈ gtbl := ⟨by decide +kernel, by decide +kernel, by decide +kernel⟩
theorem LM_X4_155 : Cond.methodLink RX4 155 yX4_countUnlike ∈ gtbl ∧ Cond.instanceMethod yX4_countUnlike ∈ gtbl ∧ Cond.selects RX4 yX4_countUnlike yX4_countUnlike ∈ gtbl := ⟨by decide +kernel, by decide +kernel, by decide +kernel⟩
theorem LM_X4_164 : Cond.methodLink RX4 164 yX4_countWorked ∈ gtbl ∧ Cond.instanceMethod yX4_countWorked ∈ gtbl ∧ Cond.selects RX4 yX4_countWorked yX4_countWorked ∈ gtbl := ⟨by decide +kernel, by decide +kernel, by decide +kernel⟩
theorem LN_X0_51 : Cond.methodLinkNest RX0 51 yX2_hasConstant "ConstantStarts" ∈ fm_nest ∧ Cond.instanceMethod yX2_hasConstant ∈ gtbl ∧ Cond.selects RX2 yX2_hasConstant yX2_hasConstant ∈ gtbl := ⟨by decide +kernel, by decide +kernel, by decide +kernel⟩
theorem LN_X0_55 : Cond.methodLinkNest RX0 55 yX1_fail "ConstantStarts" ∈ fm_nest ∧ Cond.instanceMethod yX1_fail ∈ gtbl ∧ Cond.selects RX1 yX1_fail yX1_fail ∈ gtbl := ⟨by decide +kernel, by decide +kernel, by decide +kernel⟩
theorem LN_X0_65 : Cond.methodLinkNest RX0 65 yX1_copy "ConstantStarts" ∈ fm_nest ∧ Cond.instanceMethod yX1_copy ∈ gtbl ∧ Cond.selects RX1 yX1_copy yX1_copy ∈ gtbl := ⟨by decide +kernel, by decide +kernel, by decide +kernel⟩
theorem LN_X0_75 : Cond.methodLinkNest RX0 75 yX3_note "ConstantStarts" ∈ fm_nest ∧ Cond.instanceMethod yX3_note ∈ gtbl ∧ Cond.selects RX3 yX3_note yX3_note ∈ gtbl := ⟨by decide +kernel, by decide +kernel, by decide +kernel⟩
theorem LN_X0_93 : Cond.methodLinkNest RX0 93 yX1_succeed "ConstantStarts" ∈ fm_nest ∧ Cond.instanceMethod yX1_succeed ∈ gtbl ∧ Cond.selects RX1 yX1_succeed yX1_succeed ∈ gtbl := ⟨by decide +kernel, by decide +kernel, by decide +kernel⟩
theorem LN_X0_115 : Cond.methodLinkNest RX0 115 yX2_countConstants "ConstantStarts" ∈ fm_nest ∧ Cond.instanceMethod yX2_countConstants ∈ gtbl ∧ Cond.selects RX2 yX2_countConstants yX2_countConstants ∈ gtbl := ⟨by decide +kernel, by decide +kernel, by decide +kernel⟩
theorem LN_X0_122 : Cond.methodLinkNest RX0 122 yX2_hasItem "ConstantStarts" ∈ fm_nest ∧ Cond.instanceMethod yX2_hasItem ∈ gtbl ∧ Cond.selects RX2 yX2_hasItem yX2_hasItem ∈ gtbl := ⟨by decide +kernel, by decide +kernel, by decide +kernel⟩
theorem LN_X0_137 : Cond.methodLinkNest RX0 137 yX1_failStart "ConstantStarts" ∈ fm_nest ∧ Cond.instanceMethod yX1_failStart ∈ gtbl ∧ Cond.selects RX1 yX1_failStart yX1_failStart ∈ gtbl := ⟨by decide +kernel, by decide +kernel, by decide +kernel⟩
theorem LN_X4_53 : Cond.methodLinkNest RX4 53 yX2_addModule "ConstantStarts" ∈ fm_nest ∧ Cond.instanceMethod yX2_addModule ∈ gtbl ∧ Cond.selects RX2 yX2_addModule yX2_addModule ∈ gtbl := ⟨by decide +kernel, by decide +kernel, by decide +kernel⟩
theorem LN_X4_57 : Cond.methodLinkNest RX4 57 yX2_setItem "ConstantStarts" ∈ fm_nest ∧ Cond.instanceMethod yX2_setItem ∈ gtbl ∧ Cond.selects RX2 yX2_setItem yX2_setItem ∈ gtbl := ⟨by decide +kernel, by decide +kernel, by decide +kernel⟩
theorem LN_X4_61 : Cond.methodLinkNest RX4 61 yX2_addUsed "ConstantStarts" ∈ fm_nest ∧ Cond.instanceMethod yX2_addUsed ∈ gtbl ∧ Cond.selects RX2 yX2_addUsed yX2_addUsed ∈ gtbl := ⟨by decide +kernel, by decide +kernel, by decide +kernel⟩
theorem LN_X4_65 : Cond.methodLinkNest RX4 65 yX2_addDeed "ConstantStarts" ∈ fm_nest ∧ Cond.instanceMethod yX2_addDeed ∈ gtbl ∧ Cond.selects RX2 yX2_addDeed yX2_addDeed ∈ gtbl := ⟨by decide +kernel, by decide +kernel, by decide +kernel⟩
theorem LN_X4_68 : Cond.methodLinkNest RX4 68 yX2_addConstant "ConstantStarts" ∈ fm_nest ∧ Cond.instanceMethod yX2_addConstant ∈ gtbl ∧ Cond.selects RX2 yX2_addConstant yX2_addConstant ∈ gtbl := ⟨by decide +kernel, by decide +kernel, by decide +kernel⟩
theorem LN_X4_76 : Cond.methodLinkNest RX4 76 yX2_hasConstant "ConstantStarts" ∈ fm_nest ∧ Cond.instanceMethod yX2_hasConstant ∈ gtbl ∧ Cond.selects RX2 yX2_hasConstant yX2_hasConstant ∈ gtbl := ⟨by decide +kernel, by decide +kernel, by decide +kernel⟩
theorem LN_X4_80 : Cond.methodLinkNest RX4 80 yX3_clear "ConstantStarts" ∈ fm_nest ∧ Cond.instanceMethod yX3_clear ∈ gtbl ∧ Cond.selects RX3 yX3_clear yX3_clear ∈ gtbl := ⟨by decide +kernel, by decide +kernel, by decide +kernel⟩
theorem LN_X4_83 : Cond.methodLinkNest RX4 83 yX0_obtain "ConstantStarts" ∈ fm_nest ∧ Cond.instanceMethod yX0_obtain ∈ gtbl ∧ Cond.selects RX0 yX0_obtain yX0_obtain ∈ gtbl := ⟨by decide +kernel, by decide +kernel, by decide +kernel⟩
theorem LN_X4_101 : Cond.methodLinkNest RX4 101 yX2_hasModule "ConstantStarts" ∈ fm_nest ∧ Cond.instanceMethod yX2_hasModule ∈ gtbl ∧ Cond.selects RX2 yX2_hasModule yX2_hasModule ∈ gtbl := ⟨by decide +kernel, by decide +kernel, by decide +kernel⟩
theorem LN_X4_104 : Cond.methodLinkNest RX4 104 yX0_begin "ConstantStarts" ∈ fm_nest ∧ Cond.instanceMethod yX0_begin ∈ gtbl ∧ Cond.selects RX0 yX0_begin yX0_begin ∈ gtbl := ⟨by decide +kernel, by decide +kernel, by decide +kernel⟩
theorem LN_X4_122 : Cond.methodLinkNest RX4 122 yX0_tellKept "ConstantStarts" ∈ fm_nest ∧ Cond.instanceMethod yX0_tellKept ∈ gtbl ∧ Cond.selects RX0 yX0_tellKept yX0_tellKept ∈ gtbl := ⟨by decide +kernel, by decide +kernel, by decide +kernel⟩
theorem LN_X4_125 : Cond.methodLinkNest RX4 125 yX2_hasItem "ConstantStarts" ∈ fm_nest ∧ Cond.instanceMethod yX2_hasItem ∈ gtbl ∧ Cond.selects RX2 yX2_hasItem yX2_hasItem ∈ gtbl := ⟨by decide +kernel, by decide +kernel, by decide +kernel⟩
theorem LN_X4_128 : Cond.methodLinkNest RX4 128 yX0_tellItem "ConstantStarts" ∈ fm_nest ∧ Cond.instanceMethod yX0_tellItem ∈ gtbl ∧ Cond.selects RX0 yX0_tellItem yX0_tellItem ∈ gtbl := ⟨by decide +kernel, by decide +kernel, by decide +kernel⟩
theorem LN_X4_140 : Cond.methodLinkNest RX4 140 yX0_countEnded "ConstantStarts" ∈ fm_nest ∧ Cond.instanceMethod yX0_countEnded ∈ gtbl ∧ Cond.selects RX0 yX0_countEnded yX0_countEnded ∈ gtbl := ⟨by decide +kernel, by decide +kernel, by decide +kernel⟩
theorem LN_X4_144 : Cond.methodLinkNest RX4 144 yX0_clear "ConstantStarts" ∈ fm_nest ∧ Cond.instanceMethod yX0_clear ∈ gtbl ∧ Cond.selects RX0 yX0_clear yX0_clear ∈ gtbl := ⟨by decide +kernel, by decide +kernel, by decide +kernel⟩
theorem LN_X4_167 : Cond.methodLinkNest RX4 167 yX1_succeed "ConstantStarts" ∈ fm_nest ∧ Cond.instanceMethod yX1_succeed ∈ gtbl ∧ Cond.selects RX1 yX1_succeed yX1_succeed ∈ gtbl := ⟨by decide +kernel, by decide +kernel, by decide +kernel⟩
theorem LN_X4_170 : Cond.methodLinkNest RX4 170 yX1_copy "ConstantStarts" ∈ fm_nest ∧ Cond.instanceMethod yX1_copy ∈ gtbl ∧ Cond.selects RX1 yX1_copy yX1_copy ∈ gtbl := ⟨by decide +kernel, by decide +kernel, by decide +kernel⟩
end
section
section
variable {l : Launch} {D : va_G} {tA b : Nat} {A : Nat → Prop} {cI cII cLd cOc : ClassId}
def f_X1_succeed (t : Nat) (x1 : Int32) (v : fm_T) : Option (Int32 × fm_T) := ((some (fm_u v t 0 x1) : Option fm_T).bind fun m2 => ((some (fm_u m2 t 1 0) : Option fm_T).bind fun m4 => ((some (fm_u m4 t 2 0) : Option fm_T).bind fun m6 => ((some (fm_u m6 t 3 0) : Option fm_T).bind fun m8 => ((some (fm_u m8 t 4 0) : Option fm_T).bind fun m10 => some (1, m10))))))
set_option maxHeartbeats 4000000 in
set_option maxRecDepth 20000 in
theorem c_X1_succeed {t : Nat} {x1 : Int32} (hO : isO t) {v : fm_T} {q : Int32 × fm_T} (hf : f_X1_succeed t x1 v = some q) : fm_M l D (fm_tys cI cII cLd cOc) tA b 305 (shC cI cII cLd cOc b) A yX1_succeed cX1_succeed 2 (some .boolean) 0 [.ref (b + t), .int x1] v (some (.int q.1)) q.2 := by
  refine fm_entry (by decide) (Nat.le_of_ble_eq_true rfl) ?_
  intro p e R s m args below meth c C hr hk0 hF hLo
  unfold f_X1_succeed at hf
  show fm_V p l e R s m args below meth c D b 305 (shC cI cII cLd cOc b) A _ 2 0 [(0, .ref (b + t)), (1, .int x1)] [] v
  refine fm_aload_n C dX1_succeed_0 rfl 0 rfl 1 rfl ?_
  refine fm_iload_n C dX1_succeed_1 rfl 1 rfl 2 rfl ?_
  obtain ⟨m2, e1, hf⟩ := Option.bind_eq_some_iff.mp hf
  refine fm_put C (t := t) (isO_lt hO) ((shC_O hO) _) rfl inG_X1 0 (by decide) F_X1_9 tyX1 tyX1_ok nmX1 rfl (ty := .int) (by decide +kernel) rfl rfl (Nat.le_of_ble_eq_true rfl) (((shC_O hO) _).trans rfl) dX1_succeed_2 5 rfl m2 (Option.some.inj e1) ?_
  refine fm_aload_n C dX1_succeed_5 rfl 0 rfl 6 rfl ?_
  refine fm_iconst C (x := 0) dX1_succeed_6 (by decide) 7 rfl ?_
  obtain ⟨m4, e3, hf⟩ := Option.bind_eq_some_iff.mp hf
  refine fm_put C (t := t) (isO_lt hO) ((shC_O hO) _) rfl inG_X1 1 (by decide) F_X1_15 tyX1 tyX1_ok nmX1 rfl (ty := .int) (by decide +kernel) rfl rfl (Nat.le_of_ble_eq_true rfl) (((shC_O hO) _).trans rfl) dX1_succeed_7 10 rfl m4 (Option.some.inj e3) ?_
  refine fm_aload_n C dX1_succeed_10 rfl 0 rfl 11 rfl ?_
  refine fm_iconst C (x := 0) dX1_succeed_11 (by decide) 12 rfl ?_
  obtain ⟨m6, e5, hf⟩ := Option.bind_eq_some_iff.mp hf
  refine fm_put C (t := t) (isO_lt hO) ((shC_O hO) _) rfl inG_X1 2 (by decide) F_X1_18 tyX1 tyX1_ok nmX1 rfl (ty := .int) (by decide +kernel) rfl rfl (Nat.le_of_ble_eq_true rfl) (((shC_O hO) _).trans rfl) dX1_succeed_12 15 rfl m6 (Option.some.inj e5) ?_
  refine fm_aload_n C dX1_succeed_15 rfl 0 rfl 16 rfl ?_
  refine fm_iconst C (x := 0) dX1_succeed_16 (by decide) 17 rfl ?_
  obtain ⟨m8, e7, hf⟩ := Option.bind_eq_some_iff.mp hf
  refine fm_put C (t := t) (isO_lt hO) ((shC_O hO) _) rfl inG_X1 3 (by decide) F_X1_21 tyX1 tyX1_ok nmX1 rfl (ty := .int) (by decide +kernel) rfl rfl (Nat.le_of_ble_eq_true rfl) (((shC_O hO) _).trans rfl) dX1_succeed_17 20 rfl m8 (Option.some.inj e7) ?_
  refine fm_aload_n C dX1_succeed_20 rfl 0 rfl 21 rfl ?_
  refine fm_iconst C (x := 0) dX1_succeed_21 (by decide) 22 rfl ?_
  obtain ⟨m10, e9, hf⟩ := Option.bind_eq_some_iff.mp hf
  refine fm_put C (t := t) (isO_lt hO) ((shC_O hO) _) rfl inG_X1 4 (by decide) F_X1_24 tyX1 tyX1_ok nmX1 rfl (ty := .int) (by decide +kernel) rfl rfl (Nat.le_of_ble_eq_true rfl) (((shC_O hO) _).trans rfl) dX1_succeed_22 25 rfl m10 (Option.some.inj e9) ?_
  refine fm_iconst C (x := 1) dX1_succeed_25 (by decide) 26 rfl ?_
  obtain rfl := Option.some.inj hf
  exact fm_zret C hr hk0 (Or.inr rfl) dX1_succeed_26
def f_X1_fail (t : Nat) (x1 : Int32) (x2 : Int32) (v : fm_T) : Option (Int32 × fm_T) := ((some (fm_u v t 0 0) : Option fm_T).bind fun m2 => ((some (fm_u m2 t 1 x1) : Option fm_T).bind fun m4 => ((some (fm_u m4 t 2 x2) : Option fm_T).bind fun m6 => ((some (fm_u m6 t 3 x1) : Option fm_T).bind fun m8 => ((some (fm_u m8 t 4 x2) : Option fm_T).bind fun m10 => some (0, m10))))))
set_option maxHeartbeats 4000000 in
set_option maxRecDepth 20000 in
theorem c_X1_fail {t : Nat} {x1 : Int32} {x2 : Int32} (hO : isO t) {v : fm_T} {q : Int32 × fm_T} (hf : f_X1_fail t x1 x2 v = some q) : fm_M l D (fm_tys cI cII cLd cOc) tA b 305 (shC cI cII cLd cOc b) A yX1_fail cX1_fail 3 (some .boolean) 0 [.ref (b + t), .int x1, .int x2] v (some (.int q.1)) q.2 := by
  refine fm_entry (by decide) (Nat.le_of_ble_eq_true rfl) ?_
  intro p e R s m args below meth c C hr hk0 hF hLo
  unfold f_X1_fail at hf
  show fm_V p l e R s m args below meth c D b 305 (shC cI cII cLd cOc b) A _ 3 0 [(0, .ref (b + t)), (1, .int x1), (2, .int x2)] [] v
  refine fm_aload_n C dX1_fail_0 rfl 0 rfl 1 rfl ?_
  refine fm_iconst C (x := 0) dX1_fail_1 (by decide) 2 rfl ?_
  obtain ⟨m2, e1, hf⟩ := Option.bind_eq_some_iff.mp hf
  refine fm_put C (t := t) (isO_lt hO) ((shC_O hO) _) rfl inG_X1 0 (by decide) F_X1_9 tyX1 tyX1_ok nmX1 rfl (ty := .int) (by decide +kernel) rfl rfl (Nat.le_of_ble_eq_true rfl) (((shC_O hO) _).trans rfl) dX1_fail_2 5 rfl m2 (Option.some.inj e1) ?_
  refine fm_aload_n C dX1_fail_5 rfl 0 rfl 6 rfl ?_
  refine fm_iload_n C dX1_fail_6 rfl 1 rfl 7 rfl ?_
  obtain ⟨m4, e3, hf⟩ := Option.bind_eq_some_iff.mp hf
  refine fm_put C (t := t) (isO_lt hO) ((shC_O hO) _) rfl inG_X1 1 (by decide) F_X1_15 tyX1 tyX1_ok nmX1 rfl (ty := .int) (by decide +kernel) rfl rfl (Nat.le_of_ble_eq_true rfl) (((shC_O hO) _).trans rfl) dX1_fail_7 10 rfl m4 (Option.some.inj e3) ?_
  refine fm_aload_n C dX1_fail_10 rfl 0 rfl 11 rfl ?_
  refine fm_iload_n C dX1_fail_11 rfl 2 rfl 12 rfl ?_
  obtain ⟨m6, e5, hf⟩ := Option.bind_eq_some_iff.mp hf
  refine fm_put C (t := t) (isO_lt hO) ((shC_O hO) _) rfl inG_X1 2 (by decide) F_X1_18 tyX1 tyX1_ok nmX1 rfl (ty := .int) (by decide +kernel) rfl rfl (Nat.le_of_ble_eq_true rfl) (((shC_O hO) _).trans rfl) dX1_fail_12 15 rfl m6 (Option.some.inj e5) ?_
  refine fm_aload_n C dX1_fail_15 rfl 0 rfl 16 rfl ?_
  refine fm_iload_n C dX1_fail_16 rfl 1 rfl 17 rfl ?_
  obtain ⟨m8, e7, hf⟩ := Option.bind_eq_some_iff.mp hf
  refine fm_put C (t := t) (isO_lt hO) ((shC_O hO) _) rfl inG_X1 3 (by decide) F_X1_21 tyX1 tyX1_ok nmX1 rfl (ty := .int) (by decide +kernel) rfl rfl (Nat.le_of_ble_eq_true rfl) (((shC_O hO) _).trans rfl) dX1_fail_17 20 rfl m8 (Option.some.inj e7) ?_
  refine fm_aload_n C dX1_fail_20 rfl 0 rfl 21 rfl ?_
  refine fm_iload_n C dX1_fail_21 rfl 2 rfl 22 rfl ?_
  obtain ⟨m10, e9, hf⟩ := Option.bind_eq_some_iff.mp hf
  refine fm_put C (t := t) (isO_lt hO) ((shC_O hO) _) rfl inG_X1 4 (by decide) F_X1_24 tyX1 tyX1_ok nmX1 rfl (ty := .int) (by decide +kernel) rfl rfl (Nat.le_of_ble_eq_true rfl) (((shC_O hO) _).trans rfl) dX1_fail_22 25 rfl m10 (Option.some.inj e9) ?_
  refine fm_iconst C (x := 0) dX1_fail_25 (by decide) 26 rfl ?_
  obtain rfl := Option.some.inj hf
  exact fm_zret C hr hk0 (Or.inl rfl) dX1_fail_26
def f_X1_failStart (t : Nat) (x1 : Int32) (v : fm_T) : Option (Int32 × fm_T) := ((some (fm_u v t 1 5) : Option fm_T).bind fun m2 => ((some (fm_u m2 t 2 x1) : Option fm_T).bind fun m4 => some (0, m4)))
set_option maxHeartbeats 4000000 in
set_option maxRecDepth 20000 in
theorem c_X1_failStart {t : Nat} {x1 : Int32} (hO : isO t) {v : fm_T} {q : Int32 × fm_T} (hf : f_X1_failStart t x1 v = some q) : fm_M l D (fm_tys cI cII cLd cOc) tA b 305 (shC cI cII cLd cOc b) A yX1_failStart cX1_failStart 2 (some .boolean) 0 [.ref (b + t), .int x1] v (some (.int q.1)) q.2 := by
  refine fm_entry (by decide) (Nat.le_of_ble_eq_true rfl) ?_
  intro p e R s m args below meth c C hr hk0 hF hLo
  unfold f_X1_failStart at hf
  show fm_V p l e R s m args below meth c D b 305 (shC cI cII cLd cOc b) A _ 2 0 [(0, .ref (b + t)), (1, .int x1)] [] v
  refine fm_aload_n C dX1_failStart_0 rfl 0 rfl 1 rfl ?_
  refine fm_iconst C (x := 5) dX1_failStart_1 (by decide) 2 rfl ?_
  obtain ⟨m2, e1, hf⟩ := Option.bind_eq_some_iff.mp hf
  refine fm_put C (t := t) (isO_lt hO) ((shC_O hO) _) rfl inG_X1 1 (by decide) F_X1_15 tyX1 tyX1_ok nmX1 rfl (ty := .int) (by decide +kernel) rfl rfl (Nat.le_of_ble_eq_true rfl) (((shC_O hO) _).trans rfl) dX1_failStart_2 5 rfl m2 (Option.some.inj e1) ?_
  refine fm_aload_n C dX1_failStart_5 rfl 0 rfl 6 rfl ?_
  refine fm_iload_n C dX1_failStart_6 rfl 1 rfl 7 rfl ?_
  obtain ⟨m4, e3, hf⟩ := Option.bind_eq_some_iff.mp hf
  refine fm_put C (t := t) (isO_lt hO) ((shC_O hO) _) rfl inG_X1 2 (by decide) F_X1_18 tyX1 tyX1_ok nmX1 rfl (ty := .int) (by decide +kernel) rfl rfl (Nat.le_of_ble_eq_true rfl) (((shC_O hO) _).trans rfl) dX1_failStart_7 10 rfl m4 (Option.some.inj e3) ?_
  refine fm_iconst C (x := 0) dX1_failStart_10 (by decide) 11 rfl ?_
  obtain rfl := Option.some.inj hf
  exact fm_zret C hr hk0 (Or.inl rfl) dX1_failStart_11
def f_X1_copy (t : Nat) (t2 : Nat) (v : fm_T) : Option (Int32 × fm_T) := ((some (fm_u v t 0 (v t2 0)) : Option fm_T).bind fun m2 => ((some (fm_u m2 t 1 (m2 t2 1)) : Option fm_T).bind fun m4 => ((some (fm_u m4 t 2 (m4 t2 2)) : Option fm_T).bind fun m6 => ((some (fm_u m6 t 3 (m6 t2 3)) : Option fm_T).bind fun m8 => ((some (fm_u m8 t 4 (m8 t2 4)) : Option fm_T).bind fun m10 => some (0, m10))))))
set_option maxHeartbeats 4000000 in
set_option maxRecDepth 20000 in
theorem c_X1_copy {t : Nat} {t2 : Nat} (hO : isO t) (hO2 : isO t2) {v : fm_T} {q : Int32 × fm_T} (hf : f_X1_copy t t2 v = some q) : fm_M l D (fm_tys cI cII cLd cOc) tA b 305 (shC cI cII cLd cOc b) A yX1_copy cX1_copy 2 none 0 [.ref (b + t), .ref (b + t2)] v none q.2 := by
  refine fm_entry (by decide) (Nat.le_of_ble_eq_true rfl) ?_
  intro p e R s m args below meth c C hr hk0 hF hLo
  unfold f_X1_copy at hf
  show fm_V p l e R s m args below meth c D b 305 (shC cI cII cLd cOc b) A _ 2 0 [(0, .ref (b + t)), (1, .ref (b + t2))] [] v
  refine fm_aload_n C dX1_copy_0 rfl 0 rfl 1 rfl ?_
  refine fm_aload_n C dX1_copy_1 rfl 1 rfl 2 rfl ?_
  refine fm_get C (t := t2) (isO_lt hO2) ((shC_O hO2) _) rfl inG_X1 0 (by decide) F_X1_9 rfl dX1_copy_2 5 rfl ?_
  obtain ⟨m2, e1, hf⟩ := Option.bind_eq_some_iff.mp hf
  refine fm_put C (t := t) (isO_lt hO) ((shC_O hO) _) rfl inG_X1 0 (by decide) F_X1_9 tyX1 tyX1_ok nmX1 rfl (ty := .int) (by decide +kernel) rfl rfl (Nat.le_of_ble_eq_true rfl) (((shC_O hO) _).trans rfl) dX1_copy_5 8 rfl m2 (Option.some.inj e1) ?_
  refine fm_aload_n C dX1_copy_8 rfl 0 rfl 9 rfl ?_
  refine fm_aload_n C dX1_copy_9 rfl 1 rfl 10 rfl ?_
  refine fm_get C (t := t2) (isO_lt hO2) ((shC_O hO2) _) rfl inG_X1 1 (by decide) F_X1_15 rfl dX1_copy_10 13 rfl ?_
  obtain ⟨m4, e3, hf⟩ := Option.bind_eq_some_iff.mp hf
  refine fm_put C (t := t) (isO_lt hO) ((shC_O hO) _) rfl inG_X1 1 (by decide) F_X1_15 tyX1 tyX1_ok nmX1 rfl (ty := .int) (by decide +kernel) rfl rfl (Nat.le_of_ble_eq_true rfl) (((shC_O hO) _).trans rfl) dX1_copy_13 16 rfl m4 (Option.some.inj e3) ?_
  refine fm_aload_n C dX1_copy_16 rfl 0 rfl 17 rfl ?_
  refine fm_aload_n C dX1_copy_17 rfl 1 rfl 18 rfl ?_
  refine fm_get C (t := t2) (isO_lt hO2) ((shC_O hO2) _) rfl inG_X1 2 (by decide) F_X1_18 rfl dX1_copy_18 21 rfl ?_
  obtain ⟨m6, e5, hf⟩ := Option.bind_eq_some_iff.mp hf
  refine fm_put C (t := t) (isO_lt hO) ((shC_O hO) _) rfl inG_X1 2 (by decide) F_X1_18 tyX1 tyX1_ok nmX1 rfl (ty := .int) (by decide +kernel) rfl rfl (Nat.le_of_ble_eq_true rfl) (((shC_O hO) _).trans rfl) dX1_copy_21 24 rfl m6 (Option.some.inj e5) ?_
  refine fm_aload_n C dX1_copy_24 rfl 0 rfl 25 rfl ?_
  refine fm_aload_n C dX1_copy_25 rfl 1 rfl 26 rfl ?_
  refine fm_get C (t := t2) (isO_lt hO2) ((shC_O hO2) _) rfl inG_X1 3 (by decide) F_X1_21 rfl dX1_copy_26 29 rfl ?_
  obtain ⟨m8, e7, hf⟩ := Option.bind_eq_some_iff.mp hf
  refine fm_put C (t := t) (isO_lt hO) ((shC_O hO) _) rfl inG_X1 3 (by decide) F_X1_21 tyX1 tyX1_ok nmX1 rfl (ty := .int) (by decide +kernel) rfl rfl (Nat.le_of_ble_eq_true rfl) (((shC_O hO) _).trans rfl) dX1_copy_29 32 rfl m8 (Option.some.inj e7) ?_
  refine fm_aload_n C dX1_copy_32 rfl 0 rfl 33 rfl ?_
  refine fm_aload_n C dX1_copy_33 rfl 1 rfl 34 rfl ?_
  refine fm_get C (t := t2) (isO_lt hO2) ((shC_O hO2) _) rfl inG_X1 4 (by decide) F_X1_24 rfl dX1_copy_34 37 rfl ?_
  obtain ⟨m10, e9, hf⟩ := Option.bind_eq_some_iff.mp hf
  refine fm_put C (t := t) (isO_lt hO) ((shC_O hO) _) rfl inG_X1 4 (by decide) F_X1_24 tyX1 tyX1_ok nmX1 rfl (ty := .int) (by decide +kernel) rfl rfl (Nat.le_of_ble_eq_true rfl) (((shC_O hO) _).trans rfl) dX1_copy_37 40 rfl m10 (Option.some.inj e9) ?_
  obtain rfl := Option.some.inj hf
  exact fm_vret C hr hk0 dX1_copy_40
def f_X3_clear (k : Nat) (v : fm_T) : Option (Int32 × fm_T) := ((some (fm_u v (ev k) 2 0) : Option fm_T).bind fun m2 => some (0, m2))
set_option maxHeartbeats 4000000 in
set_option maxRecDepth 20000 in
theorem c_X3_clear {k : Nat} (hk : k < 4) {v : fm_T} {q : Int32 × fm_T} (hf : f_X3_clear k v = some q) : fm_M l D (fm_tys cI cII cLd cOc) tA b 305 (shC cI cII cLd cOc b) A yX3_clear cX3_clear 1 none 0 [.ref (b + (ev k))] v none q.2 := by
  refine fm_entry (by decide) (Nat.le_of_ble_eq_true rfl) ?_
  intro p e R s m args below meth c C hr hk0 hF hLo
  unfold f_X3_clear at hf
  show fm_V p l e R s m args below meth c D b 305 (shC cI cII cLd cOc b) A _ 1 0 [(0, .ref (b + (ev k)))] [] v
  refine fm_aload_n C dX3_clear_0 rfl 0 rfl 1 rfl ?_
  refine fm_iconst C (x := 0) dX3_clear_1 (by decide) 2 rfl ?_
  obtain ⟨m2, e1, hf⟩ := Option.bind_eq_some_iff.mp hf
  refine fm_put C (t := ev k) (ev_lt (j := 0) hk (by decide)) ((shC_ev hk) _) rfl inG_X3 2 (by decide) F_X3_18 tyX3 tyX3_ok nmX3 rfl (ty := .int) (by decide +kernel) rfl rfl (Nat.le_of_ble_eq_true rfl) (((shC_ev hk) _).trans rfl) dX3_clear_2 5 rfl m2 (Option.some.inj e1) ?_
  obtain rfl := Option.some.inj hf
  exact fm_vret C hr hk0 dX3_clear_5
def f_X3_note (k : Nat) (x1 : Int32) (x2 : Int32) (v : fm_T) : Option (Int32 × fm_T) := (if 200 ≤ v (ev k) 2 then some (0, v) else (if v (ev k) 2 < 0 ∨ 200 ≤ (v (ev k) 2).toNatClampNeg then none else ((some (fm_u v (ev k + 1) ((v (ev k) 2).toNatClampNeg) x1) : Option fm_T).bind fun m4 => (if m4 (ev k) 2 < 0 ∨ 200 ≤ (m4 (ev k) 2).toNatClampNeg then none else ((some (fm_u m4 (ev k + 2) ((m4 (ev k) 2).toNatClampNeg) x2) : Option fm_T).bind fun m7 => ((some (fm_u m7 (ev k) 2 ((m7 (ev k) 2) + 1)) : Option fm_T).bind fun m9 => some (0, m9)))))))
set_option maxHeartbeats 4000000 in
set_option maxRecDepth 20000 in
theorem c_X3_note {k : Nat} {x1 : Int32} {x2 : Int32} (hk : k < 4) {v : fm_T} {q : Int32 × fm_T} (hf : f_X3_note k x1 x2 v = some q) : fm_M l D (fm_tys cI cII cLd cOc) tA b 305 (shC cI cII cLd cOc b) A yX3_note cX3_note 3 none 0 [.ref (b + (ev k)), .int x1, .int x2] v none q.2 := by
  refine fm_entry (by decide) (Nat.le_of_ble_eq_true rfl) ?_
  intro p e R s m args below meth c C hr hk0 hF hLo
  unfold f_X3_note at hf
  show fm_V p l e R s m args below meth c D b 305 (shC cI cII cLd cOc b) A _ 3 0 [(0, .ref (b + (ev k))), (1, .int x1), (2, .int x2)] [] v
  refine fm_aload_n C dX3_note_0 rfl 0 rfl 1 rfl ?_
  refine fm_get C (t := ev k) (ev_lt (j := 0) hk (by decide)) ((shC_ev hk) _) rfl inG_X3 2 (by decide) F_X3_18 rfl dX3_note_1 4 rfl ?_
  refine fm_sipush C (x := 200) dX3_note_4 (by decide) 7 rfl ?_
  refine fm_icmp_ge C 40 dX3_note_7 (by decide) (fun c1 => ?_) 10 rfl (fun c1 => ?_)
  · rw [if_pos c1] at hf
    obtain rfl := Option.some.inj hf
    exact fm_vret C hr hk0 dX3_note_40
  · rw [if_neg c1] at hf
    refine fm_aload_n C dX3_note_10 rfl 0 rfl 11 rfl ?_
    refine fm_get C (t := ev k) (ev_lt (j := 0) hk (by decide)) ((shC_ev hk) _) rfl inG_X3 0 (by decide) F_X3_9 rfl dX3_note_11 14 rfl ?_
    refine fm_aload_n C dX3_note_14 rfl 0 rfl 15 rfl ?_
    refine fm_get C (t := ev k) (ev_lt (j := 0) hk (by decide)) ((shC_ev hk) _) rfl inG_X3 2 (by decide) F_X3_18 rfl dX3_note_15 18 rfl ?_
    refine fm_iload_n C dX3_note_18 rfl 1 rfl 19 rfl ?_
    by_cases b2 : v (ev k) 2 < 0 ∨ 200 ≤ (v (ev k) 2).toNatClampNeg
    · rw [if_pos b2] at hf; cases hf
    rw [if_neg b2] at hf
    obtain ⟨m4, e3, hf⟩ := Option.bind_eq_some_iff.mp hf
    refine fm_iast C (t := ev k + 1) (t0 := 0) (ev_lt hk (by decide)) (shC_ev1 hk) rfl b2 dX3_note_19 20 rfl m4 (Option.some.inj e3) ?_
    refine fm_aload_n C dX3_note_20 rfl 0 rfl 21 rfl ?_
    refine fm_get C (t := ev k) (ev_lt (j := 0) hk (by decide)) ((shC_ev hk) _) rfl inG_X3 1 (by decide) F_X3_15 rfl dX3_note_21 24 rfl ?_
    refine fm_aload_n C dX3_note_24 rfl 0 rfl 25 rfl ?_
    refine fm_get C (t := ev k) (ev_lt (j := 0) hk (by decide)) ((shC_ev hk) _) rfl inG_X3 2 (by decide) F_X3_18 rfl dX3_note_25 28 rfl ?_
    refine fm_iload_n C dX3_note_28 rfl 2 rfl 29 rfl ?_
    by_cases b5 : m4 (ev k) 2 < 0 ∨ 200 ≤ (m4 (ev k) 2).toNatClampNeg
    · rw [if_pos b5] at hf; cases hf
    rw [if_neg b5] at hf
    obtain ⟨m7, e6, hf⟩ := Option.bind_eq_some_iff.mp hf
    refine fm_iast C (t := ev k + 2) (t0 := 0) (ev_lt hk (by decide)) (shC_ev2 hk) rfl b5 dX3_note_29 30 rfl m7 (Option.some.inj e6) ?_
    refine fm_aload_n C dX3_note_30 rfl 0 rfl 31 rfl ?_
    refine fm_dup C dX3_note_31 rfl 32 rfl ?_
    refine fm_get C (t := ev k) (ev_lt (j := 0) hk (by decide)) ((shC_ev hk) _) rfl inG_X3 2 (by decide) F_X3_18 rfl dX3_note_32 35 rfl ?_
    refine fm_iconst C (x := 1) dX3_note_35 (by decide) 36 rfl ?_
    refine fm_iadd C dX3_note_36 37 rfl ?_
    obtain ⟨m9, e8, hf⟩ := Option.bind_eq_some_iff.mp hf
    refine fm_put C (t := ev k) (ev_lt (j := 0) hk (by decide)) ((shC_ev hk) _) rfl inG_X3 2 (by decide) F_X3_18 tyX3 tyX3_ok nmX3 rfl (ty := .int) (by decide +kernel) rfl rfl (Nat.le_of_ble_eq_true rfl) (((shC_ev hk) _).trans rfl) dX3_note_37 40 rfl m9 (Option.some.inj e8) ?_
    obtain rfl := Option.some.inj hf
    exact fm_vret C hr hk0 dX3_note_40
def f_X2_hasModule (x1 : Int32) (v : fm_T) : Option (Int32 × fm_T) := (if x1 < 0 then some (0, v) else (if v 1 0 ≤ x1 then some (0, v) else some (1, v)))
set_option maxHeartbeats 4000000 in
set_option maxRecDepth 20000 in
theorem c_X2_hasModule {x1 : Int32}  {v : fm_T} {q : Int32 × fm_T} (hf : f_X2_hasModule x1 v = some q) : fm_M l D (fm_tys cI cII cLd cOc) tA b 305 (shC cI cII cLd cOc b) A yX2_hasModule cX2_hasModule 2 (some .boolean) 0 [.ref (b + 1), .int x1] v (some (.int q.1)) q.2 := by
  refine fm_entry (by decide) (Nat.le_of_ble_eq_true rfl) ?_
  intro p e R s m args below meth c C hr hk0 hF hLo
  unfold f_X2_hasModule at hf
  show fm_V p l e R s m args below meth c D b 305 (shC cI cII cLd cOc b) A _ 2 0 [(0, .ref (b + 1)), (1, .int x1)] [] v
  refine fm_iload_n C dX2_hasModule_0 rfl 1 rfl 1 rfl ?_
  refine fm_if_lt C 16 dX2_hasModule_1 (by decide) (fun c1 => ?_) 4 rfl (fun c1 => ?_)
  · rw [if_pos c1] at hf
    refine fm_iconst C (x := 0) dX2_hasModule_16 (by decide) 17 rfl ?_
    obtain rfl := Option.some.inj hf
    exact fm_zret C hr hk0 (Or.inl rfl) dX2_hasModule_17
  · rw [if_neg c1] at hf
    refine fm_iload_n C dX2_hasModule_4 rfl 1 rfl 5 rfl ?_
    refine fm_aload_n C dX2_hasModule_5 rfl 0 rfl 6 rfl ?_
    refine fm_get C (t := 1) (by decide) (shC_1 _) rfl inG_X2 0 (by decide) F_X2_50 rfl dX2_hasModule_6 9 rfl ?_
    refine fm_icmp_ge C 16 dX2_hasModule_9 (by decide) (fun c2 => ?_) 12 rfl (fun c2 => ?_)
    · rw [if_pos c2] at hf
      refine fm_iconst C (x := 0) dX2_hasModule_16 (by decide) 17 rfl ?_
      obtain rfl := Option.some.inj hf
      exact fm_zret C hr hk0 (Or.inl rfl) dX2_hasModule_17
    · rw [if_neg c2] at hf
      refine fm_iconst C (x := 1) dX2_hasModule_12 (by decide) 13 rfl ?_
      refine fm_goto C 17 dX2_hasModule_13 (by decide) ?_
      obtain rfl := Option.some.inj hf
      exact fm_zret C hr hk0 (Or.inr rfl) dX2_hasModule_17
def f_X2_hasItem (x1 : Int32) (x2 : Int32) (v : fm_T) : Option (Int32 × fm_T) := ((f_X2_hasModule x1 v).bind fun q2 => (if q2.1 = 0 then some (0, q2.2) else (if x2 < 0 then some (0, q2.2) else (if x1 < 0 ∨ 12 ≤ x1.toNatClampNeg then none else (if q2.2 2 x1.toNatClampNeg ≤ x2 then some (0, q2.2) else some (1, q2.2))))))
set_option maxHeartbeats 4000000 in
set_option maxRecDepth 20000 in
theorem c_X2_hasItem {x1 : Int32} {x2 : Int32}  {v : fm_T} {q : Int32 × fm_T} (hf : f_X2_hasItem x1 x2 v = some q) : fm_M l D (fm_tys cI cII cLd cOc) tA b 305 (shC cI cII cLd cOc b) A yX2_hasItem cX2_hasItem 3 (some .boolean) 1 [.ref (b + 1), .int x1, .int x2] v (some (.int q.1)) q.2 := by
  refine fm_entry (by decide) (Nat.le_of_ble_eq_true rfl) ?_
  intro p e R s m args below meth c C hr hk0 hF hLo
  unfold f_X2_hasItem at hf
  show fm_V p l e R s m args below meth c D b 305 (shC cI cII cLd cOc b) A _ 3 0 [(0, .ref (b + 1)), (1, .int x1), (2, .int x2)] [] v
  refine fm_aload_n C dX2_hasItem_0 rfl 0 rfl 1 rfl ?_
  refine fm_iload_n C dX2_hasItem_1 rfl 1 rfl 2 rfl ?_
  obtain ⟨q2, h1, hf⟩ := Option.bind_eq_some_iff.mp hf
  refine fm_callV C Y_X2_hasModule (t := 1) (by decide) (shC_1 _) rfl LM_X2_54 (As := [.int x1]) (rest := []) (c_X2_hasModule  h1) (by omega) (by omega) rfl (Nat.le_of_ble_eq_true rfl) dX2_hasItem_2 5 rfl [.int q2.1] rfl ?_
  refine fm_if_eq C 26 dX2_hasItem_5 (by decide) (fun c3 => ?_) 8 rfl (fun c3 => ?_)
  · rw [if_pos c3] at hf
    refine fm_iconst C (x := 0) dX2_hasItem_26 (by decide) 27 rfl ?_
    obtain rfl := Option.some.inj hf
    exact fm_zret C hr hk0 (Or.inl rfl) dX2_hasItem_27
  · rw [if_neg c3] at hf
    refine fm_iload_n C dX2_hasItem_8 rfl 2 rfl 9 rfl ?_
    refine fm_if_lt C 26 dX2_hasItem_9 (by decide) (fun c4 => ?_) 12 rfl (fun c4 => ?_)
    · rw [if_pos c4] at hf
      refine fm_iconst C (x := 0) dX2_hasItem_26 (by decide) 27 rfl ?_
      obtain rfl := Option.some.inj hf
      exact fm_zret C hr hk0 (Or.inl rfl) dX2_hasItem_27
    · rw [if_neg c4] at hf
      refine fm_iload_n C dX2_hasItem_12 rfl 2 rfl 13 rfl ?_
      refine fm_aload_n C dX2_hasItem_13 rfl 0 rfl 14 rfl ?_
      refine fm_get C (t := 1) (by decide) (shC_1 _) rfl inG_X2 1 (by decide) F_X2_9 rfl dX2_hasItem_14 17 rfl ?_
      refine fm_iload_n C dX2_hasItem_17 rfl 1 rfl 18 rfl ?_
      by_cases b5 : x1 < 0 ∨ 12 ≤ x1.toNatClampNeg
      · rw [if_pos b5] at hf; cases hf
      rw [if_neg b5] at hf
      refine fm_iald C (t := 2) (t0 := 0) (by decide) (shC_2 _) rfl b5 dX2_hasItem_18 19 rfl ?_
      refine fm_icmp_ge C 26 dX2_hasItem_19 (by decide) (fun c6 => ?_) 22 rfl (fun c6 => ?_)
      · rw [if_pos c6] at hf
        refine fm_iconst C (x := 0) dX2_hasItem_26 (by decide) 27 rfl ?_
        obtain rfl := Option.some.inj hf
        exact fm_zret C hr hk0 (Or.inl rfl) dX2_hasItem_27
      · rw [if_neg c6] at hf
        refine fm_iconst C (x := 1) dX2_hasItem_22 (by decide) 23 rfl ?_
        refine fm_goto C 27 dX2_hasItem_23 (by decide) ?_
        obtain rfl := Option.some.inj hf
        exact fm_zret C hr hk0 (Or.inr rfl) dX2_hasItem_27
def f_X2_hasConstant (x1 : Int32) (v : fm_T) : Option (Int32 × fm_T) := (if x1 < 0 then some (0, v) else (if v 1 8 ≤ x1 then some (0, v) else some (1, v)))
set_option maxHeartbeats 4000000 in
set_option maxRecDepth 20000 in
theorem c_X2_hasConstant {x1 : Int32}  {v : fm_T} {q : Int32 × fm_T} (hf : f_X2_hasConstant x1 v = some q) : fm_M l D (fm_tys cI cII cLd cOc) tA b 305 (shC cI cII cLd cOc b) A yX2_hasConstant cX2_hasConstant 2 (some .boolean) 0 [.ref (b + 1), .int x1] v (some (.int q.1)) q.2 := by
  refine fm_entry (by decide) (Nat.le_of_ble_eq_true rfl) ?_
  intro p e R s m args below meth c C hr hk0 hF hLo
  unfold f_X2_hasConstant at hf
  show fm_V p l e R s m args below meth c D b 305 (shC cI cII cLd cOc b) A _ 2 0 [(0, .ref (b + 1)), (1, .int x1)] [] v
  refine fm_iload_n C dX2_hasConstant_0 rfl 1 rfl 1 rfl ?_
  refine fm_if_lt C 16 dX2_hasConstant_1 (by decide) (fun c1 => ?_) 4 rfl (fun c1 => ?_)
  · rw [if_pos c1] at hf
    refine fm_iconst C (x := 0) dX2_hasConstant_16 (by decide) 17 rfl ?_
    obtain rfl := Option.some.inj hf
    exact fm_zret C hr hk0 (Or.inl rfl) dX2_hasConstant_17
  · rw [if_neg c1] at hf
    refine fm_iload_n C dX2_hasConstant_4 rfl 1 rfl 5 rfl ?_
    refine fm_aload_n C dX2_hasConstant_5 rfl 0 rfl 6 rfl ?_
    refine fm_get C (t := 1) (by decide) (shC_1 _) rfl inG_X2 8 (by decide) F_X2_58 rfl dX2_hasConstant_6 9 rfl ?_
    refine fm_icmp_ge C 16 dX2_hasConstant_9 (by decide) (fun c2 => ?_) 12 rfl (fun c2 => ?_)
    · rw [if_pos c2] at hf
      refine fm_iconst C (x := 0) dX2_hasConstant_16 (by decide) 17 rfl ?_
      obtain rfl := Option.some.inj hf
      exact fm_zret C hr hk0 (Or.inl rfl) dX2_hasConstant_17
    · rw [if_neg c2] at hf
      refine fm_iconst C (x := 1) dX2_hasConstant_12 (by decide) 13 rfl ?_
      refine fm_goto C 17 dX2_hasConstant_13 (by decide) ?_
      obtain rfl := Option.some.inj hf
      exact fm_zret C hr hk0 (Or.inr rfl) dX2_hasConstant_17
def f_X2_mayBeConstant (x1 : Int32) (v : fm_T) : Option (Int32 × fm_T) := (if x1 < 0 then some (0, v) else (if 40 ≤ x1 then some (0, v) else some (1, v)))
set_option maxHeartbeats 4000000 in
set_option maxRecDepth 20000 in
theorem c_X2_mayBeConstant {x1 : Int32}  {v : fm_T} {q : Int32 × fm_T} (hf : f_X2_mayBeConstant x1 v = some q) : fm_M l D (fm_tys cI cII cLd cOc) tA b 305 (shC cI cII cLd cOc b) A yX2_mayBeConstant cX2_mayBeConstant 2 (some .boolean) 0 [.ref (b + 1), .int x1] v (some (.int q.1)) q.2 := by
  refine fm_entry (by decide) (Nat.le_of_ble_eq_true rfl) ?_
  intro p e R s m args below meth c C hr hk0 hF hLo
  unfold f_X2_mayBeConstant at hf
  show fm_V p l e R s m args below meth c D b 305 (shC cI cII cLd cOc b) A _ 2 0 [(0, .ref (b + 1)), (1, .int x1)] [] v
  refine fm_iload_n C dX2_mayBeConstant_0 rfl 1 rfl 1 rfl ?_
  refine fm_if_lt C 14 dX2_mayBeConstant_1 (by decide) (fun c1 => ?_) 4 rfl (fun c1 => ?_)
  · rw [if_pos c1] at hf
    refine fm_iconst C (x := 0) dX2_mayBeConstant_14 (by decide) 15 rfl ?_
    obtain rfl := Option.some.inj hf
    exact fm_zret C hr hk0 (Or.inl rfl) dX2_mayBeConstant_15
  · rw [if_neg c1] at hf
    refine fm_iload_n C dX2_mayBeConstant_4 rfl 1 rfl 5 rfl ?_
    refine fm_bipush C (x := 40) dX2_mayBeConstant_5 (by decide) 7 rfl ?_
    refine fm_icmp_ge C 14 dX2_mayBeConstant_7 (by decide) (fun c2 => ?_) 10 rfl (fun c2 => ?_)
    · rw [if_pos c2] at hf
      refine fm_iconst C (x := 0) dX2_mayBeConstant_14 (by decide) 15 rfl ?_
      obtain rfl := Option.some.inj hf
      exact fm_zret C hr hk0 (Or.inl rfl) dX2_mayBeConstant_15
    · rw [if_neg c2] at hf
      refine fm_iconst C (x := 1) dX2_mayBeConstant_10 (by decide) 11 rfl ?_
      refine fm_goto C 15 dX2_mayBeConstant_11 (by decide) ?_
      obtain rfl := Option.some.inj hf
      exact fm_zret C hr hk0 (Or.inr rfl) dX2_mayBeConstant_15
end
end
section
section
variable {l : Launch} {D : va_G} {tA b : Nat} {A : Nat → Prop} {cI cII cLd cOc : ClassId}
def f_X2_addModule (x1 : Int32) (v : fm_T) : Option (Int32 × fm_T) := (if x1 < 0 then some ((-1), v) else (if x1 ≤ 8 then (if v 1 0 < 12 then (if v 1 0 < 0 ∨ 12 ≤ (v 1 0).toNatClampNeg then none else ((some (fm_u v 2 ((v 1 0).toNatClampNeg) x1) : Option fm_T).bind fun m6 => ((some (fm_u m6 1 0 ((m6 1 0) + 1)) : Option fm_T).bind fun m8 => some (m6 1 0, m8)))) else some ((-2), v)) else some ((-1), v)))
set_option maxHeartbeats 4000000 in
set_option maxRecDepth 20000 in
theorem c_X2_addModule {x1 : Int32}  {v : fm_T} {q : Int32 × fm_T} (hf : f_X2_addModule x1 v = some q) : fm_M l D (fm_tys cI cII cLd cOc) tA b 305 (shC cI cII cLd cOc b) A yX2_addModule cX2_addModule 2 (some .int) 0 [.ref (b + 1), .int x1] v (some (.int q.1)) q.2 := by
  refine fm_entry (by decide) (Nat.le_of_ble_eq_true rfl) ?_
  intro p e R s m args below meth c C hr hk0 hF hLo
  unfold f_X2_addModule at hf
  show fm_V p l e R s m args below meth c D b 305 (shC cI cII cLd cOc b) A _ 2 0 [(0, .ref (b + 1)), (1, .int x1)] [] v
  refine fm_iload_n C dX2_addModule_0 rfl 1 rfl 1 rfl ?_
  refine fm_if_lt C 10 dX2_addModule_1 (by decide) (fun c1 => ?_) 4 rfl (fun c1 => ?_)
  · rw [if_pos c1] at hf
    refine fm_iconst C (x := -1) dX2_addModule_10 (by decide) 11 rfl ?_
    obtain rfl := Option.some.inj hf
    exact fm_iret C hr hk0 dX2_addModule_11
  · rw [if_neg c1] at hf
    refine fm_iload_n C dX2_addModule_4 rfl 1 rfl 5 rfl ?_
    refine fm_bipush C (x := 8) dX2_addModule_5 (by decide) 7 rfl ?_
    refine fm_icmp_le C 12 dX2_addModule_7 (by decide) (fun c2 => ?_) 10 rfl (fun c2 => ?_)
    · rw [if_pos c2] at hf
      refine fm_aload_n C dX2_addModule_12 rfl 0 rfl 13 rfl ?_
      refine fm_get C (t := 1) (by decide) (shC_1 _) rfl inG_X2 0 (by decide) F_X2_50 rfl dX2_addModule_13 16 rfl ?_
      refine fm_bipush C (x := 12) dX2_addModule_16 (by decide) 18 rfl ?_
      refine fm_icmp_lt C 24 dX2_addModule_18 (by decide) (fun c3 => ?_) 21 rfl (fun c3 => ?_)
      · rw [if_pos c3] at hf
        refine fm_aload_n C dX2_addModule_24 rfl 0 rfl 25 rfl ?_
        refine fm_get C (t := 1) (by decide) (shC_1 _) rfl inG_X2 1 (by decide) F_X2_9 rfl dX2_addModule_25 28 rfl ?_
        refine fm_aload_n C dX2_addModule_28 rfl 0 rfl 29 rfl ?_
        refine fm_get C (t := 1) (by decide) (shC_1 _) rfl inG_X2 0 (by decide) F_X2_50 rfl dX2_addModule_29 32 rfl ?_
        refine fm_iload_n C dX2_addModule_32 rfl 1 rfl 33 rfl ?_
        by_cases b4 : v 1 0 < 0 ∨ 12 ≤ (v 1 0).toNatClampNeg
        · rw [if_pos b4] at hf; cases hf
        rw [if_neg b4] at hf
        obtain ⟨m6, e5, hf⟩ := Option.bind_eq_some_iff.mp hf
        refine fm_iast C (t := 2) (t0 := 0) (by decide) shC_2 rfl b4 dX2_addModule_33 34 rfl m6 (Option.some.inj e5) ?_
        refine fm_aload_n C dX2_addModule_34 rfl 0 rfl 35 rfl ?_
        refine fm_dup C dX2_addModule_35 rfl 36 rfl ?_
        refine fm_get C (t := 1) (by decide) (shC_1 _) rfl inG_X2 0 (by decide) F_X2_50 rfl dX2_addModule_36 39 rfl ?_
        refine fm_dup_x1 C dX2_addModule_39 rfl rfl 40 rfl ?_
        refine fm_iconst C (x := 1) dX2_addModule_40 (by decide) 41 rfl ?_
        refine fm_iadd C dX2_addModule_41 42 rfl ?_
        obtain ⟨m8, e7, hf⟩ := Option.bind_eq_some_iff.mp hf
        refine fm_put C (t := 1) (by decide) (shC_1 _) rfl inG_X2 0 (by decide) F_X2_50 tyX2 tyX2_ok nmX2 rfl (ty := .int) (by decide +kernel) rfl rfl (Nat.le_of_ble_eq_true rfl) ((shC_1 _).trans rfl) dX2_addModule_42 45 rfl m8 (Option.some.inj e7) ?_
        obtain rfl := Option.some.inj hf
        exact fm_iret C hr hk0 dX2_addModule_45
      · rw [if_neg c3] at hf
        refine fm_bipush C (x := -2) dX2_addModule_21 (by decide) 23 rfl ?_
        obtain rfl := Option.some.inj hf
        exact fm_iret C hr hk0 dX2_addModule_23
    · rw [if_neg c2] at hf
      refine fm_iconst C (x := -1) dX2_addModule_10 (by decide) 11 rfl ?_
      obtain rfl := Option.some.inj hf
      exact fm_iret C hr hk0 dX2_addModule_11
def f_X2_setItem (x1 : Int32) (x2 : Int32) (x3 : Int32) (v : fm_T) : Option (Int32 × fm_T) := ((f_X2_hasItem x1 x2 v).bind fun q2 => (if q2.1 = 0 then some ((-1), q2.2) else (if x1 < 0 ∨ 12 ≤ x1.toNatClampNeg then none else (if x2 < 0 ∨ 8 ≤ x2.toNatClampNeg then none else ((some (fm_u q2.2 (4 + x1.toNatClampNeg) x2.toNatClampNeg x3) : Option fm_T).bind fun m7 => some (1, m7))))))
set_option maxHeartbeats 4000000 in
set_option maxRecDepth 20000 in
theorem c_X2_setItem {x1 : Int32} {x2 : Int32} {x3 : Int32}  {v : fm_T} {q : Int32 × fm_T} (hf : f_X2_setItem x1 x2 x3 v = some q) : fm_M l D (fm_tys cI cII cLd cOc) tA b 305 (shC cI cII cLd cOc b) A yX2_setItem cX2_setItem 4 (some .int) 2 [.ref (b + 1), .int x1, .int x2, .int x3] v (some (.int q.1)) q.2 := by
  refine fm_entry (by decide) (Nat.le_of_ble_eq_true rfl) ?_
  intro p e R s m args below meth c C hr hk0 hF hLo
  unfold f_X2_setItem at hf
  show fm_V p l e R s m args below meth c D b 305 (shC cI cII cLd cOc b) A _ 4 0 [(0, .ref (b + 1)), (1, .int x1), (2, .int x2), (3, .int x3)] [] v
  refine fm_aload_n C dX2_setItem_0 rfl 0 rfl 1 rfl ?_
  refine fm_iload_n C dX2_setItem_1 rfl 1 rfl 2 rfl ?_
  refine fm_iload_n C dX2_setItem_2 rfl 2 rfl 3 rfl ?_
  obtain ⟨q2, h1, hf⟩ := Option.bind_eq_some_iff.mp hf
  refine fm_callV C Y_X2_hasItem (t := 1) (by decide) (shC_1 _) rfl LM_X2_61 (As := [.int x1, .int x2]) (rest := []) (c_X2_hasItem  h1) (by omega) (by omega) rfl (Nat.le_of_ble_eq_true rfl) dX2_setItem_3 6 rfl [.int q2.1] rfl ?_
  refine fm_if_ne C 11 dX2_setItem_6 (by decide) (fun c3 => ?_) 9 rfl (fun c3 => ?_)
  · rw [if_neg c3] at hf
    refine fm_aload_n C dX2_setItem_11 rfl 0 rfl 12 rfl ?_
    refine fm_get C (t := 1) (by decide) (shC_1 _) rfl inG_X2 2 (by decide) F_X2_17 rfl dX2_setItem_12 15 rfl ?_
    refine fm_iload_n C dX2_setItem_15 rfl 1 rfl 16 rfl ?_
    by_cases b4 : x1 < 0 ∨ 12 ≤ x1.toNatClampNeg
    · rw [if_pos b4] at hf; cases hf
    rw [if_neg b4] at hf
    refine fm_aald C (t := 3) (t0 := 1) (by decide) (shC_3 _) rfl rfl b4 (x := b + (4 + x1.toNatClampNeg)) (in_some (g := fun i => b + (4 + i)) b4) dX2_setItem_16 17 rfl ?_
    refine fm_iload_n C dX2_setItem_17 rfl 2 rfl 18 rfl ?_
    refine fm_iload_n C dX2_setItem_18 rfl 3 rfl 19 rfl ?_
    by_cases b5 : x2 < 0 ∨ 8 ≤ x2.toNatClampNeg
    · rw [if_pos b5] at hf; cases hf
    rw [if_neg b5] at hf
    obtain ⟨m7, e6, hf⟩ := Option.bind_eq_some_iff.mp hf
    refine fm_iast C (t := 4 + x1.toNatClampNeg) (t0 := 0) (by have := in_lt b4; omega) (shC_r4 (in_lt b4)) rfl b5 dX2_setItem_19 20 rfl m7 (Option.some.inj e6) ?_
    refine fm_iconst C (x := 1) dX2_setItem_20 (by decide) 21 rfl ?_
    obtain rfl := Option.some.inj hf
    exact fm_iret C hr hk0 dX2_setItem_21
  · rw [if_pos c3] at hf
    refine fm_iconst C (x := -1) dX2_setItem_9 (by decide) 10 rfl ?_
    obtain rfl := Option.some.inj hf
    exact fm_iret C hr hk0 dX2_setItem_10
def f_X2_addUsed (x1 : Int32) (x2 : Int32) (v : fm_T) : Option (Int32 × fm_T) := ((f_X2_hasModule x1 v).bind fun q2 => (if q2.1 = 0 then some ((-1), q2.2) else ((f_X2_hasModule x2 q2.2).bind fun q5 => (if q5.1 = 0 then some ((-1), q5.2) else (if x1 < 0 ∨ 12 ≤ x1.toNatClampNeg then none else (if q5.2 16 x1.toNatClampNeg < 6 then (if q5.2 16 x1.toNatClampNeg < 0 ∨ 6 ≤ (q5.2 16 x1.toNatClampNeg).toNatClampNeg then none else ((some (fm_u q5.2 (18 + x1.toNatClampNeg) ((q5.2 16 x1.toNatClampNeg).toNatClampNeg) x2) : Option fm_T).bind fun m11 => ((some (fm_u m11 16 x1.toNatClampNeg ((m11 16 x1.toNatClampNeg) + 1)) : Option fm_T).bind fun m13 => some (m13 16 x1.toNatClampNeg, m13)))) else some ((-2), q5.2)))))))
set_option maxHeartbeats 4000000 in
set_option maxRecDepth 20000 in
theorem c_X2_addUsed {x1 : Int32} {x2 : Int32}  {v : fm_T} {q : Int32 × fm_T} (hf : f_X2_addUsed x1 x2 v = some q) : fm_M l D (fm_tys cI cII cLd cOc) tA b 305 (shC cI cII cLd cOc b) A yX2_addUsed cX2_addUsed 3 (some .int) 1 [.ref (b + 1), .int x1, .int x2] v (some (.int q.1)) q.2 := by
  refine fm_entry (by decide) (Nat.le_of_ble_eq_true rfl) ?_
  intro p e R s m args below meth c C hr hk0 hF hLo
  unfold f_X2_addUsed at hf
  show fm_V p l e R s m args below meth c D b 305 (shC cI cII cLd cOc b) A _ 3 0 [(0, .ref (b + 1)), (1, .int x1), (2, .int x2)] [] v
  refine fm_aload_n C dX2_addUsed_0 rfl 0 rfl 1 rfl ?_
  refine fm_iload_n C dX2_addUsed_1 rfl 1 rfl 2 rfl ?_
  obtain ⟨q2, h1, hf⟩ := Option.bind_eq_some_iff.mp hf
  refine fm_callV C Y_X2_hasModule (t := 1) (by decide) (shC_1 _) rfl LM_X2_54 (As := [.int x1]) (rest := []) (c_X2_hasModule  h1) (by omega) (by omega) rfl (Nat.le_of_ble_eq_true rfl) dX2_addUsed_2 5 rfl [.int q2.1] rfl ?_
  refine fm_if_eq C 16 dX2_addUsed_5 (by decide) (fun c3 => ?_) 8 rfl (fun c3 => ?_)
  · rw [if_pos c3] at hf
    refine fm_iconst C (x := -1) dX2_addUsed_16 (by decide) 17 rfl ?_
    obtain rfl := Option.some.inj hf
    exact fm_iret C hr hk0 dX2_addUsed_17
  · rw [if_neg c3] at hf
    refine fm_aload_n C dX2_addUsed_8 rfl 0 rfl 9 rfl ?_
    refine fm_iload_n C dX2_addUsed_9 rfl 2 rfl 10 rfl ?_
    obtain ⟨q5, h4, hf⟩ := Option.bind_eq_some_iff.mp hf
    refine fm_callV C Y_X2_hasModule (t := 1) (by decide) (shC_1 _) rfl LM_X2_54 (As := [.int x2]) (rest := []) (c_X2_hasModule  h4) (by omega) (by omega) rfl (Nat.le_of_ble_eq_true rfl) dX2_addUsed_10 13 rfl [.int q5.1] rfl ?_
    refine fm_if_ne C 18 dX2_addUsed_13 (by decide) (fun c6 => ?_) 16 rfl (fun c6 => ?_)
    · rw [if_neg c6] at hf
      refine fm_aload_n C dX2_addUsed_18 rfl 0 rfl 19 rfl ?_
      refine fm_get C (t := 1) (by decide) (shC_1 _) rfl inG_X2 3 (by decide) F_X2_20 rfl dX2_addUsed_19 22 rfl ?_
      refine fm_iload_n C dX2_addUsed_22 rfl 1 rfl 23 rfl ?_
      by_cases b7 : x1 < 0 ∨ 12 ≤ x1.toNatClampNeg
      · rw [if_pos b7] at hf; cases hf
      rw [if_neg b7] at hf
      refine fm_iald C (t := 16) (t0 := 0) (by decide) (shC_16 _) rfl b7 dX2_addUsed_23 24 rfl ?_
      refine fm_bipush C (x := 6) dX2_addUsed_24 (by decide) 26 rfl ?_
      refine fm_icmp_lt C 32 dX2_addUsed_26 (by decide) (fun c8 => ?_) 29 rfl (fun c8 => ?_)
      · rw [if_pos c8] at hf
        refine fm_aload_n C dX2_addUsed_32 rfl 0 rfl 33 rfl ?_
        refine fm_get C (t := 1) (by decide) (shC_1 _) rfl inG_X2 4 (by decide) F_X2_23 rfl dX2_addUsed_33 36 rfl ?_
        refine fm_iload_n C dX2_addUsed_36 rfl 1 rfl 37 rfl ?_
        refine fm_aald C (t := 17) (t0 := 1) (by decide) (shC_17 _) rfl rfl b7 (x := b + (18 + x1.toNatClampNeg)) (in_some (g := fun i => b + (18 + i)) b7) dX2_addUsed_37 38 rfl ?_
        refine fm_aload_n C dX2_addUsed_38 rfl 0 rfl 39 rfl ?_
        refine fm_get C (t := 1) (by decide) (shC_1 _) rfl inG_X2 3 (by decide) F_X2_20 rfl dX2_addUsed_39 42 rfl ?_
        refine fm_iload_n C dX2_addUsed_42 rfl 1 rfl 43 rfl ?_
        refine fm_iald C (t := 16) (t0 := 0) (by decide) (shC_16 _) rfl b7 dX2_addUsed_43 44 rfl ?_
        refine fm_iload_n C dX2_addUsed_44 rfl 2 rfl 45 rfl ?_
        by_cases b9 : q5.2 16 x1.toNatClampNeg < 0 ∨ 6 ≤ (q5.2 16 x1.toNatClampNeg).toNatClampNeg
        · rw [if_pos b9] at hf; cases hf
        rw [if_neg b9] at hf
        obtain ⟨m11, e10, hf⟩ := Option.bind_eq_some_iff.mp hf
        refine fm_iast C (t := 18 + x1.toNatClampNeg) (t0 := 0) (by have := in_lt b7; omega) (shC_r18 (in_lt b7)) rfl b9 dX2_addUsed_45 46 rfl m11 (Option.some.inj e10) ?_
        refine fm_aload_n C dX2_addUsed_46 rfl 0 rfl 47 rfl ?_
        refine fm_get C (t := 1) (by decide) (shC_1 _) rfl inG_X2 3 (by decide) F_X2_20 rfl dX2_addUsed_47 50 rfl ?_
        refine fm_iload_n C dX2_addUsed_50 rfl 1 rfl 51 rfl ?_
        refine fm_dup2 C dX2_addUsed_51 rfl rfl 52 rfl ?_
        refine fm_iald C (t := 16) (t0 := 0) (by decide) (shC_16 _) rfl b7 dX2_addUsed_52 53 rfl ?_
        refine fm_iconst C (x := 1) dX2_addUsed_53 (by decide) 54 rfl ?_
        refine fm_iadd C dX2_addUsed_54 55 rfl ?_
        obtain ⟨m13, e12, hf⟩ := Option.bind_eq_some_iff.mp hf
        refine fm_iast C (t := 16) (t0 := 0) (by decide) shC_16 rfl b7 dX2_addUsed_55 56 rfl m13 (Option.some.inj e12) ?_
        refine fm_aload_n C dX2_addUsed_56 rfl 0 rfl 57 rfl ?_
        refine fm_get C (t := 1) (by decide) (shC_1 _) rfl inG_X2 3 (by decide) F_X2_20 rfl dX2_addUsed_57 60 rfl ?_
        refine fm_iload_n C dX2_addUsed_60 rfl 1 rfl 61 rfl ?_
        refine fm_iald C (t := 16) (t0 := 0) (by decide) (shC_16 _) rfl b7 dX2_addUsed_61 62 rfl ?_
        obtain rfl := Option.some.inj hf
        exact fm_iret C hr hk0 dX2_addUsed_62
      · rw [if_neg c8] at hf
        refine fm_bipush C (x := -2) dX2_addUsed_29 (by decide) 31 rfl ?_
        obtain rfl := Option.some.inj hf
        exact fm_iret C hr hk0 dX2_addUsed_31
    · rw [if_pos c6] at hf
      refine fm_iconst C (x := -1) dX2_addUsed_16 (by decide) 17 rfl ?_
      obtain rfl := Option.some.inj hf
      exact fm_iret C hr hk0 dX2_addUsed_17
def f_X2_isDeed (x1 : Int32) (x2 : Int32) (v : fm_T) : Option (Int32 × fm_T) := (if x1 = 0 then ((f_X2_mayBeConstant x2 v).bind fun q3 => (if q3.1 = 0 ∨ q3.1 = 1 then some (q3.1, q3.2) else none)) else (if x1 = 1 then ((f_X2_hasModule x2 v).bind fun q7 => (if q7.1 = 0 ∨ q7.1 = 1 then some (q7.1, q7.2) else none)) else (if x1 = 2 then some (1, v) else some (0, v))))
set_option maxHeartbeats 4000000 in
set_option maxRecDepth 20000 in
theorem c_X2_isDeed {x1 : Int32} {x2 : Int32}  {v : fm_T} {q : Int32 × fm_T} (hf : f_X2_isDeed x1 x2 v = some q) : fm_M l D (fm_tys cI cII cLd cOc) tA b 305 (shC cI cII cLd cOc b) A yX2_isDeed cX2_isDeed 3 (some .boolean) 1 [.ref (b + 1), .int x1, .int x2] v (some (.int q.1)) q.2 := by
  refine fm_entry (by decide) (Nat.le_of_ble_eq_true rfl) ?_
  intro p e R s m args below meth c C hr hk0 hF hLo
  unfold f_X2_isDeed at hf
  show fm_V p l e R s m args below meth c D b 305 (shC cI cII cLd cOc b) A _ 3 0 [(0, .ref (b + 1)), (1, .int x1), (2, .int x2)] [] v
  refine fm_iload_n C dX2_isDeed_0 rfl 1 rfl 1 rfl ?_
  by_cases w1 : x1 = 0
  · rw [if_pos w1] at hf
    refine fm_lookup C (off := 27) 28 dX2_isDeed_1 (by decide) (by rw [w1] <;> rfl) (by decide) ?_
    refine fm_aload_n C dX2_isDeed_28 rfl 0 rfl 29 rfl ?_
    refine fm_iload_n C dX2_isDeed_29 rfl 2 rfl 30 rfl ?_
    obtain ⟨q3, h2, hf⟩ := Option.bind_eq_some_iff.mp hf
    refine fm_callV C Y_X2_mayBeConstant (t := 1) (by decide) (shC_1 _) rfl LM_X2_68 (As := [.int x2]) (rest := []) (c_X2_mayBeConstant  h2) (by omega) (by omega) rfl (Nat.le_of_ble_eq_true rfl) dX2_isDeed_30 33 rfl [.int q3.1] rfl ?_
    by_cases r4 : q3.1 = 0 ∨ q3.1 = 1
    · rw [if_pos r4] at hf
      obtain rfl := Option.some.inj hf
      exact fm_zret C hr hk0 r4 dX2_isDeed_33
    · rw [if_neg r4] at hf; cases hf
  rw [if_neg w1] at hf
  by_cases w5 : x1 = 1
  · rw [if_pos w5] at hf
    refine fm_lookup C (off := 33) 34 dX2_isDeed_1 (by decide) (by rw [w5] <;> rfl) (by decide) ?_
    refine fm_aload_n C dX2_isDeed_34 rfl 0 rfl 35 rfl ?_
    refine fm_iload_n C dX2_isDeed_35 rfl 2 rfl 36 rfl ?_
    obtain ⟨q7, h6, hf⟩ := Option.bind_eq_some_iff.mp hf
    refine fm_callV C Y_X2_hasModule (t := 1) (by decide) (shC_1 _) rfl LM_X2_54 (As := [.int x2]) (rest := []) (c_X2_hasModule  h6) (by omega) (by omega) rfl (Nat.le_of_ble_eq_true rfl) dX2_isDeed_36 39 rfl [.int q7.1] rfl ?_
    by_cases r8 : q7.1 = 0 ∨ q7.1 = 1
    · rw [if_pos r8] at hf
      obtain rfl := Option.some.inj hf
      exact fm_zret C hr hk0 r8 dX2_isDeed_39
    · rw [if_neg r8] at hf; cases hf
  rw [if_neg w5] at hf
  refine fm_lookup C (off := 39) 40 dX2_isDeed_1 (by decide) (by rw [lv_osw (k := 0) w1 (by decide), lv_osw (k := 1) w5 (by decide)] <;> rfl) (by decide) ?_
  refine fm_iload_n C dX2_isDeed_40 rfl 1 rfl 41 rfl ?_
  refine fm_iconst C (x := 2) dX2_isDeed_41 (by decide) 42 rfl ?_
  refine fm_icmp_ne C 49 dX2_isDeed_42 (by decide) (fun c9 => ?_) 45 rfl (fun c9 => ?_)
  · rw [if_neg c9] at hf
    refine fm_iconst C (x := 0) dX2_isDeed_49 (by decide) 50 rfl ?_
    obtain rfl := Option.some.inj hf
    exact fm_zret C hr hk0 (Or.inl rfl) dX2_isDeed_50
  · rw [if_pos c9] at hf
    refine fm_iconst C (x := 1) dX2_isDeed_45 (by decide) 46 rfl ?_
    refine fm_goto C 50 dX2_isDeed_46 (by decide) ?_
    obtain rfl := Option.some.inj hf
    exact fm_zret C hr hk0 (Or.inr rfl) dX2_isDeed_50
def f_X2_addDeed (x1 : Int32) (x2 : Int32) (x3 : Int32) (v : fm_T) : Option (Int32 × fm_T) := ((f_X2_hasModule x1 v).bind fun q2 => (if q2.1 = 0 then some ((-1), q2.2) else ((f_X2_isDeed x2 x3 q2.2).bind fun q5 => (if q5.1 = 0 then some ((-1), q5.2) else (if x1 < 0 ∨ 12 ≤ x1.toNatClampNeg then none else (if q5.2 30 x1.toNatClampNeg < 6 then (if q5.2 30 x1.toNatClampNeg < 0 ∨ 6 ≤ (q5.2 30 x1.toNatClampNeg).toNatClampNeg then none else ((some (fm_u q5.2 (32 + x1.toNatClampNeg) ((q5.2 30 x1.toNatClampNeg).toNatClampNeg) x2) : Option fm_T).bind fun m11 => ((some (fm_u m11 (45 + x1.toNatClampNeg) ((q5.2 30 x1.toNatClampNeg).toNatClampNeg) x3) : Option fm_T).bind fun m13 => ((some (fm_u m13 30 x1.toNatClampNeg ((q5.2 30 x1.toNatClampNeg) + 1)) : Option fm_T).bind fun m15 => some ((q5.2 30 x1.toNatClampNeg) + 1, m15))))) else some ((-2), q5.2)))))))
set_option maxHeartbeats 4000000 in
set_option maxRecDepth 20000 in
theorem c_X2_addDeed {x1 : Int32} {x2 : Int32} {x3 : Int32}  {v : fm_T} {q : Int32 × fm_T} (hf : f_X2_addDeed x1 x2 x3 v = some q) : fm_M l D (fm_tys cI cII cLd cOc) tA b 305 (shC cI cII cLd cOc b) A yX2_addDeed cX2_addDeed 5 (some .int) 2 [.ref (b + 1), .int x1, .int x2, .int x3] v (some (.int q.1)) q.2 := by
  refine fm_entry (by decide) (Nat.le_of_ble_eq_true rfl) ?_
  intro p e R s m args below meth c C hr hk0 hF hLo
  unfold f_X2_addDeed at hf
  show fm_V p l e R s m args below meth c D b 305 (shC cI cII cLd cOc b) A _ 5 0 [(0, .ref (b + 1)), (1, .int x1), (2, .int x2), (3, .int x3)] [] v
  refine fm_aload_n C dX2_addDeed_0 rfl 0 rfl 1 rfl ?_
  refine fm_iload_n C dX2_addDeed_1 rfl 1 rfl 2 rfl ?_
  obtain ⟨q2, h1, hf⟩ := Option.bind_eq_some_iff.mp hf
  refine fm_callV C Y_X2_hasModule (t := 1) (by decide) (shC_1 _) rfl LM_X2_54 (As := [.int x1]) (rest := []) (c_X2_hasModule  h1) (by omega) (by omega) rfl (Nat.le_of_ble_eq_true rfl) dX2_addDeed_2 5 rfl [.int q2.1] rfl ?_
  refine fm_if_eq C 17 dX2_addDeed_5 (by decide) (fun c3 => ?_) 8 rfl (fun c3 => ?_)
  · rw [if_pos c3] at hf
    refine fm_iconst C (x := -1) dX2_addDeed_17 (by decide) 18 rfl ?_
    obtain rfl := Option.some.inj hf
    exact fm_iret C hr hk0 dX2_addDeed_18
  · rw [if_neg c3] at hf
    refine fm_aload_n C dX2_addDeed_8 rfl 0 rfl 9 rfl ?_
    refine fm_iload_n C dX2_addDeed_9 rfl 2 rfl 10 rfl ?_
    refine fm_iload_n C dX2_addDeed_10 rfl 3 rfl 11 rfl ?_
    obtain ⟨q5, h4, hf⟩ := Option.bind_eq_some_iff.mp hf
    refine fm_callV C Y_X2_isDeed (t := 1) (by decide) (shC_1 _) rfl LM_X2_65 (As := [.int x2, .int x3]) (rest := []) (c_X2_isDeed  h4) (by omega) (by omega) rfl (Nat.le_of_ble_eq_true rfl) dX2_addDeed_11 14 rfl [.int q5.1] rfl ?_
    refine fm_if_ne C 19 dX2_addDeed_14 (by decide) (fun c6 => ?_) 17 rfl (fun c6 => ?_)
    · rw [if_neg c6] at hf
      refine fm_aload_n C dX2_addDeed_19 rfl 0 rfl 20 rfl ?_
      refine fm_get C (t := 1) (by decide) (shC_1 _) rfl inG_X2 5 (by decide) F_X2_26 rfl dX2_addDeed_20 23 rfl ?_
      refine fm_iload_n C dX2_addDeed_23 rfl 1 rfl 24 rfl ?_
      by_cases b7 : x1 < 0 ∨ 12 ≤ x1.toNatClampNeg
      · rw [if_pos b7] at hf; cases hf
      rw [if_neg b7] at hf
      refine fm_iald C (t := 30) (t0 := 0) (by decide) (shC_30 _) rfl b7 dX2_addDeed_24 25 rfl ?_
      refine fm_istore C [(4, .int (q5.2 30 x1.toNatClampNeg)), (0, .ref (b + 1)), (1, .int x1), (2, .int x2), (3, .int x3)] dX2_addDeed_25 (by decide) rfl 27 rfl ?_
      refine fm_iload C dX2_addDeed_27 0 rfl 29 rfl ?_
      refine fm_bipush C (x := 6) dX2_addDeed_29 (by decide) 31 rfl ?_
      refine fm_icmp_lt C 37 dX2_addDeed_31 (by decide) (fun c8 => ?_) 34 rfl (fun c8 => ?_)
      · rw [if_pos c8] at hf
        refine fm_aload_n C dX2_addDeed_37 rfl 1 rfl 38 rfl ?_
        refine fm_get C (t := 1) (by decide) (shC_1 _) rfl inG_X2 6 (by decide) F_X2_29 rfl dX2_addDeed_38 41 rfl ?_
        refine fm_iload_n C dX2_addDeed_41 rfl 2 rfl 42 rfl ?_
        refine fm_aald C (t := 31) (t0 := 1) (by decide) (shC_31 _) rfl rfl b7 (x := b + (32 + x1.toNatClampNeg)) (in_some (g := fun i => b + (32 + i)) b7) dX2_addDeed_42 43 rfl ?_
        refine fm_iload C dX2_addDeed_43 0 rfl 45 rfl ?_
        refine fm_iload_n C dX2_addDeed_45 rfl 3 rfl 46 rfl ?_
        by_cases b9 : q5.2 30 x1.toNatClampNeg < 0 ∨ 6 ≤ (q5.2 30 x1.toNatClampNeg).toNatClampNeg
        · rw [if_pos b9] at hf; cases hf
        rw [if_neg b9] at hf
        obtain ⟨m11, e10, hf⟩ := Option.bind_eq_some_iff.mp hf
        refine fm_iast C (t := 32 + x1.toNatClampNeg) (t0 := 0) (by have := in_lt b7; omega) (shC_r32 (in_lt b7)) rfl b9 dX2_addDeed_46 47 rfl m11 (Option.some.inj e10) ?_
        refine fm_aload_n C dX2_addDeed_47 rfl 1 rfl 48 rfl ?_
        refine fm_get C (t := 1) (by decide) (shC_1 _) rfl inG_X2 7 (by decide) F_X2_32 rfl dX2_addDeed_48 51 rfl ?_
        refine fm_iload_n C dX2_addDeed_51 rfl 2 rfl 52 rfl ?_
        refine fm_aald C (t := 44) (t0 := 1) (by decide) (shC_44 _) rfl rfl b7 (x := b + (45 + x1.toNatClampNeg)) (in_some (g := fun i => b + (45 + i)) b7) dX2_addDeed_52 53 rfl ?_
        refine fm_iload C dX2_addDeed_53 0 rfl 55 rfl ?_
        refine fm_iload_n C dX2_addDeed_55 rfl 4 rfl 56 rfl ?_
        obtain ⟨m13, e12, hf⟩ := Option.bind_eq_some_iff.mp hf
        refine fm_iast C (t := 45 + x1.toNatClampNeg) (t0 := 0) (by have := in_lt b7; omega) (shC_r45 (in_lt b7)) rfl b9 dX2_addDeed_56 57 rfl m13 (Option.some.inj e12) ?_
        refine fm_aload_n C dX2_addDeed_57 rfl 1 rfl 58 rfl ?_
        refine fm_get C (t := 1) (by decide) (shC_1 _) rfl inG_X2 5 (by decide) F_X2_26 rfl dX2_addDeed_58 61 rfl ?_
        refine fm_iload_n C dX2_addDeed_61 rfl 2 rfl 62 rfl ?_
        refine fm_iload C dX2_addDeed_62 0 rfl 64 rfl ?_
        refine fm_iconst C (x := 1) dX2_addDeed_64 (by decide) 65 rfl ?_
        refine fm_iadd C dX2_addDeed_65 66 rfl ?_
        obtain ⟨m15, e14, hf⟩ := Option.bind_eq_some_iff.mp hf
        refine fm_iast C (t := 30) (t0 := 0) (by decide) shC_30 rfl b7 dX2_addDeed_66 67 rfl m15 (Option.some.inj e14) ?_
        refine fm_iload C dX2_addDeed_67 0 rfl 69 rfl ?_
        refine fm_iconst C (x := 1) dX2_addDeed_69 (by decide) 70 rfl ?_
        refine fm_iadd C dX2_addDeed_70 71 rfl ?_
        obtain rfl := Option.some.inj hf
        exact fm_iret C hr hk0 dX2_addDeed_71
      · rw [if_neg c8] at hf
        refine fm_bipush C (x := -2) dX2_addDeed_34 (by decide) 36 rfl ?_
        obtain rfl := Option.some.inj hf
        exact fm_iret C hr hk0 dX2_addDeed_36
    · rw [if_pos c6] at hf
      refine fm_iconst C (x := -1) dX2_addDeed_17 (by decide) 18 rfl ?_
      obtain rfl := Option.some.inj hf
      exact fm_iret C hr hk0 dX2_addDeed_18
def f_X2_isFormula (x1 : Int32) (x2 : Int32) (x3 : Int32) (x4 : Int32) (v : fm_T) : Option (Int32 × fm_T) := (if x1 < 0 then some (0, v) else (if x1 < 12 then (if x1 = 8 then ((f_X2_hasModule x2 v).bind fun q5 => (if q5.1 = 0 ∨ q5.1 = 1 then some (q5.1, q5.2) else none)) else (if x1 = 9 then ((f_X2_hasModule x2 v).bind fun q9 => (if q9.1 = 0 ∨ q9.1 = 1 then some (q9.1, q9.2) else none)) else (if x1 = 10 then ((f_X2_hasModule x2 v).bind fun q42 => (if q42.1 = 0 ∨ q42.1 = 1 then some (q42.1, q42.2) else none)) else (if x1 < 0 ∨ 12 ≤ x1.toNatClampNeg then none else (if ([0, 1, 2, 2, 1, 1, 0, 3, 0, 0, 0, 1] : List Int32).getD x1.toNatClampNeg 0 < 1 then (if ([0, 1, 2, 2, 1, 1, 0, 3, 0, 0, 0, 1] : List Int32).getD x1.toNatClampNeg 0 < 2 then (if ([0, 1, 2, 2, 1, 1, 0, 3, 0, 0, 0, 1] : List Int32).getD x1.toNatClampNeg 0 < 3 then some (1, v) else ((f_X2_mayBeConstant x4 v).bind fun q17 => (if q17.1 = 0 then some (0, q17.2) else some (1, q17.2)))) else ((f_X2_mayBeConstant x3 v).bind fun q20 => (if q20.1 = 0 then some (0, q20.2) else (if ([0, 1, 2, 2, 1, 1, 0, 3, 0, 0, 0, 1] : List Int32).getD x1.toNatClampNeg 0 < 3 then some (1, q20.2) else ((f_X2_mayBeConstant x4 q20.2).bind fun q24 => (if q24.1 = 0 then some (0, q24.2) else some (1, q24.2))))))) else ((f_X2_mayBeConstant x2 v).bind fun q27 => (if q27.1 = 0 then some (0, q27.2) else (if ([0, 1, 2, 2, 1, 1, 0, 3, 0, 0, 0, 1] : List Int32).getD x1.toNatClampNeg 0 < 2 then (if ([0, 1, 2, 2, 1, 1, 0, 3, 0, 0, 0, 1] : List Int32).getD x1.toNatClampNeg 0 < 3 then some (1, q27.2) else ((f_X2_mayBeConstant x4 q27.2).bind fun q32 => (if q32.1 = 0 then some (0, q32.2) else some (1, q32.2)))) else ((f_X2_mayBeConstant x3 q27.2).bind fun q35 => (if q35.1 = 0 then some (0, q35.2) else (if ([0, 1, 2, 2, 1, 1, 0, 3, 0, 0, 0, 1] : List Int32).getD x1.toNatClampNeg 0 < 3 then some (1, q35.2) else ((f_X2_mayBeConstant x4 q35.2).bind fun q39 => (if q39.1 = 0 then some (0, q39.2) else some (1, q39.2)))))))))))))) else some (0, v)))
set_option maxHeartbeats 4000000 in
set_option maxRecDepth 20000 in
theorem c_X2_isFormula {x1 : Int32} {x2 : Int32} {x3 : Int32} {x4 : Int32}  {v : fm_T} {q : Int32 × fm_T} (hf : f_X2_isFormula x1 x2 x3 x4 v = some q) : fm_M l D (fm_tys cI cII cLd cOc) tA b 305 (shC cI cII cLd cOc b) A yX2_isFormula cX2_isFormula 6 (some .boolean) 1 [.ref (b + 1), .int x1, .int x2, .int x3, .int x4] v (some (.int q.1)) q.2 := by
  refine fm_entry (by decide) (Nat.le_of_ble_eq_true rfl) ?_
  intro p e R s m args below meth c C hr hk0 hF hLo
  unfold f_X2_isFormula at hf
  show fm_V p l e R s m args below meth c D b 305 (shC cI cII cLd cOc b) A _ 6 0 [(0, .ref (b + 1)), (1, .int x1), (2, .int x2), (3, .int x3), (4, .int x4)] [] v
  refine fm_iload_n C dX2_isFormula_0 rfl 1 rfl 1 rfl ?_
  refine fm_if_lt C 12 dX2_isFormula_1 (by decide) (fun c1 => ?_) 4 rfl (fun c1 => ?_)
  · rw [if_pos c1] at hf
    refine fm_iconst C (x := 0) dX2_isFormula_12 (by decide) 13 rfl ?_
    obtain rfl := Option.some.inj hf
    exact fm_zret C hr hk0 (Or.inl rfl) dX2_isFormula_13
  · rw [if_neg c1] at hf
    refine fm_iload_n C dX2_isFormula_4 rfl 1 rfl 5 rfl ?_
    refine fm_gets C FN_X2_75 dX2_isFormula_5 8 rfl ?_
    refine fm_tlen C dX2_isFormula_8 9 rfl ?_
    refine fm_icmp_lt C 14 dX2_isFormula_9 (by decide) (fun c2 => ?_) 12 rfl (fun c2 => ?_)
    · rw [if_pos c2] at hf
      refine fm_iload_n C dX2_isFormula_14 rfl 1 rfl 15 rfl ?_
      refine fm_bipush C (x := 8) dX2_isFormula_15 (by decide) 17 rfl ?_
      refine fm_icmp_eq C 32 dX2_isFormula_17 (by decide) (fun c3 => ?_) 20 rfl (fun c3 => ?_)
      · rw [if_pos c3] at hf
        refine fm_aload_n C dX2_isFormula_32 rfl 0 rfl 33 rfl ?_
        refine fm_iload_n C dX2_isFormula_33 rfl 2 rfl 34 rfl ?_
        obtain ⟨q5, h4, hf⟩ := Option.bind_eq_some_iff.mp hf
        refine fm_callV C Y_X2_hasModule (t := 1) (by decide) (shC_1 _) rfl LM_X2_54 (As := [.int x2]) (rest := []) (c_X2_hasModule  h4) (by omega) (by omega) rfl (Nat.le_of_ble_eq_true rfl) dX2_isFormula_34 37 rfl [.int q5.1] rfl ?_
        by_cases r6 : q5.1 = 0 ∨ q5.1 = 1
        · rw [if_pos r6] at hf
          obtain rfl := Option.some.inj hf
          exact fm_zret C hr hk0 r6 dX2_isFormula_37
        · rw [if_neg r6] at hf; cases hf
      · rw [if_neg c3] at hf
        refine fm_iload_n C dX2_isFormula_20 rfl 1 rfl 21 rfl ?_
        refine fm_bipush C (x := 9) dX2_isFormula_21 (by decide) 23 rfl ?_
        refine fm_icmp_eq C 32 dX2_isFormula_23 (by decide) (fun c7 => ?_) 26 rfl (fun c7 => ?_)
        · rw [if_pos c7] at hf
          refine fm_aload_n C dX2_isFormula_32 rfl 0 rfl 33 rfl ?_
          refine fm_iload_n C dX2_isFormula_33 rfl 2 rfl 34 rfl ?_
          obtain ⟨q9, h8, hf⟩ := Option.bind_eq_some_iff.mp hf
          refine fm_callV C Y_X2_hasModule (t := 1) (by decide) (shC_1 _) rfl LM_X2_54 (As := [.int x2]) (rest := []) (c_X2_hasModule  h8) (by omega) (by omega) rfl (Nat.le_of_ble_eq_true rfl) dX2_isFormula_34 37 rfl [.int q9.1] rfl ?_
          by_cases r10 : q9.1 = 0 ∨ q9.1 = 1
          · rw [if_pos r10] at hf
            obtain rfl := Option.some.inj hf
            exact fm_zret C hr hk0 r10 dX2_isFormula_37
          · rw [if_neg r10] at hf; cases hf
        · rw [if_neg c7] at hf
          refine fm_iload_n C dX2_isFormula_26 rfl 1 rfl 27 rfl ?_
          refine fm_bipush C (x := 10) dX2_isFormula_27 (by decide) 29 rfl ?_
          refine fm_icmp_ne C 38 dX2_isFormula_29 (by decide) (fun c11 => ?_) 32 rfl (fun c11 => ?_)
          · rw [if_neg c11] at hf
            refine fm_gets C FN_X2_75 dX2_isFormula_38 41 rfl ?_
            refine fm_iload_n C dX2_isFormula_41 rfl 1 rfl 42 rfl ?_
            by_cases b12 : x1 < 0 ∨ 12 ≤ x1.toNatClampNeg
            · rw [if_pos b12] at hf; cases hf
            rw [if_neg b12] at hf
            refine fm_ti C b12 dX2_isFormula_42 43 rfl ?_
            refine fm_istore C [(5, .int (([0, 1, 2, 2, 1, 1, 0, 3, 0, 0, 0, 1] : List Int32).getD x1.toNatClampNeg 0)), (0, .ref (b + 1)), (1, .int x1), (2, .int x2), (3, .int x3), (4, .int x4)] dX2_isFormula_43 (by decide) rfl 45 rfl ?_
            refine fm_iload C dX2_isFormula_45 0 rfl 47 rfl ?_
            refine fm_iconst C (x := 1) dX2_isFormula_47 (by decide) 48 rfl ?_
            refine fm_icmp_lt C 59 dX2_isFormula_48 (by decide) (fun c13 => ?_) 51 rfl (fun c13 => ?_)
            · rw [if_pos c13] at hf
              refine fm_iload C dX2_isFormula_59 0 rfl 61 rfl ?_
              refine fm_iconst C (x := 2) dX2_isFormula_61 (by decide) 62 rfl ?_
              refine fm_icmp_lt C 73 dX2_isFormula_62 (by decide) (fun c14 => ?_) 65 rfl (fun c14 => ?_)
              · rw [if_pos c14] at hf
                refine fm_iload C dX2_isFormula_73 0 rfl 75 rfl ?_
                refine fm_iconst C (x := 3) dX2_isFormula_75 (by decide) 76 rfl ?_
                refine fm_icmp_lt C 88 dX2_isFormula_76 (by decide) (fun c15 => ?_) 79 rfl (fun c15 => ?_)
                · rw [if_pos c15] at hf
                  refine fm_iconst C (x := 1) dX2_isFormula_88 (by decide) 89 rfl ?_
                  refine fm_goto C 93 dX2_isFormula_89 (by decide) ?_
                  obtain rfl := Option.some.inj hf
                  exact fm_zret C hr hk0 (Or.inr rfl) dX2_isFormula_93
                · rw [if_neg c15] at hf
                  refine fm_aload_n C dX2_isFormula_79 rfl 1 rfl 80 rfl ?_
                  refine fm_iload C dX2_isFormula_80 5 rfl 82 rfl ?_
                  obtain ⟨q17, h16, hf⟩ := Option.bind_eq_some_iff.mp hf
                  refine fm_callV C Y_X2_mayBeConstant (t := 1) (by decide) (shC_1 _) rfl LM_X2_68 (As := [.int x4]) (rest := []) (c_X2_mayBeConstant  h16) (by omega) (by omega) rfl (Nat.le_of_ble_eq_true rfl) dX2_isFormula_82 85 rfl [.int q17.1] rfl ?_
                  refine fm_if_eq C 92 dX2_isFormula_85 (by decide) (fun c18 => ?_) 88 rfl (fun c18 => ?_)
                  · rw [if_pos c18] at hf
                    refine fm_iconst C (x := 0) dX2_isFormula_92 (by decide) 93 rfl ?_
                    obtain rfl := Option.some.inj hf
                    exact fm_zret C hr hk0 (Or.inl rfl) dX2_isFormula_93
                  · rw [if_neg c18] at hf
                    refine fm_iconst C (x := 1) dX2_isFormula_88 (by decide) 89 rfl ?_
                    refine fm_goto C 93 dX2_isFormula_89 (by decide) ?_
                    obtain rfl := Option.some.inj hf
                    exact fm_zret C hr hk0 (Or.inr rfl) dX2_isFormula_93
              · rw [if_neg c14] at hf
                refine fm_aload_n C dX2_isFormula_65 rfl 1 rfl 66 rfl ?_
                refine fm_iload_n C dX2_isFormula_66 rfl 4 rfl 67 rfl ?_
                obtain ⟨q20, h19, hf⟩ := Option.bind_eq_some_iff.mp hf
                refine fm_callV C Y_X2_mayBeConstant (t := 1) (by decide) (shC_1 _) rfl LM_X2_68 (As := [.int x3]) (rest := []) (c_X2_mayBeConstant  h19) (by omega) (by omega) rfl (Nat.le_of_ble_eq_true rfl) dX2_isFormula_67 70 rfl [.int q20.1] rfl ?_
                refine fm_if_eq C 92 dX2_isFormula_70 (by decide) (fun c21 => ?_) 73 rfl (fun c21 => ?_)
                · rw [if_pos c21] at hf
                  refine fm_iconst C (x := 0) dX2_isFormula_92 (by decide) 93 rfl ?_
                  obtain rfl := Option.some.inj hf
                  exact fm_zret C hr hk0 (Or.inl rfl) dX2_isFormula_93
                · rw [if_neg c21] at hf
                  refine fm_iload C dX2_isFormula_73 0 rfl 75 rfl ?_
                  refine fm_iconst C (x := 3) dX2_isFormula_75 (by decide) 76 rfl ?_
                  refine fm_icmp_lt C 88 dX2_isFormula_76 (by decide) (fun c22 => ?_) 79 rfl (fun c22 => ?_)
                  · rw [if_pos c22] at hf
                    refine fm_iconst C (x := 1) dX2_isFormula_88 (by decide) 89 rfl ?_
                    refine fm_goto C 93 dX2_isFormula_89 (by decide) ?_
                    obtain rfl := Option.some.inj hf
                    exact fm_zret C hr hk0 (Or.inr rfl) dX2_isFormula_93
                  · rw [if_neg c22] at hf
                    refine fm_aload_n C dX2_isFormula_79 rfl 1 rfl 80 rfl ?_
                    refine fm_iload C dX2_isFormula_80 5 rfl 82 rfl ?_
                    obtain ⟨q24, h23, hf⟩ := Option.bind_eq_some_iff.mp hf
                    refine fm_callV C Y_X2_mayBeConstant (t := 1) (by decide) (shC_1 _) rfl LM_X2_68 (As := [.int x4]) (rest := []) (c_X2_mayBeConstant  h23) (by omega) (by omega) rfl (Nat.le_of_ble_eq_true rfl) dX2_isFormula_82 85 rfl [.int q24.1] rfl ?_
                    refine fm_if_eq C 92 dX2_isFormula_85 (by decide) (fun c25 => ?_) 88 rfl (fun c25 => ?_)
                    · rw [if_pos c25] at hf
                      refine fm_iconst C (x := 0) dX2_isFormula_92 (by decide) 93 rfl ?_
                      obtain rfl := Option.some.inj hf
                      exact fm_zret C hr hk0 (Or.inl rfl) dX2_isFormula_93
                    · rw [if_neg c25] at hf
                      refine fm_iconst C (x := 1) dX2_isFormula_88 (by decide) 89 rfl ?_
                      refine fm_goto C 93 dX2_isFormula_89 (by decide) ?_
                      obtain rfl := Option.some.inj hf
                      exact fm_zret C hr hk0 (Or.inr rfl) dX2_isFormula_93
            · rw [if_neg c13] at hf
              refine fm_aload_n C dX2_isFormula_51 rfl 1 rfl 52 rfl ?_
              refine fm_iload_n C dX2_isFormula_52 rfl 3 rfl 53 rfl ?_
              obtain ⟨q27, h26, hf⟩ := Option.bind_eq_some_iff.mp hf
              refine fm_callV C Y_X2_mayBeConstant (t := 1) (by decide) (shC_1 _) rfl LM_X2_68 (As := [.int x2]) (rest := []) (c_X2_mayBeConstant  h26) (by omega) (by omega) rfl (Nat.le_of_ble_eq_true rfl) dX2_isFormula_53 56 rfl [.int q27.1] rfl ?_
              refine fm_if_eq C 92 dX2_isFormula_56 (by decide) (fun c28 => ?_) 59 rfl (fun c28 => ?_)
              · rw [if_pos c28] at hf
                refine fm_iconst C (x := 0) dX2_isFormula_92 (by decide) 93 rfl ?_
                obtain rfl := Option.some.inj hf
                exact fm_zret C hr hk0 (Or.inl rfl) dX2_isFormula_93
              · rw [if_neg c28] at hf
                refine fm_iload C dX2_isFormula_59 0 rfl 61 rfl ?_
                refine fm_iconst C (x := 2) dX2_isFormula_61 (by decide) 62 rfl ?_
                refine fm_icmp_lt C 73 dX2_isFormula_62 (by decide) (fun c29 => ?_) 65 rfl (fun c29 => ?_)
                · rw [if_pos c29] at hf
                  refine fm_iload C dX2_isFormula_73 0 rfl 75 rfl ?_
                  refine fm_iconst C (x := 3) dX2_isFormula_75 (by decide) 76 rfl ?_
                  refine fm_icmp_lt C 88 dX2_isFormula_76 (by decide) (fun c30 => ?_) 79 rfl (fun c30 => ?_)
                  · rw [if_pos c30] at hf
                    refine fm_iconst C (x := 1) dX2_isFormula_88 (by decide) 89 rfl ?_
                    refine fm_goto C 93 dX2_isFormula_89 (by decide) ?_
                    obtain rfl := Option.some.inj hf
                    exact fm_zret C hr hk0 (Or.inr rfl) dX2_isFormula_93
                  · rw [if_neg c30] at hf
                    refine fm_aload_n C dX2_isFormula_79 rfl 1 rfl 80 rfl ?_
                    refine fm_iload C dX2_isFormula_80 5 rfl 82 rfl ?_
                    obtain ⟨q32, h31, hf⟩ := Option.bind_eq_some_iff.mp hf
                    refine fm_callV C Y_X2_mayBeConstant (t := 1) (by decide) (shC_1 _) rfl LM_X2_68 (As := [.int x4]) (rest := []) (c_X2_mayBeConstant  h31) (by omega) (by omega) rfl (Nat.le_of_ble_eq_true rfl) dX2_isFormula_82 85 rfl [.int q32.1] rfl ?_
                    refine fm_if_eq C 92 dX2_isFormula_85 (by decide) (fun c33 => ?_) 88 rfl (fun c33 => ?_)
                    · rw [if_pos c33] at hf
                      refine fm_iconst C (x := 0) dX2_isFormula_92 (by decide) 93 rfl ?_
                      obtain rfl := Option.some.inj hf
                      exact fm_zret C hr hk0 (Or.inl rfl) dX2_isFormula_93
                    · rw [if_neg c33] at hf
                      refine fm_iconst C (x := 1) dX2_isFormula_88 (by decide) 89 rfl ?_
                      refine fm_goto C 93 dX2_isFormula_89 (by decide) ?_
                      obtain rfl := Option.some.inj hf
                      exact fm_zret C hr hk0 (Or.inr rfl) dX2_isFormula_93
                · rw [if_neg c29] at hf
                  refine fm_aload_n C dX2_isFormula_65 rfl 1 rfl 66 rfl ?_
                  refine fm_iload_n C dX2_isFormula_66 rfl 4 rfl 67 rfl ?_
                  obtain ⟨q35, h34, hf⟩ := Option.bind_eq_some_iff.mp hf
                  refine fm_callV C Y_X2_mayBeConstant (t := 1) (by decide) (shC_1 _) rfl LM_X2_68 (As := [.int x3]) (rest := []) (c_X2_mayBeConstant  h34) (by omega) (by omega) rfl (Nat.le_of_ble_eq_true rfl) dX2_isFormula_67 70 rfl [.int q35.1] rfl ?_
                  refine fm_if_eq C 92 dX2_isFormula_70 (by decide) (fun c36 => ?_) 73 rfl (fun c36 => ?_)
                  · rw [if_pos c36] at hf
                    refine fm_iconst C (x := 0) dX2_isFormula_92 (by decide) 93 rfl ?_
                    obtain rfl := Option.some.inj hf
                    exact fm_zret C hr hk0 (Or.inl rfl) dX2_isFormula_93
                  · rw [if_neg c36] at hf
                    refine fm_iload C dX2_isFormula_73 0 rfl 75 rfl ?_
                    refine fm_iconst C (x := 3) dX2_isFormula_75 (by decide) 76 rfl ?_
                    refine fm_icmp_lt C 88 dX2_isFormula_76 (by decide) (fun c37 => ?_) 79 rfl (fun c37 => ?_)
                    · rw [if_pos c37] at hf
                      refine fm_iconst C (x := 1) dX2_isFormula_88 (by decide) 89 rfl ?_
                      refine fm_goto C 93 dX2_isFormula_89 (by decide) ?_
                      obtain rfl := Option.some.inj hf
                      exact fm_zret C hr hk0 (Or.inr rfl) dX2_isFormula_93
                    · rw [if_neg c37] at hf
                      refine fm_aload_n C dX2_isFormula_79 rfl 1 rfl 80 rfl ?_
                      refine fm_iload C dX2_isFormula_80 5 rfl 82 rfl ?_
                      obtain ⟨q39, h38, hf⟩ := Option.bind_eq_some_iff.mp hf
                      refine fm_callV C Y_X2_mayBeConstant (t := 1) (by decide) (shC_1 _) rfl LM_X2_68 (As := [.int x4]) (rest := []) (c_X2_mayBeConstant  h38) (by omega) (by omega) rfl (Nat.le_of_ble_eq_true rfl) dX2_isFormula_82 85 rfl [.int q39.1] rfl ?_
                      refine fm_if_eq C 92 dX2_isFormula_85 (by decide) (fun c40 => ?_) 88 rfl (fun c40 => ?_)
                      · rw [if_pos c40] at hf
                        refine fm_iconst C (x := 0) dX2_isFormula_92 (by decide) 93 rfl ?_
                        obtain rfl := Option.some.inj hf
                        exact fm_zret C hr hk0 (Or.inl rfl) dX2_isFormula_93
                      · rw [if_neg c40] at hf
                        refine fm_iconst C (x := 1) dX2_isFormula_88 (by decide) 89 rfl ?_
                        refine fm_goto C 93 dX2_isFormula_89 (by decide) ?_
                        obtain rfl := Option.some.inj hf
                        exact fm_zret C hr hk0 (Or.inr rfl) dX2_isFormula_93
          · rw [if_pos c11] at hf
            refine fm_aload_n C dX2_isFormula_32 rfl 0 rfl 33 rfl ?_
            refine fm_iload_n C dX2_isFormula_33 rfl 2 rfl 34 rfl ?_
            obtain ⟨q42, h41, hf⟩ := Option.bind_eq_some_iff.mp hf
            refine fm_callV C Y_X2_hasModule (t := 1) (by decide) (shC_1 _) rfl LM_X2_54 (As := [.int x2]) (rest := []) (c_X2_hasModule  h41) (by omega) (by omega) rfl (Nat.le_of_ble_eq_true rfl) dX2_isFormula_34 37 rfl [.int q42.1] rfl ?_
            by_cases r43 : q42.1 = 0 ∨ q42.1 = 1
            · rw [if_pos r43] at hf
              obtain rfl := Option.some.inj hf
              exact fm_zret C hr hk0 r43 dX2_isFormula_37
            · rw [if_neg r43] at hf; cases hf
    · rw [if_neg c2] at hf
      refine fm_iconst C (x := 0) dX2_isFormula_12 (by decide) 13 rfl ?_
      obtain rfl := Option.some.inj hf
      exact fm_zret C hr hk0 (Or.inl rfl) dX2_isFormula_13
def f_X2_addConstant (x1 : Int32) (x2 : Int32) (x3 : Int32) (x4 : Int32) (x5 : Int32) (v : fm_T) : Option (Int32 × fm_T) := ((f_X2_hasModule x1 v).bind fun q2 => (if q2.1 = 0 then some ((-1), q2.2) else ((f_X2_isFormula x2 x3 x4 x5 q2.2).bind fun q5 => (if q5.1 = 0 then some ((-1), q5.2) else (if q5.2 1 8 < 40 then (if q5.2 1 8 < 0 ∨ 40 ≤ (q5.2 1 8).toNatClampNeg then none else ((some (fm_u q5.2 57 ((q5.2 1 8).toNatClampNeg) x1) : Option fm_T).bind fun m10 => (if m10 1 8 < 0 ∨ 40 ≤ (m10 1 8).toNatClampNeg then none else ((some (fm_u m10 58 ((m10 1 8).toNatClampNeg) x2) : Option fm_T).bind fun m13 => (if m13 1 8 < 0 ∨ 40 ≤ (m13 1 8).toNatClampNeg then none else ((some (fm_u m13 59 ((m13 1 8).toNatClampNeg) x3) : Option fm_T).bind fun m16 => (if m16 1 8 < 0 ∨ 40 ≤ (m16 1 8).toNatClampNeg then none else ((some (fm_u m16 60 ((m16 1 8).toNatClampNeg) x4) : Option fm_T).bind fun m19 => (if m19 1 8 < 0 ∨ 40 ≤ (m19 1 8).toNatClampNeg then none else ((some (fm_u m19 61 ((m19 1 8).toNatClampNeg) x5) : Option fm_T).bind fun m22 => ((some (fm_u m22 1 8 ((m22 1 8) + 1)) : Option fm_T).bind fun m24 => some (m22 1 8, m24)))))))))))) else some ((-2), q5.2))))))
set_option maxHeartbeats 4000000 in
set_option maxRecDepth 20000 in
theorem c_X2_addConstant {x1 : Int32} {x2 : Int32} {x3 : Int32} {x4 : Int32} {x5 : Int32}  {v : fm_T} {q : Int32 × fm_T} (hf : f_X2_addConstant x1 x2 x3 x4 x5 v = some q) : fm_M l D (fm_tys cI cII cLd cOc) tA b 305 (shC cI cII cLd cOc b) A yX2_addConstant cX2_addConstant 6 (some .int) 2 [.ref (b + 1), .int x1, .int x2, .int x3, .int x4, .int x5] v (some (.int q.1)) q.2 := by
  refine fm_entry (by decide) (Nat.le_of_ble_eq_true rfl) ?_
  intro p e R s m args below meth c C hr hk0 hF hLo
  unfold f_X2_addConstant at hf
  show fm_V p l e R s m args below meth c D b 305 (shC cI cII cLd cOc b) A _ 6 0 [(0, .ref (b + 1)), (1, .int x1), (2, .int x2), (3, .int x3), (4, .int x4), (5, .int x5)] [] v
  refine fm_aload_n C dX2_addConstant_0 rfl 0 rfl 1 rfl ?_
  refine fm_iload_n C dX2_addConstant_1 rfl 1 rfl 2 rfl ?_
  obtain ⟨q2, h1, hf⟩ := Option.bind_eq_some_iff.mp hf
  refine fm_callV C Y_X2_hasModule (t := 1) (by decide) (shC_1 _) rfl LM_X2_54 (As := [.int x1]) (rest := []) (c_X2_hasModule  h1) (by omega) (by omega) rfl (Nat.le_of_ble_eq_true rfl) dX2_addConstant_2 5 rfl [.int q2.1] rfl ?_
  refine fm_if_eq C 21 dX2_addConstant_5 (by decide) (fun c3 => ?_) 8 rfl (fun c3 => ?_)
  · rw [if_pos c3] at hf
    refine fm_iconst C (x := -1) dX2_addConstant_21 (by decide) 22 rfl ?_
    obtain rfl := Option.some.inj hf
    exact fm_iret C hr hk0 dX2_addConstant_22
  · rw [if_neg c3] at hf
    refine fm_aload_n C dX2_addConstant_8 rfl 0 rfl 9 rfl ?_
    refine fm_iload_n C dX2_addConstant_9 rfl 2 rfl 10 rfl ?_
    refine fm_iload_n C dX2_addConstant_10 rfl 3 rfl 11 rfl ?_
    refine fm_iload C dX2_addConstant_11 4 rfl 13 rfl ?_
    refine fm_iload C dX2_addConstant_13 5 rfl 15 rfl ?_
    obtain ⟨q5, h4, hf⟩ := Option.bind_eq_some_iff.mp hf
    refine fm_callV C Y_X2_isFormula (t := 1) (by decide) (shC_1 _) rfl LM_X2_71 (As := [.int x2, .int x3, .int x4, .int x5]) (rest := []) (c_X2_isFormula  h4) (by omega) (by omega) rfl (Nat.le_of_ble_eq_true rfl) dX2_addConstant_15 18 rfl [.int q5.1] rfl ?_
    refine fm_if_ne C 23 dX2_addConstant_18 (by decide) (fun c6 => ?_) 21 rfl (fun c6 => ?_)
    · rw [if_neg c6] at hf
      refine fm_aload_n C dX2_addConstant_23 rfl 0 rfl 24 rfl ?_
      refine fm_get C (t := 1) (by decide) (shC_1 _) rfl inG_X2 8 (by decide) F_X2_58 rfl dX2_addConstant_24 27 rfl ?_
      refine fm_bipush C (x := 40) dX2_addConstant_27 (by decide) 29 rfl ?_
      refine fm_icmp_lt C 35 dX2_addConstant_29 (by decide) (fun c7 => ?_) 32 rfl (fun c7 => ?_)
      · rw [if_pos c7] at hf
        refine fm_aload_n C dX2_addConstant_35 rfl 0 rfl 36 rfl ?_
        refine fm_get C (t := 1) (by decide) (shC_1 _) rfl inG_X2 9 (by decide) F_X2_35 rfl dX2_addConstant_36 39 rfl ?_
        refine fm_aload_n C dX2_addConstant_39 rfl 0 rfl 40 rfl ?_
        refine fm_get C (t := 1) (by decide) (shC_1 _) rfl inG_X2 8 (by decide) F_X2_58 rfl dX2_addConstant_40 43 rfl ?_
        refine fm_iload_n C dX2_addConstant_43 rfl 1 rfl 44 rfl ?_
        by_cases b8 : q5.2 1 8 < 0 ∨ 40 ≤ (q5.2 1 8).toNatClampNeg
        · rw [if_pos b8] at hf; cases hf
        rw [if_neg b8] at hf
        obtain ⟨m10, e9, hf⟩ := Option.bind_eq_some_iff.mp hf
        refine fm_iast C (t := 57) (t0 := 0) (by decide) shC_57 rfl b8 dX2_addConstant_44 45 rfl m10 (Option.some.inj e9) ?_
        refine fm_aload_n C dX2_addConstant_45 rfl 0 rfl 46 rfl ?_
        refine fm_get C (t := 1) (by decide) (shC_1 _) rfl inG_X2 10 (by decide) F_X2_38 rfl dX2_addConstant_46 49 rfl ?_
        refine fm_aload_n C dX2_addConstant_49 rfl 0 rfl 50 rfl ?_
        refine fm_get C (t := 1) (by decide) (shC_1 _) rfl inG_X2 8 (by decide) F_X2_58 rfl dX2_addConstant_50 53 rfl ?_
        refine fm_iload_n C dX2_addConstant_53 rfl 2 rfl 54 rfl ?_
        by_cases b11 : m10 1 8 < 0 ∨ 40 ≤ (m10 1 8).toNatClampNeg
        · rw [if_pos b11] at hf; cases hf
        rw [if_neg b11] at hf
        obtain ⟨m13, e12, hf⟩ := Option.bind_eq_some_iff.mp hf
        refine fm_iast C (t := 58) (t0 := 0) (by decide) shC_58 rfl b11 dX2_addConstant_54 55 rfl m13 (Option.some.inj e12) ?_
        refine fm_aload_n C dX2_addConstant_55 rfl 0 rfl 56 rfl ?_
        refine fm_get C (t := 1) (by decide) (shC_1 _) rfl inG_X2 11 (by decide) F_X2_41 rfl dX2_addConstant_56 59 rfl ?_
        refine fm_aload_n C dX2_addConstant_59 rfl 0 rfl 60 rfl ?_
        refine fm_get C (t := 1) (by decide) (shC_1 _) rfl inG_X2 8 (by decide) F_X2_58 rfl dX2_addConstant_60 63 rfl ?_
        refine fm_iload_n C dX2_addConstant_63 rfl 3 rfl 64 rfl ?_
        by_cases b14 : m13 1 8 < 0 ∨ 40 ≤ (m13 1 8).toNatClampNeg
        · rw [if_pos b14] at hf; cases hf
        rw [if_neg b14] at hf
        obtain ⟨m16, e15, hf⟩ := Option.bind_eq_some_iff.mp hf
        refine fm_iast C (t := 59) (t0 := 0) (by decide) shC_59 rfl b14 dX2_addConstant_64 65 rfl m16 (Option.some.inj e15) ?_
        refine fm_aload_n C dX2_addConstant_65 rfl 0 rfl 66 rfl ?_
        refine fm_get C (t := 1) (by decide) (shC_1 _) rfl inG_X2 12 (by decide) F_X2_44 rfl dX2_addConstant_66 69 rfl ?_
        refine fm_aload_n C dX2_addConstant_69 rfl 0 rfl 70 rfl ?_
        refine fm_get C (t := 1) (by decide) (shC_1 _) rfl inG_X2 8 (by decide) F_X2_58 rfl dX2_addConstant_70 73 rfl ?_
        refine fm_iload C dX2_addConstant_73 4 rfl 75 rfl ?_
        by_cases b17 : m16 1 8 < 0 ∨ 40 ≤ (m16 1 8).toNatClampNeg
        · rw [if_pos b17] at hf; cases hf
        rw [if_neg b17] at hf
        obtain ⟨m19, e18, hf⟩ := Option.bind_eq_some_iff.mp hf
        refine fm_iast C (t := 60) (t0 := 0) (by decide) shC_60 rfl b17 dX2_addConstant_75 76 rfl m19 (Option.some.inj e18) ?_
        refine fm_aload_n C dX2_addConstant_76 rfl 0 rfl 77 rfl ?_
        refine fm_get C (t := 1) (by decide) (shC_1 _) rfl inG_X2 13 (by decide) F_X2_47 rfl dX2_addConstant_77 80 rfl ?_
        refine fm_aload_n C dX2_addConstant_80 rfl 0 rfl 81 rfl ?_
        refine fm_get C (t := 1) (by decide) (shC_1 _) rfl inG_X2 8 (by decide) F_X2_58 rfl dX2_addConstant_81 84 rfl ?_
        refine fm_iload C dX2_addConstant_84 5 rfl 86 rfl ?_
        by_cases b20 : m19 1 8 < 0 ∨ 40 ≤ (m19 1 8).toNatClampNeg
        · rw [if_pos b20] at hf; cases hf
        rw [if_neg b20] at hf
        obtain ⟨m22, e21, hf⟩ := Option.bind_eq_some_iff.mp hf
        refine fm_iast C (t := 61) (t0 := 0) (by decide) shC_61 rfl b20 dX2_addConstant_86 87 rfl m22 (Option.some.inj e21) ?_
        refine fm_aload_n C dX2_addConstant_87 rfl 0 rfl 88 rfl ?_
        refine fm_dup C dX2_addConstant_88 rfl 89 rfl ?_
        refine fm_get C (t := 1) (by decide) (shC_1 _) rfl inG_X2 8 (by decide) F_X2_58 rfl dX2_addConstant_89 92 rfl ?_
        refine fm_dup_x1 C dX2_addConstant_92 rfl rfl 93 rfl ?_
        refine fm_iconst C (x := 1) dX2_addConstant_93 (by decide) 94 rfl ?_
        refine fm_iadd C dX2_addConstant_94 95 rfl ?_
        obtain ⟨m24, e23, hf⟩ := Option.bind_eq_some_iff.mp hf
        refine fm_put C (t := 1) (by decide) (shC_1 _) rfl inG_X2 8 (by decide) F_X2_58 tyX2 tyX2_ok nmX2 rfl (ty := .int) (by decide +kernel) rfl rfl (Nat.le_of_ble_eq_true rfl) ((shC_1 _).trans rfl) dX2_addConstant_95 98 rfl m24 (Option.some.inj e23) ?_
        obtain rfl := Option.some.inj hf
        exact fm_iret C hr hk0 dX2_addConstant_98
      · rw [if_neg c7] at hf
        refine fm_bipush C (x := -2) dX2_addConstant_32 (by decide) 34 rfl ?_
        obtain rfl := Option.some.inj hf
        exact fm_iret C hr hk0 dX2_addConstant_34
    · rw [if_pos c6] at hf
      refine fm_iconst C (x := -1) dX2_addConstant_21 (by decide) 22 rfl ?_
      obtain rfl := Option.some.inj hf
      exact fm_iret C hr hk0 dX2_addConstant_22
def f_X2_countConstants_4 : Nat → Int32 → Int32 → Int32 → fm_T → Option (Int32 × fm_T)
  | 0 => fun _ _ _ _ => none
  | n + 1 => fun x1 x2 x3 v => (if v 1 8 ≤ x3 then some (x2, v) else (if x3 < 0 ∨ 40 ≤ x3.toNatClampNeg then none else (if v 57 x3.toNatClampNeg = x1 then f_X2_countConstants_4 n x1 (x2 + 1) (x3 + 1) v else f_X2_countConstants_4 n x1 x2 (x3 + 1) v)))
theorem f_X2_countConstants_4_s (n : Nat)  (x1 : Int32) (x2 : Int32) (x3 : Int32) (v : fm_T) : f_X2_countConstants_4 (n + 1) x1 x2 x3 v = (if v 1 8 ≤ x3 then some (x2, v) else (if x3 < 0 ∨ 40 ≤ x3.toNatClampNeg then none else (if v 57 x3.toNatClampNeg = x1 then f_X2_countConstants_4 n x1 (x2 + 1) (x3 + 1) v else f_X2_countConstants_4 n x1 x2 (x3 + 1) v))) := rfl
set_option maxHeartbeats 4000000 in
set_option maxRecDepth 20000 in
theorem b_X2_countConstants_4   {p : Program} {e : Env} {R : Room} {s : State} {m : MethodId} {args : Array Value} {below : List Frame} {meth : Method} {c : Code} (C : fm_C p s m args c cX2_countConstants RX2 4 D (fm_tys cI cII cLd cOc) tA b 305 A) (hr : meth.sig.returnType = (some .int)) (hk0 : meth.locks = false) (hF : 0 ≤ R.frames) (hLo : 40 * 0 ≤ R.locals) : ∀ (n : Nat) (x1 : Int32) (x2 : Int32) (x3 : Int32) (v : fm_T) {q : Int32 × fm_T}, f_X2_countConstants_4 n x1 x2 x3 v = some q → fm_V p l e R s m args below meth c D b 305 (shC cI cII cLd cOc b) A (MQ below (fm_Q D b 305 (shC cI cII cLd cOc b) A (some (.int q.1)) q.2) args s 0 0 A) 4 4 [(0, .ref (b + 1)), (1, .int x1), (2, .int x2), (3, .int x3)] [] v := by
  intro n
  induction n with
  | zero =>
    intro x1 x2 x3 v q hf
    cases (show (none : Option (Int32 × fm_T)) = some q from hf)
  | succ n ih =>
    intro x1 x2 x3 v q hf
    rw [f_X2_countConstants_4_s] at hf
    refine fm_iload_n C dX2_countConstants_4 rfl 3 rfl 5 rfl ?_
    refine fm_aload_n C dX2_countConstants_5 rfl 0 rfl 6 rfl ?_
    refine fm_get C (t := 1) (by decide) (shC_1 _) rfl inG_X2 8 (by decide) F_X2_58 rfl dX2_countConstants_6 9 rfl ?_
    refine fm_icmp_ge C 31 dX2_countConstants_9 (by decide) (fun c1 => ?_) 12 rfl (fun c1 => ?_)
    · rw [if_pos c1] at hf
      refine fm_iload_n C dX2_countConstants_31 rfl 2 rfl 32 rfl ?_
      obtain rfl := Option.some.inj hf
      exact fm_iret C hr hk0 dX2_countConstants_32
    · rw [if_neg c1] at hf
      refine fm_aload_n C dX2_countConstants_12 rfl 0 rfl 13 rfl ?_
      refine fm_get C (t := 1) (by decide) (shC_1 _) rfl inG_X2 9 (by decide) F_X2_35 rfl dX2_countConstants_13 16 rfl ?_
      refine fm_iload_n C dX2_countConstants_16 rfl 3 rfl 17 rfl ?_
      by_cases b2 : x3 < 0 ∨ 40 ≤ x3.toNatClampNeg
      · rw [if_pos b2] at hf; cases hf
      rw [if_neg b2] at hf
      refine fm_iald C (t := 57) (t0 := 0) (by decide) (shC_57 _) rfl b2 dX2_countConstants_17 18 rfl ?_
      refine fm_iload_n C dX2_countConstants_18 rfl 1 rfl 19 rfl ?_
      refine fm_icmp_ne C 25 dX2_countConstants_19 (by decide) (fun c3 => ?_) 22 rfl (fun c3 => ?_)
      · rw [if_neg c3] at hf
        refine fm_iinc C [(3, .int (x3 + 1)), (0, .ref (b + 1)), (1, .int x1), (2, .int x2)] dX2_countConstants_25 3 rfl rfl (by decide) rfl 28 rfl ?_
        refine fm_goto C 4 dX2_countConstants_28 (by decide) ?_
        refine fm_lv [1, 2, 3, 0] [(0, .ref (b + 1)), (1, .int x1), (2, .int x2), (3, .int (x3 + 1))] rfl ?_
        exact ih x1 x2 (x3 + 1) v hf
      · rw [if_pos c3] at hf
        refine fm_iinc C [(2, .int (x2 + 1)), (0, .ref (b + 1)), (1, .int x1), (3, .int x3)] dX2_countConstants_22 2 rfl rfl (by decide) rfl 25 rfl ?_
        refine fm_iinc C [(3, .int (x3 + 1)), (2, .int (x2 + 1)), (0, .ref (b + 1)), (1, .int x1)] dX2_countConstants_25 3 rfl rfl (by decide) rfl 28 rfl ?_
        refine fm_goto C 4 dX2_countConstants_28 (by decide) ?_
        refine fm_lv [2, 3, 1, 0] [(0, .ref (b + 1)), (1, .int x1), (2, .int (x2 + 1)), (3, .int (x3 + 1))] rfl ?_
        exact ih x1 (x2 + 1) (x3 + 1) v hf
def f_X2_countConstants (x1 : Int32) (v : fm_T) : Option (Int32 × fm_T) := f_X2_countConstants_4 1000 x1 0 0 v
set_option maxHeartbeats 4000000 in
set_option maxRecDepth 20000 in
theorem c_X2_countConstants {x1 : Int32}  {v : fm_T} {q : Int32 × fm_T} (hf : f_X2_countConstants x1 v = some q) : fm_M l D (fm_tys cI cII cLd cOc) tA b 305 (shC cI cII cLd cOc b) A yX2_countConstants cX2_countConstants 4 (some .int) 0 [.ref (b + 1), .int x1] v (some (.int q.1)) q.2 := by
  refine fm_entry (by decide) (Nat.le_of_ble_eq_true rfl) ?_
  intro p e R s m args below meth c C hr hk0 hF hLo
  unfold f_X2_countConstants at hf
  show fm_V p l e R s m args below meth c D b 305 (shC cI cII cLd cOc b) A _ 4 0 [(0, .ref (b + 1)), (1, .int x1)] [] v
  refine fm_iconst C (x := 0) dX2_countConstants_0 (by decide) 1 rfl ?_
  refine fm_istore_n C [(2, .int 0), (0, .ref (b + 1)), (1, .int x1)] dX2_countConstants_1 rfl (by decide) rfl 2 rfl ?_
  refine fm_iconst C (x := 0) dX2_countConstants_2 (by decide) 3 rfl ?_
  refine fm_istore_n C [(3, .int 0), (2, .int 0), (0, .ref (b + 1)), (1, .int x1)] dX2_countConstants_3 rfl (by decide) rfl 4 rfl ?_
  refine fm_lv [2, 3, 1, 0] [(0, .ref (b + 1)), (1, .int x1), (2, .int 0), (3, .int 0)] rfl ?_
  exact b_X2_countConstants_4  C hr hk0 hF hLo 1000 x1 0 0 v hf
end
end
section
section
variable {l : Launch} {D : va_G} {tA b : Nat} {A : Nat → Prop} {cI cII cLd cOc : ClassId}
def f_X0_clear_23 : Nat → Nat → Int32 → fm_T → Option (Int32 × fm_T)
  | 0 => fun _ _ _ => none
  | n + 1 => fun k x1 v => (if 40 ≤ x1 then some (0, v) else (if x1 < 0 ∨ 40 ≤ x1.toNatClampNeg then none else ((some (fm_u v (bo k + 14) x1.toNatClampNeg 0) : Option fm_T).bind fun m4 => f_X0_clear_23 n k (x1 + 1) m4)))
theorem f_X0_clear_23_s (n : Nat) (k : Nat) (x1 : Int32) (v : fm_T) : f_X0_clear_23 (n + 1) k x1 v = (if 40 ≤ x1 then some (0, v) else (if x1 < 0 ∨ 40 ≤ x1.toNatClampNeg then none else ((some (fm_u v (bo k + 14) x1.toNatClampNeg 0) : Option fm_T).bind fun m4 => f_X0_clear_23 n k (x1 + 1) m4))) := rfl
set_option maxHeartbeats 4000000 in
set_option maxRecDepth 20000 in
theorem b_X0_clear_23 {k : Nat} (hk : k < 4) {p : Program} {e : Env} {R : Room} {s : State} {m : MethodId} {args : Array Value} {below : List Frame} {meth : Method} {c : Code} (C : fm_C p s m args c cX0_clear RX0 2 D (fm_tys cI cII cLd cOc) tA b 305 A) (hr : meth.sig.returnType = none) (hk0 : meth.locks = false) (hF : 0 ≤ R.frames) (hLo : 40 * 0 ≤ R.locals) : ∀ (n : Nat) (x1 : Int32) (v : fm_T) {q : Int32 × fm_T}, f_X0_clear_23 n k x1 v = some q → fm_V p l e R s m args below meth c D b 305 (shC cI cII cLd cOc b) A (MQ below (fm_Q D b 305 (shC cI cII cLd cOc b) A none q.2) args s 0 0 A) 2 23 [(0, .ref (b + (lo k))), (1, .int x1)] [] v := by
  intro n
  induction n with
  | zero =>
    intro x1 v q hf
    cases (show (none : Option (Int32 × fm_T)) = some q from hf)
  | succ n ih =>
    intro x1 v q hf
    rw [f_X0_clear_23_s] at hf
    refine fm_iload_n C dX0_clear_23 rfl 1 rfl 24 rfl ?_
    refine fm_bipush C (x := 40) dX0_clear_24 (by decide) 26 rfl ?_
    refine fm_icmp_ge C 42 dX0_clear_26 (by decide) (fun c1 => ?_) 29 rfl (fun c1 => ?_)
    · rw [if_pos c1] at hf
      obtain rfl := Option.some.inj hf
      exact fm_vret C hr hk0 dX0_clear_42
    · rw [if_neg c1] at hf
      refine fm_aload_n C dX0_clear_29 rfl 0 rfl 30 rfl ?_
      refine fm_get C (t := lo k) (lo_lt hk) ((shC_lo hk) _) rfl inG_X0 4 (by decide) F_X0_20 rfl dX0_clear_30 33 rfl ?_
      refine fm_iload_n C dX0_clear_33 rfl 1 rfl 34 rfl ?_
      refine fm_iconst C (x := 0) dX0_clear_34 (by decide) 35 rfl ?_
      by_cases b2 : x1 < 0 ∨ 40 ≤ x1.toNatClampNeg
      · rw [if_pos b2] at hf; cases hf
      rw [if_neg b2] at hf
      obtain ⟨m4, e3, hf⟩ := Option.bind_eq_some_iff.mp hf
      refine fm_iast C (t := bo k + 14) (t0 := 0) (bo_lt hk (by decide)) (shC_b14 hk) rfl b2 dX0_clear_35 36 rfl m4 (Option.some.inj e3) ?_
      refine fm_iinc C [(1, .int (x1 + 1)), (0, .ref (b + (lo k)))] dX0_clear_36 1 rfl rfl (by decide) rfl 39 rfl ?_
      refine fm_goto C 23 dX0_clear_39 (by decide) ?_
      refine fm_lv [1, 0] [(0, .ref (b + (lo k))), (1, .int (x1 + 1))] rfl ?_
      exact ih (x1 + 1) m4 hf
def f_X0_clear_2 : Nat → Nat → Int32 → fm_T → Option (Int32 × fm_T)
  | 0 => fun _ _ _ => none
  | n + 1 => fun k x1 v => (if 12 ≤ x1 then f_X0_clear_23 1000 k 0 v else (if x1 < 0 ∨ 12 ≤ x1.toNatClampNeg then none else ((some (fm_u v (bo k) x1.toNatClampNeg 0) : Option fm_T).bind fun m8 => f_X0_clear_2 n k (x1 + 1) m8)))
theorem f_X0_clear_2_s (n : Nat) (k : Nat) (x1 : Int32) (v : fm_T) : f_X0_clear_2 (n + 1) k x1 v = (if 12 ≤ x1 then f_X0_clear_23 1000 k 0 v else (if x1 < 0 ∨ 12 ≤ x1.toNatClampNeg then none else ((some (fm_u v (bo k) x1.toNatClampNeg 0) : Option fm_T).bind fun m8 => f_X0_clear_2 n k (x1 + 1) m8))) := rfl
set_option maxHeartbeats 4000000 in
set_option maxRecDepth 20000 in
theorem b_X0_clear_2 {k : Nat} (hk : k < 4) {p : Program} {e : Env} {R : Room} {s : State} {m : MethodId} {args : Array Value} {below : List Frame} {meth : Method} {c : Code} (C : fm_C p s m args c cX0_clear RX0 2 D (fm_tys cI cII cLd cOc) tA b 305 A) (hr : meth.sig.returnType = none) (hk0 : meth.locks = false) (hF : 0 ≤ R.frames) (hLo : 40 * 0 ≤ R.locals) : ∀ (n : Nat) (x1 : Int32) (v : fm_T) {q : Int32 × fm_T}, f_X0_clear_2 n k x1 v = some q → fm_V p l e R s m args below meth c D b 305 (shC cI cII cLd cOc b) A (MQ below (fm_Q D b 305 (shC cI cII cLd cOc b) A none q.2) args s 0 0 A) 2 2 [(0, .ref (b + (lo k))), (1, .int x1)] [] v := by
  intro n
  induction n with
  | zero =>
    intro x1 v q hf
    cases (show (none : Option (Int32 × fm_T)) = some q from hf)
  | succ n ih =>
    intro x1 v q hf
    rw [f_X0_clear_2_s] at hf
    refine fm_iload_n C dX0_clear_2 rfl 1 rfl 3 rfl ?_
    refine fm_bipush C (x := 12) dX0_clear_3 (by decide) 5 rfl ?_
    refine fm_icmp_ge C 21 dX0_clear_5 (by decide) (fun c5 => ?_) 8 rfl (fun c5 => ?_)
    · rw [if_pos c5] at hf
      refine fm_iconst C (x := 0) dX0_clear_21 (by decide) 22 rfl ?_
      refine fm_istore_n C [(1, .int 0), (0, .ref (b + (lo k)))] dX0_clear_22 rfl (by decide) rfl 23 rfl ?_
      refine fm_lv [1, 0] [(0, .ref (b + (lo k))), (1, .int 0)] rfl ?_
      exact b_X0_clear_23 hk C hr hk0 hF hLo 1000 0 v hf
    · rw [if_neg c5] at hf
      refine fm_aload_n C dX0_clear_8 rfl 0 rfl 9 rfl ?_
      refine fm_get C (t := lo k) (lo_lt hk) ((shC_lo hk) _) rfl inG_X0 2 (by decide) F_X0_9 rfl dX0_clear_9 12 rfl ?_
      refine fm_iload_n C dX0_clear_12 rfl 1 rfl 13 rfl ?_
      refine fm_iconst C (x := 0) dX0_clear_13 (by decide) 14 rfl ?_
      by_cases b6 : x1 < 0 ∨ 12 ≤ x1.toNatClampNeg
      · rw [if_pos b6] at hf; cases hf
      rw [if_neg b6] at hf
      obtain ⟨m8, e7, hf⟩ := Option.bind_eq_some_iff.mp hf
      refine fm_iast C (t := bo k) (t0 := 0) (bo_lt (j := 0) hk (by decide)) (shC_b0 hk) rfl b6 dX0_clear_14 15 rfl m8 (Option.some.inj e7) ?_
      refine fm_iinc C [(1, .int (x1 + 1)), (0, .ref (b + (lo k)))] dX0_clear_15 1 rfl rfl (by decide) rfl 18 rfl ?_
      refine fm_goto C 2 dX0_clear_18 (by decide) ?_
      refine fm_lv [1, 0] [(0, .ref (b + (lo k))), (1, .int (x1 + 1))] rfl ?_
      exact ih (x1 + 1) m8 hf
def f_X0_clear (k : Nat) (v : fm_T) : Option (Int32 × fm_T) := f_X0_clear_2 1000 k 0 v
set_option maxHeartbeats 4000000 in
set_option maxRecDepth 20000 in
theorem c_X0_clear {k : Nat} (hk : k < 4) {v : fm_T} {q : Int32 × fm_T} (hf : f_X0_clear k v = some q) : fm_M l D (fm_tys cI cII cLd cOc) tA b 305 (shC cI cII cLd cOc b) A yX0_clear cX0_clear 2 none 0 [.ref (b + (lo k))] v none q.2 := by
  refine fm_entry (by decide) (Nat.le_of_ble_eq_true rfl) ?_
  intro p e R s m args below meth c C hr hk0 hF hLo
  unfold f_X0_clear at hf
  show fm_V p l e R s m args below meth c D b 305 (shC cI cII cLd cOc b) A _ 2 0 [(0, .ref (b + (lo k)))] [] v
  refine fm_iconst C (x := 0) dX0_clear_0 (by decide) 1 rfl ?_
  refine fm_istore_n C [(1, .int 0), (0, .ref (b + (lo k)))] dX0_clear_1 rfl (by decide) rfl 2 rfl ?_
  refine fm_lv [1, 0] [(0, .ref (b + (lo k))), (1, .int 0)] rfl ?_
  exact b_X0_clear_2 hk C hr hk0 hF hLo 1000 0 v hf
def f_X0_countEnded_4 : Nat → Nat → Int32 → Int32 → fm_T → Option (Int32 × fm_T)
  | 0 => fun _ _ _ _ => none
  | n + 1 => fun k x1 x2 v => (if 12 ≤ x2 then some (x1, v) else (if x2 < 0 ∨ 12 ≤ x2.toNatClampNeg then none else (if v (bo k) x2.toNatClampNeg = 1 then f_X0_countEnded_4 n k (x1 + 1) (x2 + 1) v else (if v (bo k) x2.toNatClampNeg = 3 then f_X0_countEnded_4 n k (x1 + 1) (x2 + 1) v else f_X0_countEnded_4 n k x1 (x2 + 1) v))))
theorem f_X0_countEnded_4_s (n : Nat) (k : Nat) (x1 : Int32) (x2 : Int32) (v : fm_T) : f_X0_countEnded_4 (n + 1) k x1 x2 v = (if 12 ≤ x2 then some (x1, v) else (if x2 < 0 ∨ 12 ≤ x2.toNatClampNeg then none else (if v (bo k) x2.toNatClampNeg = 1 then f_X0_countEnded_4 n k (x1 + 1) (x2 + 1) v else (if v (bo k) x2.toNatClampNeg = 3 then f_X0_countEnded_4 n k (x1 + 1) (x2 + 1) v else f_X0_countEnded_4 n k x1 (x2 + 1) v)))) := rfl
set_option maxHeartbeats 4000000 in
set_option maxRecDepth 20000 in
theorem b_X0_countEnded_4 {k : Nat} (hk : k < 4) {p : Program} {e : Env} {R : Room} {s : State} {m : MethodId} {args : Array Value} {below : List Frame} {meth : Method} {c : Code} (C : fm_C p s m args c cX0_countEnded RX0 3 D (fm_tys cI cII cLd cOc) tA b 305 A) (hr : meth.sig.returnType = (some .int)) (hk0 : meth.locks = false) (hF : 0 ≤ R.frames) (hLo : 40 * 0 ≤ R.locals) : ∀ (n : Nat) (x1 : Int32) (x2 : Int32) (v : fm_T) {q : Int32 × fm_T}, f_X0_countEnded_4 n k x1 x2 v = some q → fm_V p l e R s m args below meth c D b 305 (shC cI cII cLd cOc b) A (MQ below (fm_Q D b 305 (shC cI cII cLd cOc b) A (some (.int q.1)) q.2) args s 0 0 A) 3 4 [(0, .ref (b + (lo k))), (1, .int x1), (2, .int x2)] [] v := by
  intro n
  induction n with
  | zero =>
    intro x1 x2 v q hf
    cases (show (none : Option (Int32 × fm_T)) = some q from hf)
  | succ n ih =>
    intro x1 x2 v q hf
    rw [f_X0_countEnded_4_s] at hf
    refine fm_iload_n C dX0_countEnded_4 rfl 2 rfl 5 rfl ?_
    refine fm_bipush C (x := 12) dX0_countEnded_5 (by decide) 7 rfl ?_
    refine fm_icmp_ge C 39 dX0_countEnded_7 (by decide) (fun c1 => ?_) 10 rfl (fun c1 => ?_)
    · rw [if_pos c1] at hf
      refine fm_iload_n C dX0_countEnded_39 rfl 1 rfl 40 rfl ?_
      obtain rfl := Option.some.inj hf
      exact fm_iret C hr hk0 dX0_countEnded_40
    · rw [if_neg c1] at hf
      refine fm_aload_n C dX0_countEnded_10 rfl 0 rfl 11 rfl ?_
      refine fm_get C (t := lo k) (lo_lt hk) ((shC_lo hk) _) rfl inG_X0 2 (by decide) F_X0_9 rfl dX0_countEnded_11 14 rfl ?_
      refine fm_iload_n C dX0_countEnded_14 rfl 2 rfl 15 rfl ?_
      by_cases b2 : x2 < 0 ∨ 12 ≤ x2.toNatClampNeg
      · rw [if_pos b2] at hf; cases hf
      rw [if_neg b2] at hf
      refine fm_iald C (t := bo k) (t0 := 0) (bo_lt (j := 0) hk (by decide)) ((shC_b0 hk) _) rfl b2 dX0_countEnded_15 16 rfl ?_
      refine fm_iconst C (x := 1) dX0_countEnded_16 (by decide) 17 rfl ?_
      refine fm_icmp_eq C 30 dX0_countEnded_17 (by decide) (fun c3 => ?_) 20 rfl (fun c3 => ?_)
      · rw [if_pos c3] at hf
        refine fm_iinc C [(1, .int (x1 + 1)), (0, .ref (b + (lo k))), (2, .int x2)] dX0_countEnded_30 1 rfl rfl (by decide) rfl 33 rfl ?_
        refine fm_iinc C [(2, .int (x2 + 1)), (1, .int (x1 + 1)), (0, .ref (b + (lo k)))] dX0_countEnded_33 2 rfl rfl (by decide) rfl 36 rfl ?_
        refine fm_goto C 4 dX0_countEnded_36 (by decide) ?_
        refine fm_lv [2, 1, 0] [(0, .ref (b + (lo k))), (1, .int (x1 + 1)), (2, .int (x2 + 1))] rfl ?_
        exact ih (x1 + 1) (x2 + 1) v hf
      · rw [if_neg c3] at hf
        refine fm_aload_n C dX0_countEnded_20 rfl 0 rfl 21 rfl ?_
        refine fm_get C (t := lo k) (lo_lt hk) ((shC_lo hk) _) rfl inG_X0 2 (by decide) F_X0_9 rfl dX0_countEnded_21 24 rfl ?_
        refine fm_iload_n C dX0_countEnded_24 rfl 2 rfl 25 rfl ?_
        refine fm_iald C (t := bo k) (t0 := 0) (bo_lt (j := 0) hk (by decide)) ((shC_b0 hk) _) rfl b2 dX0_countEnded_25 26 rfl ?_
        refine fm_iconst C (x := 3) dX0_countEnded_26 (by decide) 27 rfl ?_
        refine fm_icmp_ne C 33 dX0_countEnded_27 (by decide) (fun c4 => ?_) 30 rfl (fun c4 => ?_)
        · rw [if_neg c4] at hf
          refine fm_iinc C [(2, .int (x2 + 1)), (0, .ref (b + (lo k))), (1, .int x1)] dX0_countEnded_33 2 rfl rfl (by decide) rfl 36 rfl ?_
          refine fm_goto C 4 dX0_countEnded_36 (by decide) ?_
          refine fm_lv [1, 2, 0] [(0, .ref (b + (lo k))), (1, .int x1), (2, .int (x2 + 1))] rfl ?_
          exact ih x1 (x2 + 1) v hf
        · rw [if_pos c4] at hf
          refine fm_iinc C [(1, .int (x1 + 1)), (0, .ref (b + (lo k))), (2, .int x2)] dX0_countEnded_30 1 rfl rfl (by decide) rfl 33 rfl ?_
          refine fm_iinc C [(2, .int (x2 + 1)), (1, .int (x1 + 1)), (0, .ref (b + (lo k)))] dX0_countEnded_33 2 rfl rfl (by decide) rfl 36 rfl ?_
          refine fm_goto C 4 dX0_countEnded_36 (by decide) ?_
          refine fm_lv [2, 1, 0] [(0, .ref (b + (lo k))), (1, .int (x1 + 1)), (2, .int (x2 + 1))] rfl ?_
          exact ih (x1 + 1) (x2 + 1) v hf
def f_X0_countEnded (k : Nat) (v : fm_T) : Option (Int32 × fm_T) := f_X0_countEnded_4 1000 k 0 0 v
set_option maxHeartbeats 4000000 in
set_option maxRecDepth 20000 in
theorem c_X0_countEnded {k : Nat} (hk : k < 4) {v : fm_T} {q : Int32 × fm_T} (hf : f_X0_countEnded k v = some q) : fm_M l D (fm_tys cI cII cLd cOc) tA b 305 (shC cI cII cLd cOc b) A yX0_countEnded cX0_countEnded 3 (some .int) 0 [.ref (b + (lo k))] v (some (.int q.1)) q.2 := by
  refine fm_entry (by decide) (Nat.le_of_ble_eq_true rfl) ?_
  intro p e R s m args below meth c C hr hk0 hF hLo
  unfold f_X0_countEnded at hf
  show fm_V p l e R s m args below meth c D b 305 (shC cI cII cLd cOc b) A _ 3 0 [(0, .ref (b + (lo k)))] [] v
  refine fm_iconst C (x := 0) dX0_countEnded_0 (by decide) 1 rfl ?_
  refine fm_istore_n C [(1, .int 0), (0, .ref (b + (lo k)))] dX0_countEnded_1 rfl (by decide) rfl 2 rfl ?_
  refine fm_iconst C (x := 0) dX0_countEnded_2 (by decide) 3 rfl ?_
  refine fm_istore_n C [(2, .int 0), (1, .int 0), (0, .ref (b + (lo k)))] dX0_countEnded_3 rfl (by decide) rfl 4 rfl ?_
  refine fm_lv [2, 1, 0] [(0, .ref (b + (lo k))), (1, .int 0), (2, .int 0)] rfl ?_
  exact b_X0_countEnded_4 hk C hr hk0 hF hLo 1000 0 0 v hf
def f_X0_tellKept (k : Nat) (x1 : Int32) (v : fm_T) : Option (Int32 × fm_T) := (if x1 < 0 ∨ 40 ≤ x1.toNatClampNeg then none else (if v (bo k + 14) x1.toNatClampNeg = 2 then (if v (bo k + 17 + x1.toNatClampNeg) 1 = 0 then some (1, v) else some (10 + (v (bo k + 17 + x1.toNatClampNeg) 1), v)) else some (0, v)))
set_option maxHeartbeats 4000000 in
set_option maxRecDepth 20000 in
theorem c_X0_tellKept {k : Nat} {x1 : Int32} (hk : k < 4) {v : fm_T} {q : Int32 × fm_T} (hf : f_X0_tellKept k x1 v = some q) : fm_M l D (fm_tys cI cII cLd cOc) tA b 305 (shC cI cII cLd cOc b) A yX0_tellKept cX0_tellKept 3 (some .int) 0 [.ref (b + (lo k)), .int x1] v (some (.int q.1)) q.2 := by
  refine fm_entry (by decide) (Nat.le_of_ble_eq_true rfl) ?_
  intro p e R s m args below meth c C hr hk0 hF hLo
  unfold f_X0_tellKept at hf
  show fm_V p l e R s m args below meth c D b 305 (shC cI cII cLd cOc b) A _ 3 0 [(0, .ref (b + (lo k))), (1, .int x1)] [] v
  refine fm_aload_n C dX0_tellKept_0 rfl 0 rfl 1 rfl ?_
  refine fm_get C (t := lo k) (lo_lt hk) ((shC_lo hk) _) rfl inG_X0 4 (by decide) F_X0_20 rfl dX0_tellKept_1 4 rfl ?_
  refine fm_iload_n C dX0_tellKept_4 rfl 1 rfl 5 rfl ?_
  by_cases b1 : x1 < 0 ∨ 40 ≤ x1.toNatClampNeg
  · rw [if_pos b1] at hf; cases hf
  rw [if_neg b1] at hf
  refine fm_iald C (t := bo k + 14) (t0 := 0) (bo_lt hk (by decide)) ((shC_b14 hk) _) rfl b1 dX0_tellKept_5 6 rfl ?_
  refine fm_iconst C (x := 2) dX0_tellKept_6 (by decide) 7 rfl ?_
  refine fm_icmp_eq C 12 dX0_tellKept_7 (by decide) (fun c2 => ?_) 10 rfl (fun c2 => ?_)
  · rw [if_pos c2] at hf
    refine fm_aload_n C dX0_tellKept_12 rfl 0 rfl 13 rfl ?_
    refine fm_get C (t := lo k) (lo_lt hk) ((shC_lo hk) _) rfl inG_X0 5 (by decide) F_X0_25 rfl dX0_tellKept_13 16 rfl ?_
    refine fm_iload_n C dX0_tellKept_16 rfl 1 rfl 17 rfl ?_
    refine fm_aald C (t := bo k + 15) (t0 := 3) (bo_lt hk (by decide)) ((shC_b15 hk) _) rfl rfl b1 (x := b + (bo k + 17 + x1.toNatClampNeg)) (in_some (g := fun i => b + (bo k + 17 + i)) b1) dX0_tellKept_17 18 rfl ?_
    refine fm_getN C (t := bo k + 17 + x1.toNatClampNeg) (isO_lt (isO_out hk (in_lt b1))) ((shC_O (isO_out hk (in_lt b1))) _) rfl inG_X1 1 (by decide) FN_X0_42 rfl dX0_tellKept_18 21 rfl ?_
    refine fm_istore_n C [(2, .int (v (bo k + 17 + x1.toNatClampNeg) 1)), (0, .ref (b + (lo k))), (1, .int x1)] dX0_tellKept_21 rfl (by decide) rfl 22 rfl ?_
    refine fm_iload_n C dX0_tellKept_22 rfl 0 rfl 23 rfl ?_
    refine fm_if_ne C 30 dX0_tellKept_23 (by decide) (fun c3 => ?_) 26 rfl (fun c3 => ?_)
    · rw [if_neg c3] at hf
      refine fm_bipush C (x := 10) dX0_tellKept_30 (by decide) 32 rfl ?_
      refine fm_iload_n C dX0_tellKept_32 rfl 0 rfl 33 rfl ?_
      refine fm_iadd C dX0_tellKept_33 34 rfl ?_
      obtain rfl := Option.some.inj hf
      exact fm_iret C hr hk0 dX0_tellKept_34
    · rw [if_pos c3] at hf
      refine fm_iconst C (x := 1) dX0_tellKept_26 (by decide) 27 rfl ?_
      refine fm_goto C 34 dX0_tellKept_27 (by decide) ?_
      obtain rfl := Option.some.inj hf
      exact fm_iret C hr hk0 dX0_tellKept_34
  · rw [if_neg c2] at hf
    refine fm_iconst C (x := 0) dX0_tellKept_10 (by decide) 11 rfl ?_
    obtain rfl := Option.some.inj hf
    exact fm_iret C hr hk0 dX0_tellKept_11
def f_X0_tellItem (k : Nat) (x1 : Int32) (x2 : Int32) (v : fm_T) : Option (Int32 × fm_T) := (if x1 < 0 ∨ 12 ≤ x1.toNatClampNeg then none else (if v (bo k) x1.toNatClampNeg = 0 then (if x2 < 0 ∨ 8 ≤ x2.toNatClampNeg then none else some (v (4 + x1.toNatClampNeg) x2.toNatClampNeg, v)) else (if x2 < 0 ∨ 8 ≤ x2.toNatClampNeg then none else some (v (bo k + 2 + x1.toNatClampNeg) x2.toNatClampNeg, v))))
set_option maxHeartbeats 4000000 in
set_option maxRecDepth 20000 in
theorem c_X0_tellItem {k : Nat} {x1 : Int32} {x2 : Int32} (hk : k < 4) {v : fm_T} {q : Int32 × fm_T} (hf : f_X0_tellItem k x1 x2 v = some q) : fm_M l D (fm_tys cI cII cLd cOc) tA b 305 (shC cI cII cLd cOc b) A yX0_tellItem cX0_tellItem 3 (some .int) 0 [.ref (b + (lo k)), .int x1, .int x2] v (some (.int q.1)) q.2 := by
  refine fm_entry (by decide) (Nat.le_of_ble_eq_true rfl) ?_
  intro p e R s m args below meth c C hr hk0 hF hLo
  unfold f_X0_tellItem at hf
  show fm_V p l e R s m args below meth c D b 305 (shC cI cII cLd cOc b) A _ 3 0 [(0, .ref (b + (lo k))), (1, .int x1), (2, .int x2)] [] v
  refine fm_aload_n C dX0_tellItem_0 rfl 0 rfl 1 rfl ?_
  refine fm_get C (t := lo k) (lo_lt hk) ((shC_lo hk) _) rfl inG_X0 2 (by decide) F_X0_9 rfl dX0_tellItem_1 4 rfl ?_
  refine fm_iload_n C dX0_tellItem_4 rfl 1 rfl 5 rfl ?_
  by_cases b1 : x1 < 0 ∨ 12 ≤ x1.toNatClampNeg
  · rw [if_pos b1] at hf; cases hf
  rw [if_neg b1] at hf
  refine fm_iald C (t := bo k) (t0 := 0) (bo_lt (j := 0) hk (by decide)) ((shC_b0 hk) _) rfl b1 dX0_tellItem_5 6 rfl ?_
  refine fm_if_ne C 23 dX0_tellItem_6 (by decide) (fun c2 => ?_) 9 rfl (fun c2 => ?_)
  · rw [if_neg c2] at hf
    refine fm_aload_n C dX0_tellItem_23 rfl 0 rfl 24 rfl ?_
    refine fm_get C (t := lo k) (lo_lt hk) ((shC_lo hk) _) rfl inG_X0 3 (by decide) F_X0_17 rfl dX0_tellItem_24 27 rfl ?_
    refine fm_iload_n C dX0_tellItem_27 rfl 1 rfl 28 rfl ?_
    refine fm_aald C (t := bo k + 1) (t0 := 1) (bo_lt hk (by decide)) ((shC_b1 hk) _) rfl rfl b1 (x := b + (bo k + 2 + x1.toNatClampNeg)) (in_some (g := fun i => b + (bo k + 2 + i)) b1) dX0_tellItem_28 29 rfl ?_
    refine fm_iload_n C dX0_tellItem_29 rfl 2 rfl 30 rfl ?_
    by_cases b3 : x2 < 0 ∨ 8 ≤ x2.toNatClampNeg
    · rw [if_pos b3] at hf; cases hf
    rw [if_neg b3] at hf
    refine fm_iald C (t := bo k + 2 + x1.toNatClampNeg) (t0 := 0) (row_lt hk (in_lt b1)) ((shC_row hk (in_lt b1)) _) rfl b3 dX0_tellItem_30 31 rfl ?_
    obtain rfl := Option.some.inj hf
    exact fm_iret C hr hk0 dX0_tellItem_31
  · rw [if_pos c2] at hf
    refine fm_aload_n C dX0_tellItem_9 rfl 0 rfl 10 rfl ?_
    refine fm_get C (t := lo k) (lo_lt hk) ((shC_lo hk) _) rfl inG_X0 0 (by decide) F_X0_34 rfl dX0_tellItem_10 13 rfl ?_
    refine fm_getN C (t := 1) (by decide) (shC_1 _) rfl inG_X2 2 (by decide) FN_X0_46 rfl dX0_tellItem_13 16 rfl ?_
    refine fm_iload_n C dX0_tellItem_16 rfl 1 rfl 17 rfl ?_
    refine fm_aald C (t := 3) (t0 := 1) (by decide) (shC_3 _) rfl rfl b1 (x := b + (4 + x1.toNatClampNeg)) (in_some (g := fun i => b + (4 + i)) b1) dX0_tellItem_17 18 rfl ?_
    refine fm_iload_n C dX0_tellItem_18 rfl 2 rfl 19 rfl ?_
    by_cases b4 : x2 < 0 ∨ 8 ≤ x2.toNatClampNeg
    · rw [if_pos b4] at hf; cases hf
    rw [if_neg b4] at hf
    refine fm_iald C (t := 4 + x1.toNatClampNeg) (t0 := 0) (by have := in_lt b1; omega) ((shC_r4 (in_lt b1)) _) rfl b4 dX0_tellItem_19 20 rfl ?_
    refine fm_goto C 31 dX0_tellItem_20 (by decide) ?_
    obtain rfl := Option.some.inj hf
    exact fm_iret C hr hk0 dX0_tellItem_31
def f_X0_readItem (k : Nat) (x1 : Int32) (x2 : Int32) (v : fm_T) : Option (Int32 × fm_T) := ((f_X2_hasItem x1 x2 v).bind fun q2 => (if q2.1 = 0 then ((f_X1_fail (bo k + 16) 2 0 q2.2).bind fun q5 => (if q5.1 = 0 ∨ q5.1 = 1 then some (q5.1, q5.2) else none)) else (if x1 < 0 ∨ 12 ≤ x1.toNatClampNeg then none else (if x2 < 0 ∨ 8 ≤ x2.toNatClampNeg then none else ((f_X1_succeed (bo k + 16) (q2.2 (bo k + 2 + x1.toNatClampNeg) x2.toNatClampNeg) q2.2).bind fun q10 => (if q10.1 = 0 ∨ q10.1 = 1 then some (q10.1, q10.2) else none))))))
set_option maxHeartbeats 4000000 in
set_option maxRecDepth 20000 in
theorem c_X0_readItem {k : Nat} {x1 : Int32} {x2 : Int32} (hk : k < 4) {v : fm_T} {q : Int32 × fm_T} (hf : f_X0_readItem k x1 x2 v = some q) : fm_M l D (fm_tys cI cII cLd cOc) tA b 305 (shC cI cII cLd cOc b) A yX0_readItem cX0_readItem 3 (some .boolean) 2 [.ref (b + (lo k)), .int x1, .int x2] v (some (.int q.1)) q.2 := by
  refine fm_entry (by decide) (Nat.le_of_ble_eq_true rfl) ?_
  intro p e R s m args below meth c C hr hk0 hF hLo
  unfold f_X0_readItem at hf
  show fm_V p l e R s m args below meth c D b 305 (shC cI cII cLd cOc b) A _ 3 0 [(0, .ref (b + (lo k))), (1, .int x1), (2, .int x2)] [] v
  refine fm_aload_n C dX0_readItem_0 rfl 0 rfl 1 rfl ?_
  refine fm_get C (t := lo k) (lo_lt hk) ((shC_lo hk) _) rfl inG_X0 0 (by decide) F_X0_34 rfl dX0_readItem_1 4 rfl ?_
  refine fm_iload_n C dX0_readItem_4 rfl 1 rfl 5 rfl ?_
  refine fm_iload_n C dX0_readItem_5 rfl 2 rfl 6 rfl ?_
  obtain ⟨q2, h1, hf⟩ := Option.bind_eq_some_iff.mp hf
  refine fm_callN C Y_X2_hasItem (t := 1) (by decide) (shC_1 _) rfl LN_X0_122 (As := [.int x1, .int x2]) (rest := []) (c_X2_hasItem  h1) (by omega) (by omega) rfl (Nat.le_of_ble_eq_true rfl) dX0_readItem_6 9 rfl [.int q2.1] rfl ?_
  refine fm_if_eq C 30 dX0_readItem_9 (by decide) (fun c3 => ?_) 12 rfl (fun c3 => ?_)
  · rw [if_pos c3] at hf
    refine fm_aload_n C dX0_readItem_30 rfl 0 rfl 31 rfl ?_
    refine fm_get C (t := lo k) (lo_lt hk) ((shC_lo hk) _) rfl inG_X0 6 (by decide) F_X0_30 rfl dX0_readItem_31 34 rfl ?_
    refine fm_iconst C (x := 2) dX0_readItem_34 (by decide) 35 rfl ?_
    refine fm_iconst C (x := 0) dX0_readItem_35 (by decide) 36 rfl ?_
    obtain ⟨q5, h4, hf⟩ := Option.bind_eq_some_iff.mp hf
    refine fm_callN C Y_X1_fail (t := bo k + 16) (isO_lt (isO_now hk)) ((shC_O (isO_now hk)) _) rfl LN_X0_55 (As := [.int 2, .int 0]) (rest := []) (c_X1_fail (isO_now hk) h4) (by omega) (by omega) rfl (Nat.le_of_ble_eq_true rfl) dX0_readItem_36 39 rfl [.int q5.1] rfl ?_
    by_cases r6 : q5.1 = 0 ∨ q5.1 = 1
    · rw [if_pos r6] at hf
      obtain rfl := Option.some.inj hf
      exact fm_zret C hr hk0 r6 dX0_readItem_39
    · rw [if_neg r6] at hf; cases hf
  · rw [if_neg c3] at hf
    refine fm_aload_n C dX0_readItem_12 rfl 0 rfl 13 rfl ?_
    refine fm_get C (t := lo k) (lo_lt hk) ((shC_lo hk) _) rfl inG_X0 6 (by decide) F_X0_30 rfl dX0_readItem_13 16 rfl ?_
    refine fm_aload_n C dX0_readItem_16 rfl 0 rfl 17 rfl ?_
    refine fm_get C (t := lo k) (lo_lt hk) ((shC_lo hk) _) rfl inG_X0 3 (by decide) F_X0_17 rfl dX0_readItem_17 20 rfl ?_
    refine fm_iload_n C dX0_readItem_20 rfl 1 rfl 21 rfl ?_
    by_cases b7 : x1 < 0 ∨ 12 ≤ x1.toNatClampNeg
    · rw [if_pos b7] at hf; cases hf
    rw [if_neg b7] at hf
    refine fm_aald C (t := bo k + 1) (t0 := 1) (bo_lt hk (by decide)) ((shC_b1 hk) _) rfl rfl b7 (x := b + (bo k + 2 + x1.toNatClampNeg)) (in_some (g := fun i => b + (bo k + 2 + i)) b7) dX0_readItem_21 22 rfl ?_
    refine fm_iload_n C dX0_readItem_22 rfl 2 rfl 23 rfl ?_
    by_cases b8 : x2 < 0 ∨ 8 ≤ x2.toNatClampNeg
    · rw [if_pos b8] at hf; cases hf
    rw [if_neg b8] at hf
    refine fm_iald C (t := bo k + 2 + x1.toNatClampNeg) (t0 := 0) (row_lt hk (in_lt b7)) ((shC_row hk (in_lt b7)) _) rfl b8 dX0_readItem_23 24 rfl ?_
    obtain ⟨q10, h9, hf⟩ := Option.bind_eq_some_iff.mp hf
    refine fm_callN C Y_X1_succeed (t := bo k + 16) (isO_lt (isO_now hk)) ((shC_O (isO_now hk)) _) rfl LN_X0_93 (As := [.int (q2.2 (bo k + 2 + x1.toNatClampNeg) x2.toNatClampNeg)]) (rest := []) (c_X1_succeed (isO_now hk) h9) (by omega) (by omega) rfl (Nat.le_of_ble_eq_true rfl) dX0_readItem_24 27 rfl [.int q10.1] rfl ?_
    refine fm_goto C 39 dX0_readItem_27 (by decide) ?_
    by_cases r11 : q10.1 = 0 ∨ q10.1 = 1
    · rw [if_pos r11] at hf
      obtain rfl := Option.some.inj hf
      exact fm_zret C hr hk0 r11 dX0_readItem_39
    · rw [if_neg r11] at hf; cases hf
def f_X0_writeItem (k : Nat) (x1 : Int32) (x2 : Int32) (x3 : Int32) (v : fm_T) : Option (Int32 × fm_T) := ((f_X2_hasItem x1 x2 v).bind fun q2 => (if q2.1 = 0 then ((f_X1_fail (bo k + 16) 2 0 q2.2).bind fun q12 => (if q12.1 = 0 ∨ q12.1 = 1 then some (q12.1, q12.2) else none)) else (if x1 < 0 ∨ 12 ≤ x1.toNatClampNeg then none else (if x2 < 0 ∨ 8 ≤ x2.toNatClampNeg then none else ((some (fm_u q2.2 (bo k + 2 + x1.toNatClampNeg) x2.toNatClampNeg x3) : Option fm_T).bind fun m7 => ((f_X1_succeed (bo k + 16) x3 m7).bind fun q9 => (if q9.1 = 0 ∨ q9.1 = 1 then some (q9.1, q9.2) else none)))))))
set_option maxHeartbeats 4000000 in
set_option maxRecDepth 20000 in
theorem c_X0_writeItem {k : Nat} {x1 : Int32} {x2 : Int32} {x3 : Int32} (hk : k < 4) {v : fm_T} {q : Int32 × fm_T} (hf : f_X0_writeItem k x1 x2 x3 v = some q) : fm_M l D (fm_tys cI cII cLd cOc) tA b 305 (shC cI cII cLd cOc b) A yX0_writeItem cX0_writeItem 4 (some .boolean) 2 [.ref (b + (lo k)), .int x1, .int x2, .int x3] v (some (.int q.1)) q.2 := by
  refine fm_entry (by decide) (Nat.le_of_ble_eq_true rfl) ?_
  intro p e R s m args below meth c C hr hk0 hF hLo
  unfold f_X0_writeItem at hf
  show fm_V p l e R s m args below meth c D b 305 (shC cI cII cLd cOc b) A _ 4 0 [(0, .ref (b + (lo k))), (1, .int x1), (2, .int x2), (3, .int x3)] [] v
  refine fm_aload_n C dX0_writeItem_0 rfl 0 rfl 1 rfl ?_
  refine fm_get C (t := lo k) (lo_lt hk) ((shC_lo hk) _) rfl inG_X0 0 (by decide) F_X0_34 rfl dX0_writeItem_1 4 rfl ?_
  refine fm_iload_n C dX0_writeItem_4 rfl 1 rfl 5 rfl ?_
  refine fm_iload_n C dX0_writeItem_5 rfl 2 rfl 6 rfl ?_
  obtain ⟨q2, h1, hf⟩ := Option.bind_eq_some_iff.mp hf
  refine fm_callN C Y_X2_hasItem (t := 1) (by decide) (shC_1 _) rfl LN_X0_122 (As := [.int x1, .int x2]) (rest := []) (c_X2_hasItem  h1) (by omega) (by omega) rfl (Nat.le_of_ble_eq_true rfl) dX0_writeItem_6 9 rfl [.int q2.1] rfl ?_
  refine fm_if_ne C 22 dX0_writeItem_9 (by decide) (fun c3 => ?_) 12 rfl (fun c3 => ?_)
  · rw [if_neg c3] at hf
    refine fm_aload_n C dX0_writeItem_22 rfl 0 rfl 23 rfl ?_
    refine fm_get C (t := lo k) (lo_lt hk) ((shC_lo hk) _) rfl inG_X0 3 (by decide) F_X0_17 rfl dX0_writeItem_23 26 rfl ?_
    refine fm_iload_n C dX0_writeItem_26 rfl 1 rfl 27 rfl ?_
    by_cases b4 : x1 < 0 ∨ 12 ≤ x1.toNatClampNeg
    · rw [if_pos b4] at hf; cases hf
    rw [if_neg b4] at hf
    refine fm_aald C (t := bo k + 1) (t0 := 1) (bo_lt hk (by decide)) ((shC_b1 hk) _) rfl rfl b4 (x := b + (bo k + 2 + x1.toNatClampNeg)) (in_some (g := fun i => b + (bo k + 2 + i)) b4) dX0_writeItem_27 28 rfl ?_
    refine fm_iload_n C dX0_writeItem_28 rfl 2 rfl 29 rfl ?_
    refine fm_iload_n C dX0_writeItem_29 rfl 3 rfl 30 rfl ?_
    by_cases b5 : x2 < 0 ∨ 8 ≤ x2.toNatClampNeg
    · rw [if_pos b5] at hf; cases hf
    rw [if_neg b5] at hf
    obtain ⟨m7, e6, hf⟩ := Option.bind_eq_some_iff.mp hf
    refine fm_iast C (t := bo k + 2 + x1.toNatClampNeg) (t0 := 0) (row_lt hk (in_lt b4)) (shC_row hk (in_lt b4)) rfl b5 dX0_writeItem_30 31 rfl m7 (Option.some.inj e6) ?_
    refine fm_aload_n C dX0_writeItem_31 rfl 0 rfl 32 rfl ?_
    refine fm_get C (t := lo k) (lo_lt hk) ((shC_lo hk) _) rfl inG_X0 6 (by decide) F_X0_30 rfl dX0_writeItem_32 35 rfl ?_
    refine fm_iload_n C dX0_writeItem_35 rfl 3 rfl 36 rfl ?_
    obtain ⟨q9, h8, hf⟩ := Option.bind_eq_some_iff.mp hf
    refine fm_callN C Y_X1_succeed (t := bo k + 16) (isO_lt (isO_now hk)) ((shC_O (isO_now hk)) _) rfl LN_X0_93 (As := [.int x3]) (rest := []) (c_X1_succeed (isO_now hk) h8) (by omega) (by omega) rfl (Nat.le_of_ble_eq_true rfl) dX0_writeItem_36 39 rfl [.int q9.1] rfl ?_
    by_cases r10 : q9.1 = 0 ∨ q9.1 = 1
    · rw [if_pos r10] at hf
      obtain rfl := Option.some.inj hf
      exact fm_zret C hr hk0 r10 dX0_writeItem_39
    · rw [if_neg r10] at hf; cases hf
  · rw [if_pos c3] at hf
    refine fm_aload_n C dX0_writeItem_12 rfl 0 rfl 13 rfl ?_
    refine fm_get C (t := lo k) (lo_lt hk) ((shC_lo hk) _) rfl inG_X0 6 (by decide) F_X0_30 rfl dX0_writeItem_13 16 rfl ?_
    refine fm_iconst C (x := 2) dX0_writeItem_16 (by decide) 17 rfl ?_
    refine fm_iconst C (x := 0) dX0_writeItem_17 (by decide) 18 rfl ?_
    obtain ⟨q12, h11, hf⟩ := Option.bind_eq_some_iff.mp hf
    refine fm_callN C Y_X1_fail (t := bo k + 16) (isO_lt (isO_now hk)) ((shC_O (isO_now hk)) _) rfl LN_X0_55 (As := [.int 2, .int 0]) (rest := []) (c_X1_fail (isO_now hk) h11) (by omega) (by omega) rfl (Nat.le_of_ble_eq_true rfl) dX0_writeItem_18 21 rfl [.int q12.1] rfl ?_
    by_cases r13 : q12.1 = 0 ∨ q12.1 = 1
    · rw [if_pos r13] at hf
      obtain rfl := Option.some.inj hf
      exact fm_zret C hr hk0 r13 dX0_writeItem_21
    · rw [if_neg r13] at hf; cases hf
end
end
section
section
variable {l : Launch} {D : va_G} {tA b : Nat} {A : Nat → Prop} {cI cII cLd cOc : ClassId}
abbrev GT : Type := Nat → Nat → Int32 → Int32 → Int32 → fm_T → Option (Int32 × fm_T)
def GG (l : Launch) (D : va_G) (tA : Nat) (cI cII cLd cOc : ClassId) (b : Nat) (A : Nat → Prop) (g : GT) (h : Nat) : Prop :=
  (∀ {k : Nat} {x1 x2 : Int32} {v : fm_T} {q : Int32 × fm_T}, k < 4 → g 0 k x1 x2 0 v = some q → fm_M l D (fm_tys cI cII cLd cOc) tA b 305 (shC cI cII cLd cOc b) A yX0_obtain cX0_obtain 3 (some .boolean) h [.ref (b + lo k), .int x1, .int x2] v (some (.int q.1)) q.2) ∧
  (∀ {k : Nat} {x1 x2 : Int32} {v : fm_T} {q : Int32 × fm_T}, k < 4 → g 1 k x1 x2 0 v = some q → fm_M l D (fm_tys cI cII cLd cOc) tA b 305 (shC cI cII cLd cOc b) A yX0_begin cX0_begin 4 (some .boolean) h [.ref (b + lo k), .int x1, .int x2] v (some (.int q.1)) q.2) ∧
  (∀ {k : Nat} {x1 x2 : Int32} {v : fm_T} {q : Int32 × fm_T}, k < 4 → g 2 k x1 x2 0 v = some q → fm_M l D (fm_tys cI cII cLd cOc) tA b 305 (shC cI cII cLd cOc b) A yX0_work cX0_work 4 (some .boolean) h [.ref (b + lo k), .int x1, .int x2] v (some (.int q.1)) q.2) ∧
  (∀ {k : Nat} {x1 x2 : Int32} {v : fm_T} {q : Int32 × fm_T}, k < 4 → g 3 k x1 x2 0 v = some q → fm_M l D (fm_tys cI cII cLd cOc) tA b 305 (shC cI cII cLd cOc b) A yX0_reckon cX0_reckon 5 (some .boolean) h [.ref (b + lo k), .int x1, .int x2] v (some (.int q.1)) q.2) ∧
  (∀ {k : Nat} {x1 x2 x3 : Int32} {v : fm_T} {q : Int32 × fm_T}, k < 4 → g 4 k x1 x2 x3 v = some q → fm_M l D (fm_tys cI cII cLd cOc) tA b 305 (shC cI cII cLd cOc b) A yX0_multiply cX0_multiply 5 (some .boolean) h [.ref (b + lo k), .int x1, .int x2, .int x3] v (some (.int q.1)) q.2) ∧
  (∀ {k : Nat} {x1 x2 x3 : Int32} {v : fm_T} {q : Int32 × fm_T}, k < 4 → g 5 k x1 x2 x3 v = some q → fm_M l D (fm_tys cI cII cLd cOc) tA b 305 (shC cI cII cLd cOc b) A yX0_divide cX0_divide 6 (some .boolean) h [.ref (b + lo k), .int x1, .int x2, .int x3] v (some (.int q.1)) q.2) ∧
  (∀ {k : Nat} {x1 x2 : Int32} {v : fm_T} {q : Int32 × fm_T}, k < 4 → g 6 k x1 x2 0 v = some q → fm_M l D (fm_tys cI cII cLd cOc) tA b 305 (shC cI cII cLd cOc b) A yX0_beginUsed cX0_beginUsed 4 (some .boolean) h [.ref (b + lo k), .int x1, .int x2] v (some (.int q.1)) q.2) ∧
  (∀ {k : Nat} {x1 x2 : Int32} {v : fm_T} {q : Int32 × fm_T}, k < 4 → g 7 k x1 x2 0 v = some q → fm_M l D (fm_tys cI cII cLd cOc) tA b 305 (shC cI cII cLd cOc b) A yX0_doDeeds cX0_doDeeds 4 (some .boolean) h [.ref (b + lo k), .int x1, .int x2] v (some (.int q.1)) q.2) ∧
  (∀ {k : Nat} {x1 x2 x3 : Int32} {v : fm_T} {q : Int32 × fm_T}, k < 4 → g 8 k x1 x2 x3 v = some q → fm_M l D (fm_tys cI cII cLd cOc) tA b 305 (shC cI cII cLd cOc b) A yX0_doDeed cX0_doDeed 4 (some .boolean) h [.ref (b + lo k), .int x1, .int x2, .int x3] v (some (.int q.1)) q.2)
def f_X0_obtain (g : GT) (k : Nat) (x1 : Int32) (x2 : Int32) (v : fm_T) : Option (Int32 × fm_T) := ((f_X2_hasConstant x1 v).bind fun q2 => (if q2.1 = 0 then ((f_X1_fail (bo k + 16) 8 x1 q2.2).bind fun q24 => (if q24.1 = 0 ∨ q24.1 = 1 then some (q24.1, q24.2) else none)) else (if x1 < 0 ∨ 40 ≤ x1.toNatClampNeg then none else ((g 1 k (q2.2 57 x1.toNatClampNeg) (x2 + 1) 0 q2.2).bind fun q6 => (if q6.1 = 0 then some (0, q6.2) else (if q6.2 (bo k + 14) x1.toNatClampNeg = 2 then ((f_X1_copy (bo k + 16) (bo k + 17 + x1.toNatClampNeg) q6.2).bind fun q21 => (if q21.2 (bo k + 16) 1 = 0 then some (1, q21.2) else some (0, q21.2))) else (if q6.2 (bo k + 14) x1.toNatClampNeg = 1 then ((f_X1_fail (bo k + 16) 4 x1 q6.2).bind fun q11 => (if q11.1 = 0 ∨ q11.1 = 1 then some (q11.1, q11.2) else none)) else (if x2 ≤ 66 then ((g 2 k x1 x2 0 q6.2).bind fun q15 => (if q15.1 = 0 ∨ q15.1 = 1 then some (q15.1, q15.2) else none)) else ((f_X1_fail (bo k + 16) 4 x1 q6.2).bind fun q18 => (if q18.1 = 0 ∨ q18.1 = 1 then some (q18.1, q18.2) else none))))))))))
set_option maxHeartbeats 4000000 in
set_option maxRecDepth 20000 in
theorem c_X0_obtain {k : Nat} {x1 : Int32} {x2 : Int32} {g : GT} {h : Nat} (G : GG l D tA cI cII cLd cOc b A g h) (hh : 3 ≤ h) (hk : k < 4) {v : fm_T} {q : Int32 × fm_T} (hf : f_X0_obtain g k x1 x2 v = some q) : fm_M l D (fm_tys cI cII cLd cOc) tA b 305 (shC cI cII cLd cOc b) A yX0_obtain cX0_obtain 3 (some .boolean) (h + 1) [.ref (b + (lo k)), .int x1, .int x2] v (some (.int q.1)) q.2 := by
  refine fm_entry (by decide) (Nat.le_of_ble_eq_true rfl) ?_
  intro p e R s m args below meth c C hr hk0 hF hLo
  unfold f_X0_obtain at hf
  show fm_V p l e R s m args below meth c D b 305 (shC cI cII cLd cOc b) A _ 3 0 [(0, .ref (b + (lo k))), (1, .int x1), (2, .int x2)] [] v
  refine fm_aload_n C dX0_obtain_0 rfl 0 rfl 1 rfl ?_
  refine fm_get C (t := lo k) (lo_lt hk) ((shC_lo hk) _) rfl inG_X0 0 (by decide) F_X0_34 rfl dX0_obtain_1 4 rfl ?_
  refine fm_iload_n C dX0_obtain_4 rfl 1 rfl 5 rfl ?_
  obtain ⟨q2, h1, hf⟩ := Option.bind_eq_some_iff.mp hf
  refine fm_callN C Y_X2_hasConstant (t := 1) (by decide) (shC_1 _) rfl LN_X0_51 (As := [.int x1]) (rest := []) (c_X2_hasConstant  h1) (by omega) (by omega) rfl (Nat.le_of_ble_eq_true rfl) dX0_obtain_5 8 rfl [.int q2.1] rfl ?_
  refine fm_if_ne C 22 dX0_obtain_8 (by decide) (fun c3 => ?_) 11 rfl (fun c3 => ?_)
  · rw [if_neg c3] at hf
    refine fm_aload_n C dX0_obtain_22 rfl 0 rfl 23 rfl ?_
    refine fm_aload_n C dX0_obtain_23 rfl 0 rfl 24 rfl ?_
    refine fm_get C (t := lo k) (lo_lt hk) ((shC_lo hk) _) rfl inG_X0 0 (by decide) F_X0_34 rfl dX0_obtain_24 27 rfl ?_
    refine fm_getN C (t := 1) (by decide) (shC_1 _) rfl inG_X2 9 (by decide) FN_X0_59 rfl dX0_obtain_27 30 rfl ?_
    refine fm_iload_n C dX0_obtain_30 rfl 1 rfl 31 rfl ?_
    by_cases b4 : x1 < 0 ∨ 40 ≤ x1.toNatClampNeg
    · rw [if_pos b4] at hf; cases hf
    rw [if_neg b4] at hf
    refine fm_iald C (t := 57) (t0 := 0) (by decide) (shC_57 _) rfl b4 dX0_obtain_31 32 rfl ?_
    refine fm_iload_n C dX0_obtain_32 rfl 2 rfl 33 rfl ?_
    refine fm_iconst C (x := 1) dX0_obtain_33 (by decide) 34 rfl ?_
    refine fm_iadd C dX0_obtain_34 35 rfl ?_
    obtain ⟨q6, h5, hf⟩ := Option.bind_eq_some_iff.mp hf
    refine fm_callV C Y_X0_begin (t := lo k) (lo_lt hk) ((shC_lo hk) _) rfl LM_X0_62 (As := [.int (q2.2 57 x1.toNatClampNeg), .int (x2 + 1)]) (rest := []) (G.2.1 hk h5) (by omega) (by omega) rfl (Nat.le_of_ble_eq_true rfl) dX0_obtain_35 38 rfl [.int q6.1] rfl ?_
    refine fm_if_ne C 43 dX0_obtain_38 (by decide) (fun c7 => ?_) 41 rfl (fun c7 => ?_)
    · rw [if_neg c7] at hf
      refine fm_aload_n C dX0_obtain_43 rfl 0 rfl 44 rfl ?_
      refine fm_get C (t := lo k) (lo_lt hk) ((shC_lo hk) _) rfl inG_X0 4 (by decide) F_X0_20 rfl dX0_obtain_44 47 rfl ?_
      refine fm_iload_n C dX0_obtain_47 rfl 1 rfl 48 rfl ?_
      refine fm_iald C (t := bo k + 14) (t0 := 0) (bo_lt hk (by decide)) ((shC_b14 hk) _) rfl b4 dX0_obtain_48 49 rfl ?_
      refine fm_iconst C (x := 2) dX0_obtain_49 (by decide) 50 rfl ?_
      refine fm_icmp_ne C 82 dX0_obtain_50 (by decide) (fun c8 => ?_) 53 rfl (fun c8 => ?_)
      · rw [if_neg c8] at hf
        refine fm_aload_n C dX0_obtain_82 rfl 0 rfl 83 rfl ?_
        refine fm_get C (t := lo k) (lo_lt hk) ((shC_lo hk) _) rfl inG_X0 4 (by decide) F_X0_20 rfl dX0_obtain_83 86 rfl ?_
        refine fm_iload_n C dX0_obtain_86 rfl 1 rfl 87 rfl ?_
        refine fm_iald C (t := bo k + 14) (t0 := 0) (bo_lt hk (by decide)) ((shC_b14 hk) _) rfl b4 dX0_obtain_87 88 rfl ?_
        refine fm_iconst C (x := 1) dX0_obtain_88 (by decide) 89 rfl ?_
        refine fm_icmp_eq C 98 dX0_obtain_89 (by decide) (fun c9 => ?_) 92 rfl (fun c9 => ?_)
        · rw [if_pos c9] at hf
          refine fm_aload_n C dX0_obtain_98 rfl 0 rfl 99 rfl ?_
          refine fm_get C (t := lo k) (lo_lt hk) ((shC_lo hk) _) rfl inG_X0 6 (by decide) F_X0_30 rfl dX0_obtain_99 102 rfl ?_
          refine fm_iconst C (x := 4) dX0_obtain_102 (by decide) 103 rfl ?_
          refine fm_iload_n C dX0_obtain_103 rfl 1 rfl 104 rfl ?_
          obtain ⟨q11, h10, hf⟩ := Option.bind_eq_some_iff.mp hf
          refine fm_callN C Y_X1_fail (t := bo k + 16) (isO_lt (isO_now hk)) ((shC_O (isO_now hk)) _) rfl LN_X0_55 (As := [.int 4, .int x1]) (rest := []) (c_X1_fail (isO_now hk) h10) (by omega) (by omega) rfl (Nat.le_of_ble_eq_true rfl) dX0_obtain_104 107 rfl [.int q11.1] rfl ?_
          by_cases r12 : q11.1 = 0 ∨ q11.1 = 1
          · rw [if_pos r12] at hf
            obtain rfl := Option.some.inj hf
            exact fm_zret C hr hk0 r12 dX0_obtain_107
          · rw [if_neg r12] at hf; cases hf
        · rw [if_neg c9] at hf
          refine fm_iload_n C dX0_obtain_92 rfl 2 rfl 93 rfl ?_
          refine fm_bipush C (x := 66) dX0_obtain_93 (by decide) 95 rfl ?_
          refine fm_icmp_le C 108 dX0_obtain_95 (by decide) (fun c13 => ?_) 98 rfl (fun c13 => ?_)
          · rw [if_pos c13] at hf
            refine fm_aload_n C dX0_obtain_108 rfl 0 rfl 109 rfl ?_
            refine fm_iload_n C dX0_obtain_109 rfl 1 rfl 110 rfl ?_
            refine fm_iload_n C dX0_obtain_110 rfl 2 rfl 111 rfl ?_
            obtain ⟨q15, h14, hf⟩ := Option.bind_eq_some_iff.mp hf
            refine fm_callV C Y_X0_work (t := lo k) (lo_lt hk) ((shC_lo hk) _) rfl LM_X0_69 (As := [.int x1, .int x2]) (rest := []) (G.2.2.1 hk h14) (by omega) (by omega) rfl (Nat.le_of_ble_eq_true rfl) dX0_obtain_111 114 rfl [.int q15.1] rfl ?_
            by_cases r16 : q15.1 = 0 ∨ q15.1 = 1
            · rw [if_pos r16] at hf
              obtain rfl := Option.some.inj hf
              exact fm_zret C hr hk0 r16 dX0_obtain_114
            · rw [if_neg r16] at hf; cases hf
          · rw [if_neg c13] at hf
            refine fm_aload_n C dX0_obtain_98 rfl 0 rfl 99 rfl ?_
            refine fm_get C (t := lo k) (lo_lt hk) ((shC_lo hk) _) rfl inG_X0 6 (by decide) F_X0_30 rfl dX0_obtain_99 102 rfl ?_
            refine fm_iconst C (x := 4) dX0_obtain_102 (by decide) 103 rfl ?_
            refine fm_iload_n C dX0_obtain_103 rfl 1 rfl 104 rfl ?_
            obtain ⟨q18, h17, hf⟩ := Option.bind_eq_some_iff.mp hf
            refine fm_callN C Y_X1_fail (t := bo k + 16) (isO_lt (isO_now hk)) ((shC_O (isO_now hk)) _) rfl LN_X0_55 (As := [.int 4, .int x1]) (rest := []) (c_X1_fail (isO_now hk) h17) (by omega) (by omega) rfl (Nat.le_of_ble_eq_true rfl) dX0_obtain_104 107 rfl [.int q18.1] rfl ?_
            by_cases r19 : q18.1 = 0 ∨ q18.1 = 1
            · rw [if_pos r19] at hf
              obtain rfl := Option.some.inj hf
              exact fm_zret C hr hk0 r19 dX0_obtain_107
            · rw [if_neg r19] at hf; cases hf
      · rw [if_pos c8] at hf
        refine fm_aload_n C dX0_obtain_53 rfl 0 rfl 54 rfl ?_
        refine fm_get C (t := lo k) (lo_lt hk) ((shC_lo hk) _) rfl inG_X0 6 (by decide) F_X0_30 rfl dX0_obtain_54 57 rfl ?_
        refine fm_aload_n C dX0_obtain_57 rfl 0 rfl 58 rfl ?_
        refine fm_get C (t := lo k) (lo_lt hk) ((shC_lo hk) _) rfl inG_X0 5 (by decide) F_X0_25 rfl dX0_obtain_58 61 rfl ?_
        refine fm_iload_n C dX0_obtain_61 rfl 1 rfl 62 rfl ?_
        refine fm_aald C (t := bo k + 15) (t0 := 3) (bo_lt hk (by decide)) ((shC_b15 hk) _) rfl rfl b4 (x := b + (bo k + 17 + x1.toNatClampNeg)) (in_some (g := fun i => b + (bo k + 17 + i)) b4) dX0_obtain_62 63 rfl ?_
        obtain ⟨q21, h20, hf⟩ := Option.bind_eq_some_iff.mp hf
        refine fm_callN C Y_X1_copy (t := bo k + 16) (isO_lt (isO_now hk)) ((shC_O (isO_now hk)) _) rfl LN_X0_65 (As := [.ref (b + (bo k + 17 + x1.toNatClampNeg))]) (rest := []) (c_X1_copy (isO_now hk) (isO_out hk (in_lt b4)) h20) (by omega) (by omega) rfl (Nat.le_of_ble_eq_true rfl) dX0_obtain_63 66 rfl [] rfl ?_
        refine fm_aload_n C dX0_obtain_66 rfl 0 rfl 67 rfl ?_
        refine fm_get C (t := lo k) (lo_lt hk) ((shC_lo hk) _) rfl inG_X0 6 (by decide) F_X0_30 rfl dX0_obtain_67 70 rfl ?_
        refine fm_getN C (t := bo k + 16) (isO_lt (isO_now hk)) ((shC_O (isO_now hk)) _) rfl inG_X1 1 (by decide) FN_X0_42 rfl dX0_obtain_70 73 rfl ?_
        refine fm_if_ne C 80 dX0_obtain_73 (by decide) (fun c22 => ?_) 76 rfl (fun c22 => ?_)
        · rw [if_neg c22] at hf
          refine fm_iconst C (x := 0) dX0_obtain_80 (by decide) 81 rfl ?_
          obtain rfl := Option.some.inj hf
          exact fm_zret C hr hk0 (Or.inl rfl) dX0_obtain_81
        · rw [if_pos c22] at hf
          refine fm_iconst C (x := 1) dX0_obtain_76 (by decide) 77 rfl ?_
          refine fm_goto C 81 dX0_obtain_77 (by decide) ?_
          obtain rfl := Option.some.inj hf
          exact fm_zret C hr hk0 (Or.inr rfl) dX0_obtain_81
    · rw [if_pos c7] at hf
      refine fm_iconst C (x := 0) dX0_obtain_41 (by decide) 42 rfl ?_
      obtain rfl := Option.some.inj hf
      exact fm_zret C hr hk0 (Or.inl rfl) dX0_obtain_42
  · rw [if_pos c3] at hf
    refine fm_aload_n C dX0_obtain_11 rfl 0 rfl 12 rfl ?_
    refine fm_get C (t := lo k) (lo_lt hk) ((shC_lo hk) _) rfl inG_X0 6 (by decide) F_X0_30 rfl dX0_obtain_12 15 rfl ?_
    refine fm_bipush C (x := 8) dX0_obtain_15 (by decide) 17 rfl ?_
    refine fm_iload_n C dX0_obtain_17 rfl 1 rfl 18 rfl ?_
    obtain ⟨q24, h23, hf⟩ := Option.bind_eq_some_iff.mp hf
    refine fm_callN C Y_X1_fail (t := bo k + 16) (isO_lt (isO_now hk)) ((shC_O (isO_now hk)) _) rfl LN_X0_55 (As := [.int 8, .int x1]) (rest := []) (c_X1_fail (isO_now hk) h23) (by omega) (by omega) rfl (Nat.le_of_ble_eq_true rfl) dX0_obtain_18 21 rfl [.int q24.1] rfl ?_
    by_cases r25 : q24.1 = 0 ∨ q24.1 = 1
    · rw [if_pos r25] at hf
      obtain rfl := Option.some.inj hf
      exact fm_zret C hr hk0 r25 dX0_obtain_21
    · rw [if_neg r25] at hf; cases hf
def f_X0_begin (g : GT) (k : Nat) (x1 : Int32) (x2 : Int32) (v : fm_T) : Option (Int32 × fm_T) := (if x1 < 0 ∨ 12 ≤ x1.toNatClampNeg then none else (if v (bo k) x1.toNatClampNeg = 1 then some (1, v) else (if v (bo k) x1.toNatClampNeg = 2 then some (1, v) else (if v (bo k) x1.toNatClampNeg = 3 then ((f_X1_fail (bo k + 16) 6 x1 v).bind fun q6 => (if q6.1 = 0 ∨ q6.1 = 1 then some (q6.1, q6.2) else none)) else (if x2 ≤ 66 then ((some (fm_u v (bo k) x1.toNatClampNeg 2) : Option fm_T).bind fun m10 => ((f_X3_note k 0 x1 m10).bind fun q12 => ((some (va_up q12.2 (bo k + 2 + x1.toNatClampNeg) (va_cpy (q12.2 (4 + x1.toNatClampNeg)) (q12.2 (bo k + 2 + x1.toNatClampNeg)) ((0 : Int32).toNatClampNeg) ((0 : Int32).toNatClampNeg) ((8 : Int32).toNatClampNeg))) : Option fm_T).bind fun m14 => ((g 6 k x1 (x2 + 1) 0 m14).bind fun q16 => (if q16.1 = 0 then ((some (fm_u q16.2 (bo k) x1.toNatClampNeg 3) : Option fm_T).bind fun m19 => ((f_X3_note k 2 x1 m19).bind fun q21 => ((f_X1_failStart (bo k + 16) x1 q21.2).bind fun q23 => (if q23.1 = 0 then some (0, q23.2) else some (1, q23.2))))) else ((g 7 k x1 (x2 + 1) 0 q16.2).bind fun q26 => (if q26.1 = 0 then ((some (fm_u q26.2 (bo k) x1.toNatClampNeg 3) : Option fm_T).bind fun m29 => ((f_X3_note k 2 x1 m29).bind fun q31 => ((f_X1_failStart (bo k + 16) x1 q31.2).bind fun q33 => (if q33.1 = 0 then some (0, q33.2) else some (1, q33.2))))) else ((some (fm_u q26.2 (bo k) x1.toNatClampNeg 1) : Option fm_T).bind fun m36 => ((f_X3_note k 1 x1 m36).bind fun q38 => some (1, q38.2)))))))))) else ((f_X1_fail (bo k + 16) 6 x1 v).bind fun q40 => (if q40.1 = 0 ∨ q40.1 = 1 then some (q40.1, q40.2) else none)))))))
set_option maxHeartbeats 4000000 in
set_option maxRecDepth 20000 in
theorem c_X0_begin {k : Nat} {x1 : Int32} {x2 : Int32} {g : GT} {h : Nat} (G : GG l D tA cI cII cLd cOc b A g h) (hh : 3 ≤ h) (hk : k < 4) {v : fm_T} {q : Int32 × fm_T} (hf : f_X0_begin g k x1 x2 v = some q) : fm_M l D (fm_tys cI cII cLd cOc) tA b 305 (shC cI cII cLd cOc b) A yX0_begin cX0_begin 4 (some .boolean) (h + 1) [.ref (b + (lo k)), .int x1, .int x2] v (some (.int q.1)) q.2 := by
  refine fm_entry (by decide) (Nat.le_of_ble_eq_true rfl) ?_
  intro p e R s m args below meth c C hr hk0 hF hLo
  unfold f_X0_begin at hf
  show fm_V p l e R s m args below meth c D b 305 (shC cI cII cLd cOc b) A _ 4 0 [(0, .ref (b + (lo k))), (1, .int x1), (2, .int x2)] [] v
  refine fm_aload_n C dX0_begin_0 rfl 0 rfl 1 rfl ?_
  refine fm_get C (t := lo k) (lo_lt hk) ((shC_lo hk) _) rfl inG_X0 2 (by decide) F_X0_9 rfl dX0_begin_1 4 rfl ?_
  refine fm_iload_n C dX0_begin_4 rfl 1 rfl 5 rfl ?_
  by_cases b1 : x1 < 0 ∨ 12 ≤ x1.toNatClampNeg
  · rw [if_pos b1] at hf; cases hf
  rw [if_neg b1] at hf
  refine fm_iald C (t := bo k) (t0 := 0) (bo_lt (j := 0) hk (by decide)) ((shC_b0 hk) _) rfl b1 dX0_begin_5 6 rfl ?_
  refine fm_iconst C (x := 1) dX0_begin_6 (by decide) 7 rfl ?_
  refine fm_icmp_eq C 20 dX0_begin_7 (by decide) (fun c2 => ?_) 10 rfl (fun c2 => ?_)
  · rw [if_pos c2] at hf
    refine fm_iconst C (x := 1) dX0_begin_20 (by decide) 21 rfl ?_
    obtain rfl := Option.some.inj hf
    exact fm_zret C hr hk0 (Or.inr rfl) dX0_begin_21
  · rw [if_neg c2] at hf
    refine fm_aload_n C dX0_begin_10 rfl 0 rfl 11 rfl ?_
    refine fm_get C (t := lo k) (lo_lt hk) ((shC_lo hk) _) rfl inG_X0 2 (by decide) F_X0_9 rfl dX0_begin_11 14 rfl ?_
    refine fm_iload_n C dX0_begin_14 rfl 1 rfl 15 rfl ?_
    refine fm_iald C (t := bo k) (t0 := 0) (bo_lt (j := 0) hk (by decide)) ((shC_b0 hk) _) rfl b1 dX0_begin_15 16 rfl ?_
    refine fm_iconst C (x := 2) dX0_begin_16 (by decide) 17 rfl ?_
    refine fm_icmp_ne C 22 dX0_begin_17 (by decide) (fun c3 => ?_) 20 rfl (fun c3 => ?_)
    · rw [if_neg c3] at hf
      refine fm_aload_n C dX0_begin_22 rfl 0 rfl 23 rfl ?_
      refine fm_get C (t := lo k) (lo_lt hk) ((shC_lo hk) _) rfl inG_X0 2 (by decide) F_X0_9 rfl dX0_begin_23 26 rfl ?_
      refine fm_iload_n C dX0_begin_26 rfl 1 rfl 27 rfl ?_
      refine fm_iald C (t := bo k) (t0 := 0) (bo_lt (j := 0) hk (by decide)) ((shC_b0 hk) _) rfl b1 dX0_begin_27 28 rfl ?_
      refine fm_iconst C (x := 3) dX0_begin_28 (by decide) 29 rfl ?_
      refine fm_icmp_eq C 38 dX0_begin_29 (by decide) (fun c4 => ?_) 32 rfl (fun c4 => ?_)
      · rw [if_pos c4] at hf
        refine fm_aload_n C dX0_begin_38 rfl 0 rfl 39 rfl ?_
        refine fm_get C (t := lo k) (lo_lt hk) ((shC_lo hk) _) rfl inG_X0 6 (by decide) F_X0_30 rfl dX0_begin_39 42 rfl ?_
        refine fm_bipush C (x := 6) dX0_begin_42 (by decide) 44 rfl ?_
        refine fm_iload_n C dX0_begin_44 rfl 1 rfl 45 rfl ?_
        obtain ⟨q6, h5, hf⟩ := Option.bind_eq_some_iff.mp hf
        refine fm_callN C Y_X1_fail (t := bo k + 16) (isO_lt (isO_now hk)) ((shC_O (isO_now hk)) _) rfl LN_X0_55 (As := [.int 6, .int x1]) (rest := []) (c_X1_fail (isO_now hk) h5) (by omega) (by omega) rfl (Nat.le_of_ble_eq_true rfl) dX0_begin_45 48 rfl [.int q6.1] rfl ?_
        by_cases r7 : q6.1 = 0 ∨ q6.1 = 1
        · rw [if_pos r7] at hf
          obtain rfl := Option.some.inj hf
          exact fm_zret C hr hk0 r7 dX0_begin_48
        · rw [if_neg r7] at hf; cases hf
      · rw [if_neg c4] at hf
        refine fm_iload_n C dX0_begin_32 rfl 2 rfl 33 rfl ?_
        refine fm_bipush C (x := 66) dX0_begin_33 (by decide) 35 rfl ?_
        refine fm_icmp_le C 49 dX0_begin_35 (by decide) (fun c8 => ?_) 38 rfl (fun c8 => ?_)
        · rw [if_pos c8] at hf
          refine fm_aload_n C dX0_begin_49 rfl 0 rfl 50 rfl ?_
          refine fm_get C (t := lo k) (lo_lt hk) ((shC_lo hk) _) rfl inG_X0 2 (by decide) F_X0_9 rfl dX0_begin_50 53 rfl ?_
          refine fm_iload_n C dX0_begin_53 rfl 1 rfl 54 rfl ?_
          refine fm_iconst C (x := 2) dX0_begin_54 (by decide) 55 rfl ?_
          obtain ⟨m10, e9, hf⟩ := Option.bind_eq_some_iff.mp hf
          refine fm_iast C (t := bo k) (t0 := 0) (bo_lt (j := 0) hk (by decide)) (shC_b0 hk) rfl b1 dX0_begin_55 56 rfl m10 (Option.some.inj e9) ?_
          refine fm_aload_n C dX0_begin_56 rfl 0 rfl 57 rfl ?_
          refine fm_get C (t := lo k) (lo_lt hk) ((shC_lo hk) _) rfl inG_X0 1 (by decide) F_X0_38 rfl dX0_begin_57 60 rfl ?_
          refine fm_iconst C (x := 0) dX0_begin_60 (by decide) 61 rfl ?_
          refine fm_iload_n C dX0_begin_61 rfl 1 rfl 62 rfl ?_
          obtain ⟨q12, h11, hf⟩ := Option.bind_eq_some_iff.mp hf
          refine fm_callN C Y_X3_note (t := ev k) (ev_lt (j := 0) hk (by decide)) ((shC_ev hk) _) rfl LN_X0_75 (As := [.int 0, .int x1]) (rest := []) (c_X3_note hk h11) (by omega) (by omega) rfl (Nat.le_of_ble_eq_true rfl) dX0_begin_62 65 rfl [] rfl ?_
          refine fm_aload_n C dX0_begin_65 rfl 0 rfl 66 rfl ?_
          refine fm_get C (t := lo k) (lo_lt hk) ((shC_lo hk) _) rfl inG_X0 0 (by decide) F_X0_34 rfl dX0_begin_66 69 rfl ?_
          refine fm_getN C (t := 1) (by decide) (shC_1 _) rfl inG_X2 2 (by decide) FN_X0_46 rfl dX0_begin_69 72 rfl ?_
          refine fm_iload_n C dX0_begin_72 rfl 1 rfl 73 rfl ?_
          refine fm_aald C (t := 3) (t0 := 1) (by decide) (shC_3 _) rfl rfl b1 (x := b + (4 + x1.toNatClampNeg)) (in_some (g := fun i => b + (4 + i)) b1) dX0_begin_73 74 rfl ?_
          refine fm_iconst C (x := 0) dX0_begin_74 (by decide) 75 rfl ?_
          refine fm_aload_n C dX0_begin_75 rfl 0 rfl 76 rfl ?_
          refine fm_get C (t := lo k) (lo_lt hk) ((shC_lo hk) _) rfl inG_X0 3 (by decide) F_X0_17 rfl dX0_begin_76 79 rfl ?_
          refine fm_iload_n C dX0_begin_79 rfl 1 rfl 80 rfl ?_
          refine fm_aald C (t := bo k + 1) (t0 := 1) (bo_lt hk (by decide)) ((shC_b1 hk) _) rfl rfl b1 (x := b + (bo k + 2 + x1.toNatClampNeg)) (in_some (g := fun i => b + (bo k + 2 + i)) b1) dX0_begin_80 81 rfl ?_
          refine fm_iconst C (x := 0) dX0_begin_81 (by decide) 82 rfl ?_
          refine fm_bipush C (x := 8) dX0_begin_82 (by decide) 84 rfl ?_
          obtain ⟨m14, e13, hf⟩ := Option.bind_eq_some_iff.mp hf
          refine fm_copy C (t0 := 4 + x1.toNatClampNeg) (t1 := bo k + 2 + x1.toNatClampNeg) (j0 := 0) (by have := in_lt b1; omega) (row_lt hk (in_lt b1)) ((shC_r4 (in_lt b1)) _) (shC_row hk (in_lt b1)) rfl FA_X0_125 cp_nat cp_stat cp_ini (sp := 0) (dp := 0) (n := 8) (by decide) (by decide) (by decide) (by decide) (by decide) (by omega) (Nat.le_trans (show _ ≤ 40 by decide) (by omega)) dX0_begin_84 87 rfl m14 (Option.some.inj e13) ?_
          refine fm_aload_n C dX0_begin_87 rfl 0 rfl 88 rfl ?_
          refine fm_iload_n C dX0_begin_88 rfl 1 rfl 89 rfl ?_
          refine fm_iload_n C dX0_begin_89 rfl 2 rfl 90 rfl ?_
          refine fm_iconst C (x := 1) dX0_begin_90 (by decide) 91 rfl ?_
          refine fm_iadd C dX0_begin_91 92 rfl ?_
          obtain ⟨q16, h15, hf⟩ := Option.bind_eq_some_iff.mp hf
          refine fm_callV C Y_X0_beginUsed (t := lo k) (lo_lt hk) ((shC_lo hk) _) rfl LM_X0_131 (As := [.int x1, .int (x2 + 1)]) (rest := []) (G.2.2.2.2.2.2.1 hk h15) (by omega) (by omega) rfl (Nat.le_of_ble_eq_true rfl) dX0_begin_92 95 rfl [.int q16.1] rfl ?_
          refine fm_if_eq C 113 dX0_begin_95 (by decide) (fun c17 => ?_) 98 rfl (fun c17 => ?_)
          · rw [if_pos c17] at hf
            refine fm_iconst C (x := 0) dX0_begin_113 (by decide) 114 rfl ?_
            refine fm_istore_n C [(3, .int 0), (0, .ref (b + (lo k))), (1, .int x1), (2, .int x2)] dX0_begin_114 rfl (by decide) rfl 115 rfl ?_
            refine fm_aload_n C dX0_begin_115 rfl 1 rfl 116 rfl ?_
            refine fm_get C (t := lo k) (lo_lt hk) ((shC_lo hk) _) rfl inG_X0 2 (by decide) F_X0_9 rfl dX0_begin_116 119 rfl ?_
            refine fm_iload_n C dX0_begin_119 rfl 2 rfl 120 rfl ?_
            refine fm_iload_n C dX0_begin_120 rfl 0 rfl 121 rfl ?_
            refine fm_if_eq C 128 dX0_begin_121 (by decide) (fun _ => ?_) 124 rfl (fun c0 => absurd c0 (by decide))
            refine fm_iconst C (x := 3) dX0_begin_128 (by decide) 129 rfl ?_
            obtain ⟨m19, e18, hf⟩ := Option.bind_eq_some_iff.mp hf
            refine fm_iast C (t := bo k) (t0 := 0) (bo_lt (j := 0) hk (by decide)) (shC_b0 hk) rfl b1 dX0_begin_129 130 rfl m19 (Option.some.inj e18) ?_
            refine fm_aload_n C dX0_begin_130 rfl 1 rfl 131 rfl ?_
            refine fm_get C (t := lo k) (lo_lt hk) ((shC_lo hk) _) rfl inG_X0 1 (by decide) F_X0_38 rfl dX0_begin_131 134 rfl ?_
            refine fm_iload_n C dX0_begin_134 rfl 0 rfl 135 rfl ?_
            refine fm_if_eq C 142 dX0_begin_135 (by decide) (fun _ => ?_) 138 rfl (fun c0 => absurd c0 (by decide))
            refine fm_iconst C (x := 2) dX0_begin_142 (by decide) 143 rfl ?_
            refine fm_iload_n C dX0_begin_143 rfl 2 rfl 144 rfl ?_
            obtain ⟨q21, h20, hf⟩ := Option.bind_eq_some_iff.mp hf
            refine fm_callN C Y_X3_note (t := ev k) (ev_lt (j := 0) hk (by decide)) ((shC_ev hk) _) rfl LN_X0_75 (As := [.int 2, .int x1]) (rest := []) (c_X3_note hk h20) (by omega) (by omega) rfl (Nat.le_of_ble_eq_true rfl) dX0_begin_144 147 rfl [] rfl ?_
            refine fm_iload_n C dX0_begin_147 rfl 0 rfl 148 rfl ?_
            refine fm_if_ne C 162 dX0_begin_148 (by decide) (fun c0 => absurd c0 (by decide)) 151 rfl (fun _ => ?_)
            refine fm_aload_n C dX0_begin_151 rfl 1 rfl 152 rfl ?_
            refine fm_get C (t := lo k) (lo_lt hk) ((shC_lo hk) _) rfl inG_X0 6 (by decide) F_X0_30 rfl dX0_begin_152 155 rfl ?_
            refine fm_iload_n C dX0_begin_155 rfl 2 rfl 156 rfl ?_
            obtain ⟨q23, h22, hf⟩ := Option.bind_eq_some_iff.mp hf
            refine fm_callN C Y_X1_failStart (t := bo k + 16) (isO_lt (isO_now hk)) ((shC_O (isO_now hk)) _) rfl LN_X0_137 (As := [.int x1]) (rest := []) (c_X1_failStart (isO_now hk) h22) (by omega) (by omega) rfl (Nat.le_of_ble_eq_true rfl) dX0_begin_156 159 rfl [.int q23.1] rfl ?_
            refine fm_if_eq C 166 dX0_begin_159 (by decide) (fun c24 => ?_) 162 rfl (fun c24 => ?_)
            · rw [if_pos c24] at hf
              refine fm_iconst C (x := 0) dX0_begin_166 (by decide) 167 rfl ?_
              obtain rfl := Option.some.inj hf
              exact fm_zret C hr hk0 (Or.inl rfl) dX0_begin_167
            · rw [if_neg c24] at hf
              refine fm_iconst C (x := 1) dX0_begin_162 (by decide) 163 rfl ?_
              refine fm_goto C 167 dX0_begin_163 (by decide) ?_
              obtain rfl := Option.some.inj hf
              exact fm_zret C hr hk0 (Or.inr rfl) dX0_begin_167
          · rw [if_neg c17] at hf
            refine fm_aload_n C dX0_begin_98 rfl 0 rfl 99 rfl ?_
            refine fm_iload_n C dX0_begin_99 rfl 1 rfl 100 rfl ?_
            refine fm_iload_n C dX0_begin_100 rfl 2 rfl 101 rfl ?_
            refine fm_iconst C (x := 1) dX0_begin_101 (by decide) 102 rfl ?_
            refine fm_iadd C dX0_begin_102 103 rfl ?_
            obtain ⟨q26, h25, hf⟩ := Option.bind_eq_some_iff.mp hf
            refine fm_callV C Y_X0_doDeeds (t := lo k) (lo_lt hk) ((shC_lo hk) _) rfl LM_X0_134 (As := [.int x1, .int (x2 + 1)]) (rest := []) (G.2.2.2.2.2.2.2.1 hk h25) (by omega) (by omega) rfl (Nat.le_of_ble_eq_true rfl) dX0_begin_103 106 rfl [.int q26.1] rfl ?_
            refine fm_if_eq C 113 dX0_begin_106 (by decide) (fun c27 => ?_) 109 rfl (fun c27 => ?_)
            · rw [if_pos c27] at hf
              refine fm_iconst C (x := 0) dX0_begin_113 (by decide) 114 rfl ?_
              refine fm_istore_n C [(3, .int 0), (0, .ref (b + (lo k))), (1, .int x1), (2, .int x2)] dX0_begin_114 rfl (by decide) rfl 115 rfl ?_
              refine fm_aload_n C dX0_begin_115 rfl 1 rfl 116 rfl ?_
              refine fm_get C (t := lo k) (lo_lt hk) ((shC_lo hk) _) rfl inG_X0 2 (by decide) F_X0_9 rfl dX0_begin_116 119 rfl ?_
              refine fm_iload_n C dX0_begin_119 rfl 2 rfl 120 rfl ?_
              refine fm_iload_n C dX0_begin_120 rfl 0 rfl 121 rfl ?_
              refine fm_if_eq C 128 dX0_begin_121 (by decide) (fun _ => ?_) 124 rfl (fun c0 => absurd c0 (by decide))
              refine fm_iconst C (x := 3) dX0_begin_128 (by decide) 129 rfl ?_
              obtain ⟨m29, e28, hf⟩ := Option.bind_eq_some_iff.mp hf
              refine fm_iast C (t := bo k) (t0 := 0) (bo_lt (j := 0) hk (by decide)) (shC_b0 hk) rfl b1 dX0_begin_129 130 rfl m29 (Option.some.inj e28) ?_
              refine fm_aload_n C dX0_begin_130 rfl 1 rfl 131 rfl ?_
              refine fm_get C (t := lo k) (lo_lt hk) ((shC_lo hk) _) rfl inG_X0 1 (by decide) F_X0_38 rfl dX0_begin_131 134 rfl ?_
              refine fm_iload_n C dX0_begin_134 rfl 0 rfl 135 rfl ?_
              refine fm_if_eq C 142 dX0_begin_135 (by decide) (fun _ => ?_) 138 rfl (fun c0 => absurd c0 (by decide))
              refine fm_iconst C (x := 2) dX0_begin_142 (by decide) 143 rfl ?_
              refine fm_iload_n C dX0_begin_143 rfl 2 rfl 144 rfl ?_
              obtain ⟨q31, h30, hf⟩ := Option.bind_eq_some_iff.mp hf
              refine fm_callN C Y_X3_note (t := ev k) (ev_lt (j := 0) hk (by decide)) ((shC_ev hk) _) rfl LN_X0_75 (As := [.int 2, .int x1]) (rest := []) (c_X3_note hk h30) (by omega) (by omega) rfl (Nat.le_of_ble_eq_true rfl) dX0_begin_144 147 rfl [] rfl ?_
              refine fm_iload_n C dX0_begin_147 rfl 0 rfl 148 rfl ?_
              refine fm_if_ne C 162 dX0_begin_148 (by decide) (fun c0 => absurd c0 (by decide)) 151 rfl (fun _ => ?_)
              refine fm_aload_n C dX0_begin_151 rfl 1 rfl 152 rfl ?_
              refine fm_get C (t := lo k) (lo_lt hk) ((shC_lo hk) _) rfl inG_X0 6 (by decide) F_X0_30 rfl dX0_begin_152 155 rfl ?_
              refine fm_iload_n C dX0_begin_155 rfl 2 rfl 156 rfl ?_
              obtain ⟨q33, h32, hf⟩ := Option.bind_eq_some_iff.mp hf
              refine fm_callN C Y_X1_failStart (t := bo k + 16) (isO_lt (isO_now hk)) ((shC_O (isO_now hk)) _) rfl LN_X0_137 (As := [.int x1]) (rest := []) (c_X1_failStart (isO_now hk) h32) (by omega) (by omega) rfl (Nat.le_of_ble_eq_true rfl) dX0_begin_156 159 rfl [.int q33.1] rfl ?_
              refine fm_if_eq C 166 dX0_begin_159 (by decide) (fun c34 => ?_) 162 rfl (fun c34 => ?_)
              · rw [if_pos c34] at hf
                refine fm_iconst C (x := 0) dX0_begin_166 (by decide) 167 rfl ?_
                obtain rfl := Option.some.inj hf
                exact fm_zret C hr hk0 (Or.inl rfl) dX0_begin_167
              · rw [if_neg c34] at hf
                refine fm_iconst C (x := 1) dX0_begin_162 (by decide) 163 rfl ?_
                refine fm_goto C 167 dX0_begin_163 (by decide) ?_
                obtain rfl := Option.some.inj hf
                exact fm_zret C hr hk0 (Or.inr rfl) dX0_begin_167
            · rw [if_neg c27] at hf
              refine fm_iconst C (x := 1) dX0_begin_109 (by decide) 110 rfl ?_
              refine fm_goto C 114 dX0_begin_110 (by decide) ?_
              refine fm_istore_n C [(3, .int 1), (0, .ref (b + (lo k))), (1, .int x1), (2, .int x2)] dX0_begin_114 rfl (by decide) rfl 115 rfl ?_
              refine fm_aload_n C dX0_begin_115 rfl 1 rfl 116 rfl ?_
              refine fm_get C (t := lo k) (lo_lt hk) ((shC_lo hk) _) rfl inG_X0 2 (by decide) F_X0_9 rfl dX0_begin_116 119 rfl ?_
              refine fm_iload_n C dX0_begin_119 rfl 2 rfl 120 rfl ?_
              refine fm_iload_n C dX0_begin_120 rfl 0 rfl 121 rfl ?_
              refine fm_if_eq C 128 dX0_begin_121 (by decide) (fun c0 => absurd c0 (by decide)) 124 rfl (fun _ => ?_)
              refine fm_iconst C (x := 1) dX0_begin_124 (by decide) 125 rfl ?_
              refine fm_goto C 129 dX0_begin_125 (by decide) ?_
              obtain ⟨m36, e35, hf⟩ := Option.bind_eq_some_iff.mp hf
              refine fm_iast C (t := bo k) (t0 := 0) (bo_lt (j := 0) hk (by decide)) (shC_b0 hk) rfl b1 dX0_begin_129 130 rfl m36 (Option.some.inj e35) ?_
              refine fm_aload_n C dX0_begin_130 rfl 1 rfl 131 rfl ?_
              refine fm_get C (t := lo k) (lo_lt hk) ((shC_lo hk) _) rfl inG_X0 1 (by decide) F_X0_38 rfl dX0_begin_131 134 rfl ?_
              refine fm_iload_n C dX0_begin_134 rfl 0 rfl 135 rfl ?_
              refine fm_if_eq C 142 dX0_begin_135 (by decide) (fun c0 => absurd c0 (by decide)) 138 rfl (fun _ => ?_)
              refine fm_iconst C (x := 1) dX0_begin_138 (by decide) 139 rfl ?_
              refine fm_goto C 143 dX0_begin_139 (by decide) ?_
              refine fm_iload_n C dX0_begin_143 rfl 2 rfl 144 rfl ?_
              obtain ⟨q38, h37, hf⟩ := Option.bind_eq_some_iff.mp hf
              refine fm_callN C Y_X3_note (t := ev k) (ev_lt (j := 0) hk (by decide)) ((shC_ev hk) _) rfl LN_X0_75 (As := [.int 1, .int x1]) (rest := []) (c_X3_note hk h37) (by omega) (by omega) rfl (Nat.le_of_ble_eq_true rfl) dX0_begin_144 147 rfl [] rfl ?_
              refine fm_iload_n C dX0_begin_147 rfl 0 rfl 148 rfl ?_
              refine fm_if_ne C 162 dX0_begin_148 (by decide) (fun _ => ?_) 151 rfl (fun c0 => absurd c0 (by decide))
              refine fm_iconst C (x := 1) dX0_begin_162 (by decide) 163 rfl ?_
              refine fm_goto C 167 dX0_begin_163 (by decide) ?_
              obtain rfl := Option.some.inj hf
              exact fm_zret C hr hk0 (Or.inr rfl) dX0_begin_167
        · rw [if_neg c8] at hf
          refine fm_aload_n C dX0_begin_38 rfl 0 rfl 39 rfl ?_
          refine fm_get C (t := lo k) (lo_lt hk) ((shC_lo hk) _) rfl inG_X0 6 (by decide) F_X0_30 rfl dX0_begin_39 42 rfl ?_
          refine fm_bipush C (x := 6) dX0_begin_42 (by decide) 44 rfl ?_
          refine fm_iload_n C dX0_begin_44 rfl 1 rfl 45 rfl ?_
          obtain ⟨q40, h39, hf⟩ := Option.bind_eq_some_iff.mp hf
          refine fm_callN C Y_X1_fail (t := bo k + 16) (isO_lt (isO_now hk)) ((shC_O (isO_now hk)) _) rfl LN_X0_55 (As := [.int 6, .int x1]) (rest := []) (c_X1_fail (isO_now hk) h39) (by omega) (by omega) rfl (Nat.le_of_ble_eq_true rfl) dX0_begin_45 48 rfl [.int q40.1] rfl ?_
          by_cases r41 : q40.1 = 0 ∨ q40.1 = 1
          · rw [if_pos r41] at hf
            obtain rfl := Option.some.inj hf
            exact fm_zret C hr hk0 r41 dX0_begin_48
          · rw [if_neg r41] at hf; cases hf
    · rw [if_pos c3] at hf
      refine fm_iconst C (x := 1) dX0_begin_20 (by decide) 21 rfl ?_
      obtain rfl := Option.some.inj hf
      exact fm_zret C hr hk0 (Or.inr rfl) dX0_begin_21
def f_X0_work (g : GT) (k : Nat) (x1 : Int32) (x2 : Int32) (v : fm_T) : Option (Int32 × fm_T) := (if x1 < 0 ∨ 40 ≤ x1.toNatClampNeg then none else ((some (fm_u v (bo k + 14) x1.toNatClampNeg 1) : Option fm_T).bind fun m3 => ((some (fm_u m3 (lo k) 7 ((m3 (lo k) 7) + 1)) : Option fm_T).bind fun m5 => ((f_X3_note k 3 x1 m5).bind fun q7 => ((g 3 k x1 (x2 + 1) 0 q7.2).bind fun q9 => ((f_X1_copy (bo k + 17 + x1.toNatClampNeg) (bo k + 16) q9.2).bind fun q11 => ((some (fm_u q11.2 (bo k + 14) x1.toNatClampNeg 2) : Option fm_T).bind fun m13 => (if q9.1 = 0 then ((f_X3_note k 5 x1 m13).bind fun q16 => (if q9.1 = 0 ∨ q9.1 = 1 then some (q9.1, q16.2) else none)) else ((f_X3_note k 4 x1 m13).bind fun q19 => (if q9.1 = 0 ∨ q9.1 = 1 then some (q9.1, q19.2) else none))))))))))
set_option maxHeartbeats 4000000 in
set_option maxRecDepth 20000 in
theorem c_X0_work {k : Nat} {x1 : Int32} {x2 : Int32} {g : GT} {h : Nat} (G : GG l D tA cI cII cLd cOc b A g h) (hh : 3 ≤ h) (hk : k < 4) {v : fm_T} {q : Int32 × fm_T} (hf : f_X0_work g k x1 x2 v = some q) : fm_M l D (fm_tys cI cII cLd cOc) tA b 305 (shC cI cII cLd cOc b) A yX0_work cX0_work 4 (some .boolean) (h + 1) [.ref (b + (lo k)), .int x1, .int x2] v (some (.int q.1)) q.2 := by
  refine fm_entry (by decide) (Nat.le_of_ble_eq_true rfl) ?_
  intro p e R s m args below meth c C hr hk0 hF hLo
  unfold f_X0_work at hf
  show fm_V p l e R s m args below meth c D b 305 (shC cI cII cLd cOc b) A _ 4 0 [(0, .ref (b + (lo k))), (1, .int x1), (2, .int x2)] [] v
  refine fm_aload_n C dX0_work_0 rfl 0 rfl 1 rfl ?_
  refine fm_get C (t := lo k) (lo_lt hk) ((shC_lo hk) _) rfl inG_X0 4 (by decide) F_X0_20 rfl dX0_work_1 4 rfl ?_
  refine fm_iload_n C dX0_work_4 rfl 1 rfl 5 rfl ?_
  refine fm_iconst C (x := 1) dX0_work_5 (by decide) 6 rfl ?_
  by_cases b1 : x1 < 0 ∨ 40 ≤ x1.toNatClampNeg
  · rw [if_pos b1] at hf; cases hf
  rw [if_neg b1] at hf
  obtain ⟨m3, e2, hf⟩ := Option.bind_eq_some_iff.mp hf
  refine fm_iast C (t := bo k + 14) (t0 := 0) (bo_lt hk (by decide)) (shC_b14 hk) rfl b1 dX0_work_6 7 rfl m3 (Option.some.inj e2) ?_
  refine fm_aload_n C dX0_work_7 rfl 0 rfl 8 rfl ?_
  refine fm_dup C dX0_work_8 rfl 9 rfl ?_
  refine fm_get C (t := lo k) (lo_lt hk) ((shC_lo hk) _) rfl inG_X0 7 (by decide) F_X0_72 rfl dX0_work_9 12 rfl ?_
  refine fm_iconst C (x := 1) dX0_work_12 (by decide) 13 rfl ?_
  refine fm_iadd C dX0_work_13 14 rfl ?_
  obtain ⟨m5, e4, hf⟩ := Option.bind_eq_some_iff.mp hf
  refine fm_put C (t := lo k) (lo_lt hk) ((shC_lo hk) _) rfl inG_X0 7 (by decide) F_X0_72 tyX0 tyX0_ok nmX0 rfl (ty := .int) (by decide +kernel) rfl rfl (Nat.le_of_ble_eq_true rfl) (((shC_lo hk) _).trans rfl) dX0_work_14 17 rfl m5 (Option.some.inj e4) ?_
  refine fm_aload_n C dX0_work_17 rfl 0 rfl 18 rfl ?_
  refine fm_get C (t := lo k) (lo_lt hk) ((shC_lo hk) _) rfl inG_X0 1 (by decide) F_X0_38 rfl dX0_work_18 21 rfl ?_
  refine fm_iconst C (x := 3) dX0_work_21 (by decide) 22 rfl ?_
  refine fm_iload_n C dX0_work_22 rfl 1 rfl 23 rfl ?_
  obtain ⟨q7, h6, hf⟩ := Option.bind_eq_some_iff.mp hf
  refine fm_callN C Y_X3_note (t := ev k) (ev_lt (j := 0) hk (by decide)) ((shC_ev hk) _) rfl LN_X0_75 (As := [.int 3, .int x1]) (rest := []) (c_X3_note hk h6) (by omega) (by omega) rfl (Nat.le_of_ble_eq_true rfl) dX0_work_23 26 rfl [] rfl ?_
  refine fm_aload_n C dX0_work_26 rfl 0 rfl 27 rfl ?_
  refine fm_iload_n C dX0_work_27 rfl 1 rfl 28 rfl ?_
  refine fm_iload_n C dX0_work_28 rfl 2 rfl 29 rfl ?_
  refine fm_iconst C (x := 1) dX0_work_29 (by decide) 30 rfl ?_
  refine fm_iadd C dX0_work_30 31 rfl ?_
  obtain ⟨q9, h8, hf⟩ := Option.bind_eq_some_iff.mp hf
  refine fm_callV C Y_X0_reckon (t := lo k) (lo_lt hk) ((shC_lo hk) _) rfl LM_X0_81 (As := [.int x1, .int (x2 + 1)]) (rest := []) (G.2.2.2.1 hk h8) (by omega) (by omega) rfl (Nat.le_of_ble_eq_true rfl) dX0_work_31 34 rfl [.int q9.1] rfl ?_
  refine fm_istore_n C [(3, .int q9.1), (0, .ref (b + (lo k))), (1, .int x1), (2, .int x2)] dX0_work_34 rfl (by decide) rfl 35 rfl ?_
  refine fm_aload_n C dX0_work_35 rfl 1 rfl 36 rfl ?_
  refine fm_get C (t := lo k) (lo_lt hk) ((shC_lo hk) _) rfl inG_X0 5 (by decide) F_X0_25 rfl dX0_work_36 39 rfl ?_
  refine fm_iload_n C dX0_work_39 rfl 2 rfl 40 rfl ?_
  refine fm_aald C (t := bo k + 15) (t0 := 3) (bo_lt hk (by decide)) ((shC_b15 hk) _) rfl rfl b1 (x := b + (bo k + 17 + x1.toNatClampNeg)) (in_some (g := fun i => b + (bo k + 17 + i)) b1) dX0_work_40 41 rfl ?_
  refine fm_aload_n C dX0_work_41 rfl 1 rfl 42 rfl ?_
  refine fm_get C (t := lo k) (lo_lt hk) ((shC_lo hk) _) rfl inG_X0 6 (by decide) F_X0_30 rfl dX0_work_42 45 rfl ?_
  obtain ⟨q11, h10, hf⟩ := Option.bind_eq_some_iff.mp hf
  refine fm_callN C Y_X1_copy (t := bo k + 17 + x1.toNatClampNeg) (isO_lt (isO_out hk (in_lt b1))) ((shC_O (isO_out hk (in_lt b1))) _) rfl LN_X0_65 (As := [.ref (b + (bo k + 16))]) (rest := []) (c_X1_copy (isO_out hk (in_lt b1)) (isO_now hk) h10) (by omega) (by omega) rfl (Nat.le_of_ble_eq_true rfl) dX0_work_45 48 rfl [] rfl ?_
  refine fm_aload_n C dX0_work_48 rfl 1 rfl 49 rfl ?_
  refine fm_get C (t := lo k) (lo_lt hk) ((shC_lo hk) _) rfl inG_X0 4 (by decide) F_X0_20 rfl dX0_work_49 52 rfl ?_
  refine fm_iload_n C dX0_work_52 rfl 2 rfl 53 rfl ?_
  refine fm_iconst C (x := 2) dX0_work_53 (by decide) 54 rfl ?_
  obtain ⟨m13, e12, hf⟩ := Option.bind_eq_some_iff.mp hf
  refine fm_iast C (t := bo k + 14) (t0 := 0) (bo_lt hk (by decide)) (shC_b14 hk) rfl b1 dX0_work_54 55 rfl m13 (Option.some.inj e12) ?_
  refine fm_aload_n C dX0_work_55 rfl 1 rfl 56 rfl ?_
  refine fm_get C (t := lo k) (lo_lt hk) ((shC_lo hk) _) rfl inG_X0 1 (by decide) F_X0_38 rfl dX0_work_56 59 rfl ?_
  refine fm_iload_n C dX0_work_59 rfl 0 rfl 60 rfl ?_
  refine fm_if_eq C 67 dX0_work_60 (by decide) (fun c14 => ?_) 63 rfl (fun c14 => ?_)
  · rw [if_pos c14] at hf
    refine fm_iconst C (x := 5) dX0_work_67 (by decide) 68 rfl ?_
    refine fm_iload_n C dX0_work_68 rfl 2 rfl 69 rfl ?_
    obtain ⟨q16, h15, hf⟩ := Option.bind_eq_some_iff.mp hf
    refine fm_callN C Y_X3_note (t := ev k) (ev_lt (j := 0) hk (by decide)) ((shC_ev hk) _) rfl LN_X0_75 (As := [.int 5, .int x1]) (rest := []) (c_X3_note hk h15) (by omega) (by omega) rfl (Nat.le_of_ble_eq_true rfl) dX0_work_69 72 rfl [] rfl ?_
    refine fm_iload_n C dX0_work_72 rfl 0 rfl 73 rfl ?_
    by_cases r17 : q9.1 = 0 ∨ q9.1 = 1
    · rw [if_pos r17] at hf
      obtain rfl := Option.some.inj hf
      exact fm_zret C hr hk0 r17 dX0_work_73
    · rw [if_neg r17] at hf; cases hf
  · rw [if_neg c14] at hf
    refine fm_iconst C (x := 4) dX0_work_63 (by decide) 64 rfl ?_
    refine fm_goto C 68 dX0_work_64 (by decide) ?_
    refine fm_iload_n C dX0_work_68 rfl 2 rfl 69 rfl ?_
    obtain ⟨q19, h18, hf⟩ := Option.bind_eq_some_iff.mp hf
    refine fm_callN C Y_X3_note (t := ev k) (ev_lt (j := 0) hk (by decide)) ((shC_ev hk) _) rfl LN_X0_75 (As := [.int 4, .int x1]) (rest := []) (c_X3_note hk h18) (by omega) (by omega) rfl (Nat.le_of_ble_eq_true rfl) dX0_work_69 72 rfl [] rfl ?_
    refine fm_iload_n C dX0_work_72 rfl 0 rfl 73 rfl ?_
    by_cases r20 : q9.1 = 0 ∨ q9.1 = 1
    · rw [if_pos r20] at hf
      obtain rfl := Option.some.inj hf
      exact fm_zret C hr hk0 r20 dX0_work_73
    · rw [if_neg r20] at hf; cases hf
def f_X0_reckon (g : GT) (k : Nat) (x1 : Int32) (x2 : Int32) (v : fm_T) : Option (Int32 × fm_T) := (if x1 < 0 ∨ 40 ≤ x1.toNatClampNeg then none else (if v 58 x1.toNatClampNeg = 0 then ((f_X1_succeed (bo k + 16) (v 59 x1.toNatClampNeg) v).bind fun q4 => (if q4.1 = 0 ∨ q4.1 = 1 then some (q4.1, q4.2) else none)) else (if v 58 x1.toNatClampNeg = 1 then ((g 0 k (v 59 x1.toNatClampNeg) x2 0 v).bind fun q8 => (if q8.1 = 0 then some (0, q8.2) else ((f_X1_succeed (bo k + 16) ((q8.2 (bo k + 16) 0) + (v 60 x1.toNatClampNeg)) q8.2).bind fun q11 => (if q11.1 = 0 then some (0, q11.2) else some (1, q11.2))))) else (if v 58 x1.toNatClampNeg = 2 then ((g 4 k (v 59 x1.toNatClampNeg) (v 60 x1.toNatClampNeg) x2 v).bind fun q15 => (if q15.1 = 0 ∨ q15.1 = 1 then some (q15.1, q15.2) else none)) else (if v 58 x1.toNatClampNeg = 3 then ((g 5 k (v 59 x1.toNatClampNeg) (v 60 x1.toNatClampNeg) x2 v).bind fun q19 => (if q19.1 = 0 ∨ q19.1 = 1 then some (q19.1, q19.2) else none)) else (if v 58 x1.toNatClampNeg = 4 then ((g 0 k (v 59 x1.toNatClampNeg) x2 0 v).bind fun q23 => (if q23.1 = 0 then some (0, q23.2) else ((f_X0_readItem k (q23.2 57 x1.toNatClampNeg) (q23.2 (bo k + 16) 0) q23.2).bind fun q26 => (if q26.1 = 0 then some (0, q26.2) else some (1, q26.2))))) else (if v 58 x1.toNatClampNeg = 5 then ((g 0 k (v 59 x1.toNatClampNeg) x2 0 v).bind fun q30 => (if q30.1 = 0 then ((f_X1_succeed (bo k + 16) (v 60 x1.toNatClampNeg) q30.2).bind fun q33 => (if q33.1 = 0 then some (0, q33.2) else some (1, q33.2))) else some (1, q30.2))) else (if v 58 x1.toNatClampNeg = 6 then ((f_X1_fail (bo k + 16) 3 (v 59 x1.toNatClampNeg) v).bind fun q37 => (if q37.1 = 0 ∨ q37.1 = 1 then some (q37.1, q37.2) else none)) else (if v 58 x1.toNatClampNeg = 7 then ((g 0 k (v 59 x1.toNatClampNeg) x2 0 v).bind fun q41 => (if q41.1 = 0 then some (0, q41.2) else (if q41.2 (bo k + 16) 0 = 0 then ((g 0 k (q41.2 61 x1.toNatClampNeg) x2 0 q41.2).bind fun q45 => (if q45.1 = 0 then some (0, q45.2) else some (1, q45.2))) else ((g 0 k (v 60 x1.toNatClampNeg) x2 0 q41.2).bind fun q48 => (if q48.1 = 0 then some (0, q48.2) else some (1, q48.2)))))) else (if v 58 x1.toNatClampNeg = 8 then (if v 59 x1.toNatClampNeg < 0 ∨ 12 ≤ (v 59 x1.toNatClampNeg).toNatClampNeg then none else ((f_X1_succeed (bo k + 16) (v (bo k) ((v 59 x1.toNatClampNeg).toNatClampNeg)) v).bind fun q53 => (if q53.1 = 0 ∨ q53.1 = 1 then some (q53.1, q53.2) else none))) else (if v 58 x1.toNatClampNeg = 9 then ((f_X2_countConstants (v 59 x1.toNatClampNeg) v).bind fun q57 => ((f_X1_succeed (bo k + 16) q57.1 q57.2).bind fun q59 => (if q59.1 = 0 ∨ q59.1 = 1 then some (q59.1, q59.2) else none))) else (if v 58 x1.toNatClampNeg = 10 then ((g 1 k (v 59 x1.toNatClampNeg) x2 0 v).bind fun q63 => (if q63.1 = 0 then some (0, q63.2) else ((f_X1_succeed (bo k + 16) 1 q63.2).bind fun q66 => (if q66.1 = 0 then some (0, q66.2) else some (1, q66.2))))) else (if v 58 x1.toNatClampNeg = 11 then ((g 0 k (v 59 x1.toNatClampNeg) x2 0 v).bind fun q70 => (if q70.1 = 0 then some (0, q70.2) else ((f_X0_writeItem k (q70.2 57 x1.toNatClampNeg) (v 60 x1.toNatClampNeg) (q70.2 (bo k + 16) 0) q70.2).bind fun q73 => (if q73.1 = 0 then some (0, q73.2) else some (1, q73.2))))) else ((f_X1_fail (bo k + 16) 3 (v 59 x1.toNatClampNeg) v).bind fun q76 => (if q76.1 = 0 ∨ q76.1 = 1 then some (q76.1, q76.2) else none)))))))))))))))
set_option maxHeartbeats 4000000 in
set_option maxRecDepth 20000 in
theorem c_X0_reckon {k : Nat} {x1 : Int32} {x2 : Int32} {g : GT} {h : Nat} (G : GG l D tA cI cII cLd cOc b A g h) (hh : 3 ≤ h) (hk : k < 4) {v : fm_T} {q : Int32 × fm_T} (hf : f_X0_reckon g k x1 x2 v = some q) : fm_M l D (fm_tys cI cII cLd cOc) tA b 305 (shC cI cII cLd cOc b) A yX0_reckon cX0_reckon 5 (some .boolean) (h + 1) [.ref (b + (lo k)), .int x1, .int x2] v (some (.int q.1)) q.2 := by
  refine fm_entry (by decide) (Nat.le_of_ble_eq_true rfl) ?_
  intro p e R s m args below meth c C hr hk0 hF hLo
  unfold f_X0_reckon at hf
  show fm_V p l e R s m args below meth c D b 305 (shC cI cII cLd cOc b) A _ 5 0 [(0, .ref (b + (lo k))), (1, .int x1), (2, .int x2)] [] v
  refine fm_aload_n C dX0_reckon_0 rfl 0 rfl 1 rfl ?_
  refine fm_get C (t := lo k) (lo_lt hk) ((shC_lo hk) _) rfl inG_X0 0 (by decide) F_X0_34 rfl dX0_reckon_1 4 rfl ?_
  refine fm_getN C (t := 1) (by decide) (shC_1 _) rfl inG_X2 11 (by decide) FN_X0_84 rfl dX0_reckon_4 7 rfl ?_
  refine fm_iload_n C dX0_reckon_7 rfl 1 rfl 8 rfl ?_
  by_cases b1 : x1 < 0 ∨ 40 ≤ x1.toNatClampNeg
  · rw [if_pos b1] at hf; cases hf
  rw [if_neg b1] at hf
  refine fm_iald C (t := 59) (t0 := 0) (by decide) (shC_59 _) rfl b1 dX0_reckon_8 9 rfl ?_
  refine fm_istore_n C [(3, .int (v 59 x1.toNatClampNeg)), (0, .ref (b + (lo k))), (1, .int x1), (2, .int x2)] dX0_reckon_9 rfl (by decide) rfl 10 rfl ?_
  refine fm_aload_n C dX0_reckon_10 rfl 1 rfl 11 rfl ?_
  refine fm_get C (t := lo k) (lo_lt hk) ((shC_lo hk) _) rfl inG_X0 0 (by decide) F_X0_34 rfl dX0_reckon_11 14 rfl ?_
  refine fm_getN C (t := 1) (by decide) (shC_1 _) rfl inG_X2 12 (by decide) FN_X0_87 rfl dX0_reckon_14 17 rfl ?_
  refine fm_iload_n C dX0_reckon_17 rfl 2 rfl 18 rfl ?_
  refine fm_iald C (t := 60) (t0 := 0) (by decide) (shC_60 _) rfl b1 dX0_reckon_18 19 rfl ?_
  refine fm_istore C [(4, .int (v 60 x1.toNatClampNeg)), (3, .int (v 59 x1.toNatClampNeg)), (0, .ref (b + (lo k))), (1, .int x1), (2, .int x2)] dX0_reckon_19 (by decide) rfl 21 rfl ?_
  refine fm_aload_n C dX0_reckon_21 rfl 2 rfl 22 rfl ?_
  refine fm_get C (t := lo k) (lo_lt hk) ((shC_lo hk) _) rfl inG_X0 0 (by decide) F_X0_34 rfl dX0_reckon_22 25 rfl ?_
  refine fm_getN C (t := 1) (by decide) (shC_1 _) rfl inG_X2 10 (by decide) FN_X0_90 rfl dX0_reckon_25 28 rfl ?_
  refine fm_iload_n C dX0_reckon_28 rfl 3 rfl 29 rfl ?_
  refine fm_iald C (t := 58) (t0 := 0) (by decide) (shC_58 _) rfl b1 dX0_reckon_29 30 rfl ?_
  by_cases w2 : v 58 x1.toNatClampNeg = 0
  · rw [if_pos w2] at hf
    refine fm_tableIn C (off := 62) 92 dX0_reckon_30 (by rw [w2]; decide) (by rw [w2]; decide) (by rw [w2] <;> rfl) (by decide) ?_
    refine fm_aload_n C dX0_reckon_92 rfl 2 rfl 93 rfl ?_
    refine fm_get C (t := lo k) (lo_lt hk) ((shC_lo hk) _) rfl inG_X0 6 (by decide) F_X0_30 rfl dX0_reckon_93 96 rfl ?_
    refine fm_iload_n C dX0_reckon_96 rfl 1 rfl 97 rfl ?_
    obtain ⟨q4, h3, hf⟩ := Option.bind_eq_some_iff.mp hf
    refine fm_callN C Y_X1_succeed (t := bo k + 16) (isO_lt (isO_now hk)) ((shC_O (isO_now hk)) _) rfl LN_X0_93 (As := [.int (v 59 x1.toNatClampNeg)]) (rest := []) (c_X1_succeed (isO_now hk) h3) (by omega) (by omega) rfl (Nat.le_of_ble_eq_true rfl) dX0_reckon_97 100 rfl [.int q4.1] rfl ?_
    by_cases r5 : q4.1 = 0 ∨ q4.1 = 1
    · rw [if_pos r5] at hf
      obtain rfl := Option.some.inj hf
      exact fm_zret C hr hk0 r5 dX0_reckon_100
    · rw [if_neg r5] at hf; cases hf
  rw [if_neg w2] at hf
  by_cases w6 : v 58 x1.toNatClampNeg = 1
  · rw [if_pos w6] at hf
    refine fm_tableIn C (off := 71) 101 dX0_reckon_30 (by rw [w6]; decide) (by rw [w6]; decide) (by rw [w6] <;> rfl) (by decide) ?_
    refine fm_aload_n C dX0_reckon_101 rfl 2 rfl 102 rfl ?_
    refine fm_iload_n C dX0_reckon_102 rfl 1 rfl 103 rfl ?_
    refine fm_iload_n C dX0_reckon_103 rfl 4 rfl 104 rfl ?_
    obtain ⟨q8, h7, hf⟩ := Option.bind_eq_some_iff.mp hf
    refine fm_callV C Y_X0_obtain (t := lo k) (lo_lt hk) ((shC_lo hk) _) rfl LM_X0_96 (As := [.int (v 59 x1.toNatClampNeg), .int x2]) (rest := []) (G.1 hk h7) (by omega) (by omega) rfl (Nat.le_of_ble_eq_true rfl) dX0_reckon_104 107 rfl [.int q8.1] rfl ?_
    refine fm_if_eq C 134 dX0_reckon_107 (by decide) (fun c9 => ?_) 110 rfl (fun c9 => ?_)
    · rw [if_pos c9] at hf
      refine fm_iconst C (x := 0) dX0_reckon_134 (by decide) 135 rfl ?_
      obtain rfl := Option.some.inj hf
      exact fm_zret C hr hk0 (Or.inl rfl) dX0_reckon_135
    · rw [if_neg c9] at hf
      refine fm_aload_n C dX0_reckon_110 rfl 2 rfl 111 rfl ?_
      refine fm_get C (t := lo k) (lo_lt hk) ((shC_lo hk) _) rfl inG_X0 6 (by decide) F_X0_30 rfl dX0_reckon_111 114 rfl ?_
      refine fm_aload_n C dX0_reckon_114 rfl 2 rfl 115 rfl ?_
      refine fm_get C (t := lo k) (lo_lt hk) ((shC_lo hk) _) rfl inG_X0 6 (by decide) F_X0_30 rfl dX0_reckon_115 118 rfl ?_
      refine fm_getN C (t := bo k + 16) (isO_lt (isO_now hk)) ((shC_O (isO_now hk)) _) rfl inG_X1 0 (by decide) FN_X0_99 rfl dX0_reckon_118 121 rfl ?_
      refine fm_iload C dX0_reckon_121 0 rfl 123 rfl ?_
      refine fm_iadd C dX0_reckon_123 124 rfl ?_
      obtain ⟨q11, h10, hf⟩ := Option.bind_eq_some_iff.mp hf
      refine fm_callN C Y_X1_succeed (t := bo k + 16) (isO_lt (isO_now hk)) ((shC_O (isO_now hk)) _) rfl LN_X0_93 (As := [.int ((q8.2 (bo k + 16) 0) + (v 60 x1.toNatClampNeg))]) (rest := []) (c_X1_succeed (isO_now hk) h10) (by omega) (by omega) rfl (Nat.le_of_ble_eq_true rfl) dX0_reckon_124 127 rfl [.int q11.1] rfl ?_
      refine fm_if_eq C 134 dX0_reckon_127 (by decide) (fun c12 => ?_) 130 rfl (fun c12 => ?_)
      · rw [if_pos c12] at hf
        refine fm_iconst C (x := 0) dX0_reckon_134 (by decide) 135 rfl ?_
        obtain rfl := Option.some.inj hf
        exact fm_zret C hr hk0 (Or.inl rfl) dX0_reckon_135
      · rw [if_neg c12] at hf
        refine fm_iconst C (x := 1) dX0_reckon_130 (by decide) 131 rfl ?_
        refine fm_goto C 135 dX0_reckon_131 (by decide) ?_
        obtain rfl := Option.some.inj hf
        exact fm_zret C hr hk0 (Or.inr rfl) dX0_reckon_135
  rw [if_neg w6] at hf
  by_cases w13 : v 58 x1.toNatClampNeg = 2
  · rw [if_pos w13] at hf
    refine fm_tableIn C (off := 106) 136 dX0_reckon_30 (by rw [w13]; decide) (by rw [w13]; decide) (by rw [w13] <;> rfl) (by decide) ?_
    refine fm_aload_n C dX0_reckon_136 rfl 2 rfl 137 rfl ?_
    refine fm_iload_n C dX0_reckon_137 rfl 1 rfl 138 rfl ?_
    refine fm_iload C dX0_reckon_138 0 rfl 140 rfl ?_
    refine fm_iload_n C dX0_reckon_140 rfl 4 rfl 141 rfl ?_
    obtain ⟨q15, h14, hf⟩ := Option.bind_eq_some_iff.mp hf
    refine fm_callV C Y_X0_multiply (t := lo k) (lo_lt hk) ((shC_lo hk) _) rfl LM_X0_102 (As := [.int (v 59 x1.toNatClampNeg), .int (v 60 x1.toNatClampNeg), .int x2]) (rest := []) (G.2.2.2.2.1 hk h14) (by omega) (by omega) rfl (Nat.le_of_ble_eq_true rfl) dX0_reckon_141 144 rfl [.int q15.1] rfl ?_
    by_cases r16 : q15.1 = 0 ∨ q15.1 = 1
    · rw [if_pos r16] at hf
      obtain rfl := Option.some.inj hf
      exact fm_zret C hr hk0 r16 dX0_reckon_144
    · rw [if_neg r16] at hf; cases hf
  rw [if_neg w13] at hf
  by_cases w17 : v 58 x1.toNatClampNeg = 3
  · rw [if_pos w17] at hf
    refine fm_tableIn C (off := 115) 145 dX0_reckon_30 (by rw [w17]; decide) (by rw [w17]; decide) (by rw [w17] <;> rfl) (by decide) ?_
    refine fm_aload_n C dX0_reckon_145 rfl 2 rfl 146 rfl ?_
    refine fm_iload_n C dX0_reckon_146 rfl 1 rfl 147 rfl ?_
    refine fm_iload C dX0_reckon_147 0 rfl 149 rfl ?_
    refine fm_iload_n C dX0_reckon_149 rfl 4 rfl 150 rfl ?_
    obtain ⟨q19, h18, hf⟩ := Option.bind_eq_some_iff.mp hf
    refine fm_callV C Y_X0_divide (t := lo k) (lo_lt hk) ((shC_lo hk) _) rfl LM_X0_106 (As := [.int (v 59 x1.toNatClampNeg), .int (v 60 x1.toNatClampNeg), .int x2]) (rest := []) (G.2.2.2.2.2.1 hk h18) (by omega) (by omega) rfl (Nat.le_of_ble_eq_true rfl) dX0_reckon_150 153 rfl [.int q19.1] rfl ?_
    by_cases r20 : q19.1 = 0 ∨ q19.1 = 1
    · rw [if_pos r20] at hf
      obtain rfl := Option.some.inj hf
      exact fm_zret C hr hk0 r20 dX0_reckon_153
    · rw [if_neg r20] at hf; cases hf
  rw [if_neg w17] at hf
  by_cases w21 : v 58 x1.toNatClampNeg = 4
  · rw [if_pos w21] at hf
    refine fm_tableIn C (off := 124) 154 dX0_reckon_30 (by rw [w21]; decide) (by rw [w21]; decide) (by rw [w21] <;> rfl) (by decide) ?_
    refine fm_aload_n C dX0_reckon_154 rfl 2 rfl 155 rfl ?_
    refine fm_iload_n C dX0_reckon_155 rfl 1 rfl 156 rfl ?_
    refine fm_iload_n C dX0_reckon_156 rfl 4 rfl 157 rfl ?_
    obtain ⟨q23, h22, hf⟩ := Option.bind_eq_some_iff.mp hf
    refine fm_callV C Y_X0_obtain (t := lo k) (lo_lt hk) ((shC_lo hk) _) rfl LM_X0_96 (As := [.int (v 59 x1.toNatClampNeg), .int x2]) (rest := []) (G.1 hk h22) (by omega) (by omega) rfl (Nat.le_of_ble_eq_true rfl) dX0_reckon_157 160 rfl [.int q23.1] rfl ?_
    refine fm_if_eq C 190 dX0_reckon_160 (by decide) (fun c24 => ?_) 163 rfl (fun c24 => ?_)
    · rw [if_pos c24] at hf
      refine fm_iconst C (x := 0) dX0_reckon_190 (by decide) 191 rfl ?_
      obtain rfl := Option.some.inj hf
      exact fm_zret C hr hk0 (Or.inl rfl) dX0_reckon_191
    · rw [if_neg c24] at hf
      refine fm_aload_n C dX0_reckon_163 rfl 2 rfl 164 rfl ?_
      refine fm_aload_n C dX0_reckon_164 rfl 2 rfl 165 rfl ?_
      refine fm_get C (t := lo k) (lo_lt hk) ((shC_lo hk) _) rfl inG_X0 0 (by decide) F_X0_34 rfl dX0_reckon_165 168 rfl ?_
      refine fm_getN C (t := 1) (by decide) (shC_1 _) rfl inG_X2 9 (by decide) FN_X0_59 rfl dX0_reckon_168 171 rfl ?_
      refine fm_iload_n C dX0_reckon_171 rfl 3 rfl 172 rfl ?_
      refine fm_iald C (t := 57) (t0 := 0) (by decide) (shC_57 _) rfl b1 dX0_reckon_172 173 rfl ?_
      refine fm_aload_n C dX0_reckon_173 rfl 2 rfl 174 rfl ?_
      refine fm_get C (t := lo k) (lo_lt hk) ((shC_lo hk) _) rfl inG_X0 6 (by decide) F_X0_30 rfl dX0_reckon_174 177 rfl ?_
      refine fm_getN C (t := bo k + 16) (isO_lt (isO_now hk)) ((shC_O (isO_now hk)) _) rfl inG_X1 0 (by decide) FN_X0_99 rfl dX0_reckon_177 180 rfl ?_
      obtain ⟨q26, h25, hf⟩ := Option.bind_eq_some_iff.mp hf
      refine fm_callV C Y_X0_readItem (t := lo k) (lo_lt hk) ((shC_lo hk) _) rfl LM_X0_109 (As := [.int (q23.2 57 x1.toNatClampNeg), .int (q23.2 (bo k + 16) 0)]) (rest := []) (c_X0_readItem hk h25) (by omega) (by omega) rfl (Nat.le_of_ble_eq_true rfl) dX0_reckon_180 183 rfl [.int q26.1] rfl ?_
      refine fm_if_eq C 190 dX0_reckon_183 (by decide) (fun c27 => ?_) 186 rfl (fun c27 => ?_)
      · rw [if_pos c27] at hf
        refine fm_iconst C (x := 0) dX0_reckon_190 (by decide) 191 rfl ?_
        obtain rfl := Option.some.inj hf
        exact fm_zret C hr hk0 (Or.inl rfl) dX0_reckon_191
      · rw [if_neg c27] at hf
        refine fm_iconst C (x := 1) dX0_reckon_186 (by decide) 187 rfl ?_
        refine fm_goto C 191 dX0_reckon_187 (by decide) ?_
        obtain rfl := Option.some.inj hf
        exact fm_zret C hr hk0 (Or.inr rfl) dX0_reckon_191
  rw [if_neg w21] at hf
  by_cases w28 : v 58 x1.toNatClampNeg = 5
  · rw [if_pos w28] at hf
    refine fm_tableIn C (off := 162) 192 dX0_reckon_30 (by rw [w28]; decide) (by rw [w28]; decide) (by rw [w28] <;> rfl) (by decide) ?_
    refine fm_aload_n C dX0_reckon_192 rfl 2 rfl 193 rfl ?_
    refine fm_iload_n C dX0_reckon_193 rfl 1 rfl 194 rfl ?_
    refine fm_iload_n C dX0_reckon_194 rfl 4 rfl 195 rfl ?_
    obtain ⟨q30, h29, hf⟩ := Option.bind_eq_some_iff.mp hf
    refine fm_callV C Y_X0_obtain (t := lo k) (lo_lt hk) ((shC_lo hk) _) rfl LM_X0_96 (As := [.int (v 59 x1.toNatClampNeg), .int x2]) (rest := []) (G.1 hk h29) (by omega) (by omega) rfl (Nat.le_of_ble_eq_true rfl) dX0_reckon_195 198 rfl [.int q30.1] rfl ?_
    refine fm_if_ne C 213 dX0_reckon_198 (by decide) (fun c31 => ?_) 201 rfl (fun c31 => ?_)
    · rw [if_neg c31] at hf
      refine fm_iconst C (x := 1) dX0_reckon_213 (by decide) 214 rfl ?_
      refine fm_goto C 218 dX0_reckon_214 (by decide) ?_
      obtain rfl := Option.some.inj hf
      exact fm_zret C hr hk0 (Or.inr rfl) dX0_reckon_218
    · rw [if_pos c31] at hf
      refine fm_aload_n C dX0_reckon_201 rfl 2 rfl 202 rfl ?_
      refine fm_get C (t := lo k) (lo_lt hk) ((shC_lo hk) _) rfl inG_X0 6 (by decide) F_X0_30 rfl dX0_reckon_202 205 rfl ?_
      refine fm_iload C dX0_reckon_205 0 rfl 207 rfl ?_
      obtain ⟨q33, h32, hf⟩ := Option.bind_eq_some_iff.mp hf
      refine fm_callN C Y_X1_succeed (t := bo k + 16) (isO_lt (isO_now hk)) ((shC_O (isO_now hk)) _) rfl LN_X0_93 (As := [.int (v 60 x1.toNatClampNeg)]) (rest := []) (c_X1_succeed (isO_now hk) h32) (by omega) (by omega) rfl (Nat.le_of_ble_eq_true rfl) dX0_reckon_207 210 rfl [.int q33.1] rfl ?_
      refine fm_if_eq C 217 dX0_reckon_210 (by decide) (fun c34 => ?_) 213 rfl (fun c34 => ?_)
      · rw [if_pos c34] at hf
        refine fm_iconst C (x := 0) dX0_reckon_217 (by decide) 218 rfl ?_
        obtain rfl := Option.some.inj hf
        exact fm_zret C hr hk0 (Or.inl rfl) dX0_reckon_218
      · rw [if_neg c34] at hf
        refine fm_iconst C (x := 1) dX0_reckon_213 (by decide) 214 rfl ?_
        refine fm_goto C 218 dX0_reckon_214 (by decide) ?_
        obtain rfl := Option.some.inj hf
        exact fm_zret C hr hk0 (Or.inr rfl) dX0_reckon_218
  rw [if_neg w28] at hf
  by_cases w35 : v 58 x1.toNatClampNeg = 6
  · rw [if_pos w35] at hf
    refine fm_tableIn C (off := 332) 362 dX0_reckon_30 (by rw [w35]; decide) (by rw [w35]; decide) (by rw [w35] <;> rfl) (by decide) ?_
    refine fm_aload_n C dX0_reckon_362 rfl 2 rfl 363 rfl ?_
    refine fm_get C (t := lo k) (lo_lt hk) ((shC_lo hk) _) rfl inG_X0 6 (by decide) F_X0_30 rfl dX0_reckon_363 366 rfl ?_
    refine fm_iconst C (x := 3) dX0_reckon_366 (by decide) 367 rfl ?_
    refine fm_iload_n C dX0_reckon_367 rfl 1 rfl 368 rfl ?_
    obtain ⟨q37, h36, hf⟩ := Option.bind_eq_some_iff.mp hf
    refine fm_callN C Y_X1_fail (t := bo k + 16) (isO_lt (isO_now hk)) ((shC_O (isO_now hk)) _) rfl LN_X0_55 (As := [.int 3, .int (v 59 x1.toNatClampNeg)]) (rest := []) (c_X1_fail (isO_now hk) h36) (by omega) (by omega) rfl (Nat.le_of_ble_eq_true rfl) dX0_reckon_368 371 rfl [.int q37.1] rfl ?_
    by_cases r38 : q37.1 = 0 ∨ q37.1 = 1
    · rw [if_pos r38] at hf
      obtain rfl := Option.some.inj hf
      exact fm_zret C hr hk0 r38 dX0_reckon_371
    · rw [if_neg r38] at hf; cases hf
  rw [if_neg w35] at hf
  by_cases w39 : v 58 x1.toNatClampNeg = 7
  · rw [if_pos w39] at hf
    refine fm_tableIn C (off := 189) 219 dX0_reckon_30 (by rw [w39]; decide) (by rw [w39]; decide) (by rw [w39] <;> rfl) (by decide) ?_
    refine fm_aload_n C dX0_reckon_219 rfl 2 rfl 220 rfl ?_
    refine fm_iload_n C dX0_reckon_220 rfl 1 rfl 221 rfl ?_
    refine fm_iload_n C dX0_reckon_221 rfl 4 rfl 222 rfl ?_
    obtain ⟨q41, h40, hf⟩ := Option.bind_eq_some_iff.mp hf
    refine fm_callV C Y_X0_obtain (t := lo k) (lo_lt hk) ((shC_lo hk) _) rfl LM_X0_96 (As := [.int (v 59 x1.toNatClampNeg), .int x2]) (rest := []) (G.1 hk h40) (by omega) (by omega) rfl (Nat.le_of_ble_eq_true rfl) dX0_reckon_222 225 rfl [.int q41.1] rfl ?_
    refine fm_if_eq C 264 dX0_reckon_225 (by decide) (fun c42 => ?_) 228 rfl (fun c42 => ?_)
    · rw [if_pos c42] at hf
      refine fm_iconst C (x := 0) dX0_reckon_264 (by decide) 265 rfl ?_
      obtain rfl := Option.some.inj hf
      exact fm_zret C hr hk0 (Or.inl rfl) dX0_reckon_265
    · rw [if_neg c42] at hf
      refine fm_aload_n C dX0_reckon_228 rfl 2 rfl 229 rfl ?_
      refine fm_aload_n C dX0_reckon_229 rfl 2 rfl 230 rfl ?_
      refine fm_get C (t := lo k) (lo_lt hk) ((shC_lo hk) _) rfl inG_X0 6 (by decide) F_X0_30 rfl dX0_reckon_230 233 rfl ?_
      refine fm_getN C (t := bo k + 16) (isO_lt (isO_now hk)) ((shC_O (isO_now hk)) _) rfl inG_X1 0 (by decide) FN_X0_99 rfl dX0_reckon_233 236 rfl ?_
      refine fm_if_eq C 244 dX0_reckon_236 (by decide) (fun c43 => ?_) 239 rfl (fun c43 => ?_)
      · rw [if_pos c43] at hf
        refine fm_aload_n C dX0_reckon_244 rfl 2 rfl 245 rfl ?_
        refine fm_get C (t := lo k) (lo_lt hk) ((shC_lo hk) _) rfl inG_X0 0 (by decide) F_X0_34 rfl dX0_reckon_245 248 rfl ?_
        refine fm_getN C (t := 1) (by decide) (shC_1 _) rfl inG_X2 13 (by decide) FN_X0_112 rfl dX0_reckon_248 251 rfl ?_
        refine fm_iload_n C dX0_reckon_251 rfl 3 rfl 252 rfl ?_
        refine fm_iald C (t := 61) (t0 := 0) (by decide) (shC_61 _) rfl b1 dX0_reckon_252 253 rfl ?_
        refine fm_iload_n C dX0_reckon_253 rfl 4 rfl 254 rfl ?_
        obtain ⟨q45, h44, hf⟩ := Option.bind_eq_some_iff.mp hf
        refine fm_callV C Y_X0_obtain (t := lo k) (lo_lt hk) ((shC_lo hk) _) rfl LM_X0_96 (As := [.int (q41.2 61 x1.toNatClampNeg), .int x2]) (rest := []) (G.1 hk h44) (by omega) (by omega) rfl (Nat.le_of_ble_eq_true rfl) dX0_reckon_254 257 rfl [.int q45.1] rfl ?_
        refine fm_if_eq C 264 dX0_reckon_257 (by decide) (fun c46 => ?_) 260 rfl (fun c46 => ?_)
        · rw [if_pos c46] at hf
          refine fm_iconst C (x := 0) dX0_reckon_264 (by decide) 265 rfl ?_
          obtain rfl := Option.some.inj hf
          exact fm_zret C hr hk0 (Or.inl rfl) dX0_reckon_265
        · rw [if_neg c46] at hf
          refine fm_iconst C (x := 1) dX0_reckon_260 (by decide) 261 rfl ?_
          refine fm_goto C 265 dX0_reckon_261 (by decide) ?_
          obtain rfl := Option.some.inj hf
          exact fm_zret C hr hk0 (Or.inr rfl) dX0_reckon_265
      · rw [if_neg c43] at hf
        refine fm_iload C dX0_reckon_239 0 rfl 241 rfl ?_
        refine fm_goto C 253 dX0_reckon_241 (by decide) ?_
        refine fm_iload_n C dX0_reckon_253 rfl 4 rfl 254 rfl ?_
        obtain ⟨q48, h47, hf⟩ := Option.bind_eq_some_iff.mp hf
        refine fm_callV C Y_X0_obtain (t := lo k) (lo_lt hk) ((shC_lo hk) _) rfl LM_X0_96 (As := [.int (v 60 x1.toNatClampNeg), .int x2]) (rest := []) (G.1 hk h47) (by omega) (by omega) rfl (Nat.le_of_ble_eq_true rfl) dX0_reckon_254 257 rfl [.int q48.1] rfl ?_
        refine fm_if_eq C 264 dX0_reckon_257 (by decide) (fun c49 => ?_) 260 rfl (fun c49 => ?_)
        · rw [if_pos c49] at hf
          refine fm_iconst C (x := 0) dX0_reckon_264 (by decide) 265 rfl ?_
          obtain rfl := Option.some.inj hf
          exact fm_zret C hr hk0 (Or.inl rfl) dX0_reckon_265
        · rw [if_neg c49] at hf
          refine fm_iconst C (x := 1) dX0_reckon_260 (by decide) 261 rfl ?_
          refine fm_goto C 265 dX0_reckon_261 (by decide) ?_
          obtain rfl := Option.some.inj hf
          exact fm_zret C hr hk0 (Or.inr rfl) dX0_reckon_265
  rw [if_neg w39] at hf
  by_cases w50 : v 58 x1.toNatClampNeg = 8
  · rw [if_pos w50] at hf
    refine fm_tableIn C (off := 236) 266 dX0_reckon_30 (by rw [w50]; decide) (by rw [w50]; decide) (by rw [w50] <;> rfl) (by decide) ?_
    refine fm_aload_n C dX0_reckon_266 rfl 2 rfl 267 rfl ?_
    refine fm_get C (t := lo k) (lo_lt hk) ((shC_lo hk) _) rfl inG_X0 6 (by decide) F_X0_30 rfl dX0_reckon_267 270 rfl ?_
    refine fm_aload_n C dX0_reckon_270 rfl 2 rfl 271 rfl ?_
    refine fm_get C (t := lo k) (lo_lt hk) ((shC_lo hk) _) rfl inG_X0 2 (by decide) F_X0_9 rfl dX0_reckon_271 274 rfl ?_
    refine fm_iload_n C dX0_reckon_274 rfl 1 rfl 275 rfl ?_
    by_cases b51 : v 59 x1.toNatClampNeg < 0 ∨ 12 ≤ (v 59 x1.toNatClampNeg).toNatClampNeg
    · rw [if_pos b51] at hf; cases hf
    rw [if_neg b51] at hf
    refine fm_iald C (t := bo k) (t0 := 0) (bo_lt (j := 0) hk (by decide)) ((shC_b0 hk) _) rfl b51 dX0_reckon_275 276 rfl ?_
    obtain ⟨q53, h52, hf⟩ := Option.bind_eq_some_iff.mp hf
    refine fm_callN C Y_X1_succeed (t := bo k + 16) (isO_lt (isO_now hk)) ((shC_O (isO_now hk)) _) rfl LN_X0_93 (As := [.int (v (bo k) ((v 59 x1.toNatClampNeg).toNatClampNeg))]) (rest := []) (c_X1_succeed (isO_now hk) h52) (by omega) (by omega) rfl (Nat.le_of_ble_eq_true rfl) dX0_reckon_276 279 rfl [.int q53.1] rfl ?_
    by_cases r54 : q53.1 = 0 ∨ q53.1 = 1
    · rw [if_pos r54] at hf
      obtain rfl := Option.some.inj hf
      exact fm_zret C hr hk0 r54 dX0_reckon_279
    · rw [if_neg r54] at hf; cases hf
  rw [if_neg w50] at hf
  by_cases w55 : v 58 x1.toNatClampNeg = 9
  · rw [if_pos w55] at hf
    refine fm_tableIn C (off := 250) 280 dX0_reckon_30 (by rw [w55]; decide) (by rw [w55]; decide) (by rw [w55] <;> rfl) (by decide) ?_
    refine fm_aload_n C dX0_reckon_280 rfl 2 rfl 281 rfl ?_
    refine fm_get C (t := lo k) (lo_lt hk) ((shC_lo hk) _) rfl inG_X0 6 (by decide) F_X0_30 rfl dX0_reckon_281 284 rfl ?_
    refine fm_aload_n C dX0_reckon_284 rfl 2 rfl 285 rfl ?_
    refine fm_get C (t := lo k) (lo_lt hk) ((shC_lo hk) _) rfl inG_X0 0 (by decide) F_X0_34 rfl dX0_reckon_285 288 rfl ?_
    refine fm_iload_n C dX0_reckon_288 rfl 1 rfl 289 rfl ?_
    obtain ⟨q57, h56, hf⟩ := Option.bind_eq_some_iff.mp hf
    refine fm_callN C Y_X2_countConstants (t := 1) (by decide) (shC_1 _) rfl LN_X0_115 (As := [.int (v 59 x1.toNatClampNeg)]) (rest := [.ref (b + (bo k + 16))]) (c_X2_countConstants  h56) (by omega) (by omega) rfl (Nat.le_of_ble_eq_true rfl) dX0_reckon_289 292 rfl [.int q57.1, .ref (b + (bo k + 16))] rfl ?_
    obtain ⟨q59, h58, hf⟩ := Option.bind_eq_some_iff.mp hf
    refine fm_callN C Y_X1_succeed (t := bo k + 16) (isO_lt (isO_now hk)) ((shC_O (isO_now hk)) _) rfl LN_X0_93 (As := [.int q57.1]) (rest := []) (c_X1_succeed (isO_now hk) h58) (by omega) (by omega) rfl (Nat.le_of_ble_eq_true rfl) dX0_reckon_292 295 rfl [.int q59.1] rfl ?_
    by_cases r60 : q59.1 = 0 ∨ q59.1 = 1
    · rw [if_pos r60] at hf
      obtain rfl := Option.some.inj hf
      exact fm_zret C hr hk0 r60 dX0_reckon_295
    · rw [if_neg r60] at hf; cases hf
  rw [if_neg w55] at hf
  by_cases w61 : v 58 x1.toNatClampNeg = 10
  · rw [if_pos w61] at hf
    refine fm_tableIn C (off := 266) 296 dX0_reckon_30 (by rw [w61]; decide) (by rw [w61]; decide) (by rw [w61] <;> rfl) (by decide) ?_
    refine fm_aload_n C dX0_reckon_296 rfl 2 rfl 297 rfl ?_
    refine fm_iload_n C dX0_reckon_297 rfl 1 rfl 298 rfl ?_
    refine fm_iload_n C dX0_reckon_298 rfl 4 rfl 299 rfl ?_
    obtain ⟨q63, h62, hf⟩ := Option.bind_eq_some_iff.mp hf
    refine fm_callV C Y_X0_begin (t := lo k) (lo_lt hk) ((shC_lo hk) _) rfl LM_X0_62 (As := [.int (v 59 x1.toNatClampNeg), .int x2]) (rest := []) (G.2.1 hk h62) (by omega) (by omega) rfl (Nat.le_of_ble_eq_true rfl) dX0_reckon_299 302 rfl [.int q63.1] rfl ?_
    refine fm_if_eq C 320 dX0_reckon_302 (by decide) (fun c64 => ?_) 305 rfl (fun c64 => ?_)
    · rw [if_pos c64] at hf
      refine fm_iconst C (x := 0) dX0_reckon_320 (by decide) 321 rfl ?_
      obtain rfl := Option.some.inj hf
      exact fm_zret C hr hk0 (Or.inl rfl) dX0_reckon_321
    · rw [if_neg c64] at hf
      refine fm_aload_n C dX0_reckon_305 rfl 2 rfl 306 rfl ?_
      refine fm_get C (t := lo k) (lo_lt hk) ((shC_lo hk) _) rfl inG_X0 6 (by decide) F_X0_30 rfl dX0_reckon_306 309 rfl ?_
      refine fm_iconst C (x := 1) dX0_reckon_309 (by decide) 310 rfl ?_
      obtain ⟨q66, h65, hf⟩ := Option.bind_eq_some_iff.mp hf
      refine fm_callN C Y_X1_succeed (t := bo k + 16) (isO_lt (isO_now hk)) ((shC_O (isO_now hk)) _) rfl LN_X0_93 (As := [.int 1]) (rest := []) (c_X1_succeed (isO_now hk) h65) (by omega) (by omega) rfl (Nat.le_of_ble_eq_true rfl) dX0_reckon_310 313 rfl [.int q66.1] rfl ?_
      refine fm_if_eq C 320 dX0_reckon_313 (by decide) (fun c67 => ?_) 316 rfl (fun c67 => ?_)
      · rw [if_pos c67] at hf
        refine fm_iconst C (x := 0) dX0_reckon_320 (by decide) 321 rfl ?_
        obtain rfl := Option.some.inj hf
        exact fm_zret C hr hk0 (Or.inl rfl) dX0_reckon_321
      · rw [if_neg c67] at hf
        refine fm_iconst C (x := 1) dX0_reckon_316 (by decide) 317 rfl ?_
        refine fm_goto C 321 dX0_reckon_317 (by decide) ?_
        obtain rfl := Option.some.inj hf
        exact fm_zret C hr hk0 (Or.inr rfl) dX0_reckon_321
  rw [if_neg w61] at hf
  by_cases w68 : v 58 x1.toNatClampNeg = 11
  · rw [if_pos w68] at hf
    refine fm_tableIn C (off := 292) 322 dX0_reckon_30 (by rw [w68]; decide) (by rw [w68]; decide) (by rw [w68] <;> rfl) (by decide) ?_
    refine fm_aload_n C dX0_reckon_322 rfl 2 rfl 323 rfl ?_
    refine fm_iload_n C dX0_reckon_323 rfl 1 rfl 324 rfl ?_
    refine fm_iload_n C dX0_reckon_324 rfl 4 rfl 325 rfl ?_
    obtain ⟨q70, h69, hf⟩ := Option.bind_eq_some_iff.mp hf
    refine fm_callV C Y_X0_obtain (t := lo k) (lo_lt hk) ((shC_lo hk) _) rfl LM_X0_96 (As := [.int (v 59 x1.toNatClampNeg), .int x2]) (rest := []) (G.1 hk h69) (by omega) (by omega) rfl (Nat.le_of_ble_eq_true rfl) dX0_reckon_325 328 rfl [.int q70.1] rfl ?_
    refine fm_if_eq C 360 dX0_reckon_328 (by decide) (fun c71 => ?_) 331 rfl (fun c71 => ?_)
    · rw [if_pos c71] at hf
      refine fm_iconst C (x := 0) dX0_reckon_360 (by decide) 361 rfl ?_
      obtain rfl := Option.some.inj hf
      exact fm_zret C hr hk0 (Or.inl rfl) dX0_reckon_361
    · rw [if_neg c71] at hf
      refine fm_aload_n C dX0_reckon_331 rfl 2 rfl 332 rfl ?_
      refine fm_aload_n C dX0_reckon_332 rfl 2 rfl 333 rfl ?_
      refine fm_get C (t := lo k) (lo_lt hk) ((shC_lo hk) _) rfl inG_X0 0 (by decide) F_X0_34 rfl dX0_reckon_333 336 rfl ?_
      refine fm_getN C (t := 1) (by decide) (shC_1 _) rfl inG_X2 9 (by decide) FN_X0_59 rfl dX0_reckon_336 339 rfl ?_
      refine fm_iload_n C dX0_reckon_339 rfl 3 rfl 340 rfl ?_
      refine fm_iald C (t := 57) (t0 := 0) (by decide) (shC_57 _) rfl b1 dX0_reckon_340 341 rfl ?_
      refine fm_iload C dX0_reckon_341 0 rfl 343 rfl ?_
      refine fm_aload_n C dX0_reckon_343 rfl 2 rfl 344 rfl ?_
      refine fm_get C (t := lo k) (lo_lt hk) ((shC_lo hk) _) rfl inG_X0 6 (by decide) F_X0_30 rfl dX0_reckon_344 347 rfl ?_
      refine fm_getN C (t := bo k + 16) (isO_lt (isO_now hk)) ((shC_O (isO_now hk)) _) rfl inG_X1 0 (by decide) FN_X0_99 rfl dX0_reckon_347 350 rfl ?_
      obtain ⟨q73, h72, hf⟩ := Option.bind_eq_some_iff.mp hf
      refine fm_callV C Y_X0_writeItem (t := lo k) (lo_lt hk) ((shC_lo hk) _) rfl LM_X0_119 (As := [.int (q70.2 57 x1.toNatClampNeg), .int (v 60 x1.toNatClampNeg), .int (q70.2 (bo k + 16) 0)]) (rest := []) (c_X0_writeItem hk h72) (by omega) (by omega) rfl (Nat.le_of_ble_eq_true rfl) dX0_reckon_350 353 rfl [.int q73.1] rfl ?_
      refine fm_if_eq C 360 dX0_reckon_353 (by decide) (fun c74 => ?_) 356 rfl (fun c74 => ?_)
      · rw [if_pos c74] at hf
        refine fm_iconst C (x := 0) dX0_reckon_360 (by decide) 361 rfl ?_
        obtain rfl := Option.some.inj hf
        exact fm_zret C hr hk0 (Or.inl rfl) dX0_reckon_361
      · rw [if_neg c74] at hf
        refine fm_iconst C (x := 1) dX0_reckon_356 (by decide) 357 rfl ?_
        refine fm_goto C 361 dX0_reckon_357 (by decide) ?_
        obtain rfl := Option.some.inj hf
        exact fm_zret C hr hk0 (Or.inr rfl) dX0_reckon_361
  rw [if_neg w68] at hf
  refine fm_tableOut C 362 dX0_reckon_30 (by have := lv_neT (a := 0) w2 (by decide); have := lv_neT (a := 1) w6 (by decide); have := lv_neT (a := 2) w13 (by decide); have := lv_neT (a := 3) w17 (by decide); have := lv_neT (a := 4) w21 (by decide); have := lv_neT (a := 5) w28 (by decide); have := lv_neT (a := 6) w35 (by decide); have := lv_neT (a := 7) w39 (by decide); have := lv_neT (a := 8) w50 (by decide); have := lv_neT (a := 9) w55 (by decide); have := lv_neT (a := 10) w61 (by decide); have := lv_neT (a := 11) w68 (by decide); omega) (by decide) ?_
  refine fm_aload_n C dX0_reckon_362 rfl 2 rfl 363 rfl ?_
  refine fm_get C (t := lo k) (lo_lt hk) ((shC_lo hk) _) rfl inG_X0 6 (by decide) F_X0_30 rfl dX0_reckon_363 366 rfl ?_
  refine fm_iconst C (x := 3) dX0_reckon_366 (by decide) 367 rfl ?_
  refine fm_iload_n C dX0_reckon_367 rfl 1 rfl 368 rfl ?_
  obtain ⟨q76, h75, hf⟩ := Option.bind_eq_some_iff.mp hf
  refine fm_callN C Y_X1_fail (t := bo k + 16) (isO_lt (isO_now hk)) ((shC_O (isO_now hk)) _) rfl LN_X0_55 (As := [.int 3, .int (v 59 x1.toNatClampNeg)]) (rest := []) (c_X1_fail (isO_now hk) h75) (by omega) (by omega) rfl (Nat.le_of_ble_eq_true rfl) dX0_reckon_368 371 rfl [.int q76.1] rfl ?_
  by_cases r77 : q76.1 = 0 ∨ q76.1 = 1
  · rw [if_pos r77] at hf
    obtain rfl := Option.some.inj hf
    exact fm_zret C hr hk0 r77 dX0_reckon_371
  · rw [if_neg r77] at hf; cases hf
def f_X0_multiply (g : GT) (k : Nat) (x1 : Int32) (x2 : Int32) (x3 : Int32) (v : fm_T) : Option (Int32 × fm_T) := ((g 0 k x1 x3 0 v).bind fun q2 => (if q2.1 = 0 then some (0, q2.2) else ((g 0 k x2 x3 0 q2.2).bind fun q5 => (if q5.1 = 0 then some (0, q5.2) else ((f_X1_succeed (bo k + 16) ((q2.2 (bo k + 16) 0) * (q5.2 (bo k + 16) 0)) q5.2).bind fun q8 => (if q8.1 = 0 then some (0, q8.2) else some (1, q8.2)))))))
set_option maxHeartbeats 4000000 in
set_option maxRecDepth 20000 in
theorem c_X0_multiply {k : Nat} {x1 : Int32} {x2 : Int32} {x3 : Int32} {g : GT} {h : Nat} (G : GG l D tA cI cII cLd cOc b A g h) (hh : 3 ≤ h) (hk : k < 4) {v : fm_T} {q : Int32 × fm_T} (hf : f_X0_multiply g k x1 x2 x3 v = some q) : fm_M l D (fm_tys cI cII cLd cOc) tA b 305 (shC cI cII cLd cOc b) A yX0_multiply cX0_multiply 5 (some .boolean) (h + 1) [.ref (b + (lo k)), .int x1, .int x2, .int x3] v (some (.int q.1)) q.2 := by
  refine fm_entry (by decide) (Nat.le_of_ble_eq_true rfl) ?_
  intro p e R s m args below meth c C hr hk0 hF hLo
  unfold f_X0_multiply at hf
  show fm_V p l e R s m args below meth c D b 305 (shC cI cII cLd cOc b) A _ 5 0 [(0, .ref (b + (lo k))), (1, .int x1), (2, .int x2), (3, .int x3)] [] v
  refine fm_aload_n C dX0_multiply_0 rfl 0 rfl 1 rfl ?_
  refine fm_iload_n C dX0_multiply_1 rfl 1 rfl 2 rfl ?_
  refine fm_iload_n C dX0_multiply_2 rfl 3 rfl 3 rfl ?_
  obtain ⟨q2, h1, hf⟩ := Option.bind_eq_some_iff.mp hf
  refine fm_callV C Y_X0_obtain (t := lo k) (lo_lt hk) ((shC_lo hk) _) rfl LM_X0_96 (As := [.int x1, .int x3]) (rest := []) (G.1 hk h1) (by omega) (by omega) rfl (Nat.le_of_ble_eq_true rfl) dX0_multiply_3 6 rfl [.int q2.1] rfl ?_
  refine fm_if_ne C 11 dX0_multiply_6 (by decide) (fun c3 => ?_) 9 rfl (fun c3 => ?_)
  · rw [if_neg c3] at hf
    refine fm_aload_n C dX0_multiply_11 rfl 0 rfl 12 rfl ?_
    refine fm_get C (t := lo k) (lo_lt hk) ((shC_lo hk) _) rfl inG_X0 6 (by decide) F_X0_30 rfl dX0_multiply_12 15 rfl ?_
    refine fm_getN C (t := bo k + 16) (isO_lt (isO_now hk)) ((shC_O (isO_now hk)) _) rfl inG_X1 0 (by decide) FN_X0_99 rfl dX0_multiply_15 18 rfl ?_
    refine fm_istore C [(4, .int (q2.2 (bo k + 16) 0)), (0, .ref (b + (lo k))), (1, .int x1), (2, .int x2), (3, .int x3)] dX0_multiply_18 (by decide) rfl 20 rfl ?_
    refine fm_aload_n C dX0_multiply_20 rfl 1 rfl 21 rfl ?_
    refine fm_iload_n C dX0_multiply_21 rfl 3 rfl 22 rfl ?_
    refine fm_iload_n C dX0_multiply_22 rfl 4 rfl 23 rfl ?_
    obtain ⟨q5, h4, hf⟩ := Option.bind_eq_some_iff.mp hf
    refine fm_callV C Y_X0_obtain (t := lo k) (lo_lt hk) ((shC_lo hk) _) rfl LM_X0_96 (As := [.int x2, .int x3]) (rest := []) (G.1 hk h4) (by omega) (by omega) rfl (Nat.le_of_ble_eq_true rfl) dX0_multiply_23 26 rfl [.int q5.1] rfl ?_
    refine fm_if_eq C 53 dX0_multiply_26 (by decide) (fun c6 => ?_) 29 rfl (fun c6 => ?_)
    · rw [if_pos c6] at hf
      refine fm_iconst C (x := 0) dX0_multiply_53 (by decide) 54 rfl ?_
      obtain rfl := Option.some.inj hf
      exact fm_zret C hr hk0 (Or.inl rfl) dX0_multiply_54
    · rw [if_neg c6] at hf
      refine fm_aload_n C dX0_multiply_29 rfl 1 rfl 30 rfl ?_
      refine fm_get C (t := lo k) (lo_lt hk) ((shC_lo hk) _) rfl inG_X0 6 (by decide) F_X0_30 rfl dX0_multiply_30 33 rfl ?_
      refine fm_iload C dX0_multiply_33 0 rfl 35 rfl ?_
      refine fm_aload_n C dX0_multiply_35 rfl 1 rfl 36 rfl ?_
      refine fm_get C (t := lo k) (lo_lt hk) ((shC_lo hk) _) rfl inG_X0 6 (by decide) F_X0_30 rfl dX0_multiply_36 39 rfl ?_
      refine fm_getN C (t := bo k + 16) (isO_lt (isO_now hk)) ((shC_O (isO_now hk)) _) rfl inG_X1 0 (by decide) FN_X0_99 rfl dX0_multiply_39 42 rfl ?_
      refine fm_imul C dX0_multiply_42 43 rfl ?_
      obtain ⟨q8, h7, hf⟩ := Option.bind_eq_some_iff.mp hf
      refine fm_callN C Y_X1_succeed (t := bo k + 16) (isO_lt (isO_now hk)) ((shC_O (isO_now hk)) _) rfl LN_X0_93 (As := [.int ((q2.2 (bo k + 16) 0) * (q5.2 (bo k + 16) 0))]) (rest := []) (c_X1_succeed (isO_now hk) h7) (by omega) (by omega) rfl (Nat.le_of_ble_eq_true rfl) dX0_multiply_43 46 rfl [.int q8.1] rfl ?_
      refine fm_if_eq C 53 dX0_multiply_46 (by decide) (fun c9 => ?_) 49 rfl (fun c9 => ?_)
      · rw [if_pos c9] at hf
        refine fm_iconst C (x := 0) dX0_multiply_53 (by decide) 54 rfl ?_
        obtain rfl := Option.some.inj hf
        exact fm_zret C hr hk0 (Or.inl rfl) dX0_multiply_54
      · rw [if_neg c9] at hf
        refine fm_iconst C (x := 1) dX0_multiply_49 (by decide) 50 rfl ?_
        refine fm_goto C 54 dX0_multiply_50 (by decide) ?_
        obtain rfl := Option.some.inj hf
        exact fm_zret C hr hk0 (Or.inr rfl) dX0_multiply_54
  · rw [if_pos c3] at hf
    refine fm_iconst C (x := 0) dX0_multiply_9 (by decide) 10 rfl ?_
    obtain rfl := Option.some.inj hf
    exact fm_zret C hr hk0 (Or.inl rfl) dX0_multiply_10
def f_X0_divide (g : GT) (k : Nat) (x1 : Int32) (x2 : Int32) (x3 : Int32) (v : fm_T) : Option (Int32 × fm_T) := ((g 0 k x1 x3 0 v).bind fun q2 => (if q2.1 = 0 then some (0, q2.2) else ((g 0 k x2 x3 0 q2.2).bind fun q5 => (if q5.1 = 0 then some (0, q5.2) else (if q5.2 (bo k + 16) 0 = 0 then ((f_X1_fail (bo k + 16) 1 0 q5.2).bind fun q12 => (if q12.1 = 0 ∨ q12.1 = 1 then some (q12.1, q12.2) else none)) else ((f_X1_succeed (bo k + 16) ((q2.2 (bo k + 16) 0) / (q5.2 (bo k + 16) 0)) q5.2).bind fun q9 => (if q9.1 = 0 ∨ q9.1 = 1 then some (q9.1, q9.2) else none)))))))
set_option maxHeartbeats 4000000 in
set_option maxRecDepth 20000 in
theorem c_X0_divide {k : Nat} {x1 : Int32} {x2 : Int32} {x3 : Int32} {g : GT} {h : Nat} (G : GG l D tA cI cII cLd cOc b A g h) (hh : 3 ≤ h) (hk : k < 4) {v : fm_T} {q : Int32 × fm_T} (hf : f_X0_divide g k x1 x2 x3 v = some q) : fm_M l D (fm_tys cI cII cLd cOc) tA b 305 (shC cI cII cLd cOc b) A yX0_divide cX0_divide 6 (some .boolean) (h + 1) [.ref (b + (lo k)), .int x1, .int x2, .int x3] v (some (.int q.1)) q.2 := by
  refine fm_entry (by decide) (Nat.le_of_ble_eq_true rfl) ?_
  intro p e R s m args below meth c C hr hk0 hF hLo
  unfold f_X0_divide at hf
  show fm_V p l e R s m args below meth c D b 305 (shC cI cII cLd cOc b) A _ 6 0 [(0, .ref (b + (lo k))), (1, .int x1), (2, .int x2), (3, .int x3)] [] v
  refine fm_aload_n C dX0_divide_0 rfl 0 rfl 1 rfl ?_
  refine fm_iload_n C dX0_divide_1 rfl 1 rfl 2 rfl ?_
  refine fm_iload_n C dX0_divide_2 rfl 3 rfl 3 rfl ?_
  obtain ⟨q2, h1, hf⟩ := Option.bind_eq_some_iff.mp hf
  refine fm_callV C Y_X0_obtain (t := lo k) (lo_lt hk) ((shC_lo hk) _) rfl LM_X0_96 (As := [.int x1, .int x3]) (rest := []) (G.1 hk h1) (by omega) (by omega) rfl (Nat.le_of_ble_eq_true rfl) dX0_divide_3 6 rfl [.int q2.1] rfl ?_
  refine fm_if_ne C 11 dX0_divide_6 (by decide) (fun c3 => ?_) 9 rfl (fun c3 => ?_)
  · rw [if_neg c3] at hf
    refine fm_aload_n C dX0_divide_11 rfl 0 rfl 12 rfl ?_
    refine fm_get C (t := lo k) (lo_lt hk) ((shC_lo hk) _) rfl inG_X0 6 (by decide) F_X0_30 rfl dX0_divide_12 15 rfl ?_
    refine fm_getN C (t := bo k + 16) (isO_lt (isO_now hk)) ((shC_O (isO_now hk)) _) rfl inG_X1 0 (by decide) FN_X0_99 rfl dX0_divide_15 18 rfl ?_
    refine fm_istore C [(4, .int (q2.2 (bo k + 16) 0)), (0, .ref (b + (lo k))), (1, .int x1), (2, .int x2), (3, .int x3)] dX0_divide_18 (by decide) rfl 20 rfl ?_
    refine fm_aload_n C dX0_divide_20 rfl 1 rfl 21 rfl ?_
    refine fm_iload_n C dX0_divide_21 rfl 3 rfl 22 rfl ?_
    refine fm_iload_n C dX0_divide_22 rfl 4 rfl 23 rfl ?_
    obtain ⟨q5, h4, hf⟩ := Option.bind_eq_some_iff.mp hf
    refine fm_callV C Y_X0_obtain (t := lo k) (lo_lt hk) ((shC_lo hk) _) rfl LM_X0_96 (As := [.int x2, .int x3]) (rest := []) (G.1 hk h4) (by omega) (by omega) rfl (Nat.le_of_ble_eq_true rfl) dX0_divide_23 26 rfl [.int q5.1] rfl ?_
    refine fm_if_ne C 31 dX0_divide_26 (by decide) (fun c6 => ?_) 29 rfl (fun c6 => ?_)
    · rw [if_neg c6] at hf
      refine fm_aload_n C dX0_divide_31 rfl 1 rfl 32 rfl ?_
      refine fm_get C (t := lo k) (lo_lt hk) ((shC_lo hk) _) rfl inG_X0 6 (by decide) F_X0_30 rfl dX0_divide_32 35 rfl ?_
      refine fm_getN C (t := bo k + 16) (isO_lt (isO_now hk)) ((shC_O (isO_now hk)) _) rfl inG_X1 0 (by decide) FN_X0_99 rfl dX0_divide_35 38 rfl ?_
      refine fm_istore C [(5, .int (q5.2 (bo k + 16) 0)), (4, .int (q2.2 (bo k + 16) 0)), (0, .ref (b + (lo k))), (1, .int x1), (2, .int x2), (3, .int x3)] dX0_divide_38 (by decide) rfl 40 rfl ?_
      refine fm_iload C dX0_divide_40 0 rfl 42 rfl ?_
      refine fm_if_ne C 57 dX0_divide_42 (by decide) (fun c7 => ?_) 45 rfl (fun c7 => ?_)
      · rw [if_neg c7] at hf
        refine fm_aload_n C dX0_divide_57 rfl 2 rfl 58 rfl ?_
        refine fm_get C (t := lo k) (lo_lt hk) ((shC_lo hk) _) rfl inG_X0 6 (by decide) F_X0_30 rfl dX0_divide_58 61 rfl ?_
        refine fm_iload C dX0_divide_61 1 rfl 63 rfl ?_
        refine fm_iload C dX0_divide_63 0 rfl 65 rfl ?_
        refine fm_idiv C dX0_divide_65 c7 66 rfl ?_
        obtain ⟨q9, h8, hf⟩ := Option.bind_eq_some_iff.mp hf
        refine fm_callN C Y_X1_succeed (t := bo k + 16) (isO_lt (isO_now hk)) ((shC_O (isO_now hk)) _) rfl LN_X0_93 (As := [.int ((q2.2 (bo k + 16) 0) / (q5.2 (bo k + 16) 0))]) (rest := []) (c_X1_succeed (isO_now hk) h8) (by omega) (by omega) rfl (Nat.le_of_ble_eq_true rfl) dX0_divide_66 69 rfl [.int q9.1] rfl ?_
        by_cases r10 : q9.1 = 0 ∨ q9.1 = 1
        · rw [if_pos r10] at hf
          obtain rfl := Option.some.inj hf
          exact fm_zret C hr hk0 r10 dX0_divide_69
        · rw [if_neg r10] at hf; cases hf
      · rw [if_pos c7] at hf
        refine fm_aload_n C dX0_divide_45 rfl 2 rfl 46 rfl ?_
        refine fm_get C (t := lo k) (lo_lt hk) ((shC_lo hk) _) rfl inG_X0 6 (by decide) F_X0_30 rfl dX0_divide_46 49 rfl ?_
        refine fm_iconst C (x := 1) dX0_divide_49 (by decide) 50 rfl ?_
        refine fm_iconst C (x := 0) dX0_divide_50 (by decide) 51 rfl ?_
        obtain ⟨q12, h11, hf⟩ := Option.bind_eq_some_iff.mp hf
        refine fm_callN C Y_X1_fail (t := bo k + 16) (isO_lt (isO_now hk)) ((shC_O (isO_now hk)) _) rfl LN_X0_55 (As := [.int 1, .int 0]) (rest := []) (c_X1_fail (isO_now hk) h11) (by omega) (by omega) rfl (Nat.le_of_ble_eq_true rfl) dX0_divide_51 54 rfl [.int q12.1] rfl ?_
        refine fm_goto C 69 dX0_divide_54 (by decide) ?_
        by_cases r13 : q12.1 = 0 ∨ q12.1 = 1
        · rw [if_pos r13] at hf
          obtain rfl := Option.some.inj hf
          exact fm_zret C hr hk0 r13 dX0_divide_69
        · rw [if_neg r13] at hf; cases hf
    · rw [if_pos c6] at hf
      refine fm_iconst C (x := 0) dX0_divide_29 (by decide) 30 rfl ?_
      obtain rfl := Option.some.inj hf
      exact fm_zret C hr hk0 (Or.inl rfl) dX0_divide_30
  · rw [if_pos c3] at hf
    refine fm_iconst C (x := 0) dX0_divide_9 (by decide) 10 rfl ?_
    obtain rfl := Option.some.inj hf
    exact fm_zret C hr hk0 (Or.inl rfl) dX0_divide_10
def f_X0_beginUsed_2 (g : GT) : Nat → Nat → Int32 → Int32 → Int32 → fm_T → Option (Int32 × fm_T)
  | 0 => fun _ _ _ _ _ => none
  | n + 1 => fun k x1 x2 x3 v => (if x1 < 0 ∨ 12 ≤ x1.toNatClampNeg then none else (if v 16 x1.toNatClampNeg ≤ x3 then some (1, v) else (if x3 < 0 ∨ 6 ≤ x3.toNatClampNeg then none else ((g 1 k (v (18 + x1.toNatClampNeg) x3.toNatClampNeg) x2 0 v).bind fun q5 => (if q5.1 = 0 then some (0, q5.2) else f_X0_beginUsed_2 g n k x1 x2 (x3 + 1) q5.2)))))
theorem f_X0_beginUsed_2_s (g : GT) (n : Nat) (k : Nat) (x1 : Int32) (x2 : Int32) (x3 : Int32) (v : fm_T) : f_X0_beginUsed_2 g (n + 1) k x1 x2 x3 v = (if x1 < 0 ∨ 12 ≤ x1.toNatClampNeg then none else (if v 16 x1.toNatClampNeg ≤ x3 then some (1, v) else (if x3 < 0 ∨ 6 ≤ x3.toNatClampNeg then none else ((g 1 k (v (18 + x1.toNatClampNeg) x3.toNatClampNeg) x2 0 v).bind fun q5 => (if q5.1 = 0 then some (0, q5.2) else f_X0_beginUsed_2 g n k x1 x2 (x3 + 1) q5.2))))) := rfl
set_option maxHeartbeats 4000000 in
set_option maxRecDepth 20000 in
theorem b_X0_beginUsed_2 {k : Nat} {g : GT} {h : Nat} (G : GG l D tA cI cII cLd cOc b A g h) (hh : 3 ≤ h) (hk : k < 4) {p : Program} {e : Env} {R : Room} {s : State} {m : MethodId} {args : Array Value} {below : List Frame} {meth : Method} {c : Code} (C : fm_C p s m args c cX0_beginUsed RX0 4 D (fm_tys cI cII cLd cOc) tA b 305 A) (hr : meth.sig.returnType = (some .boolean)) (hk0 : meth.locks = false) (hF : (h + 1) ≤ R.frames) (hLo : 40 * (h + 1) ≤ R.locals) : ∀ (n : Nat) (x1 : Int32) (x2 : Int32) (x3 : Int32) (v : fm_T) {q : Int32 × fm_T}, f_X0_beginUsed_2 g n k x1 x2 x3 v = some q → fm_V p l e R s m args below meth c D b 305 (shC cI cII cLd cOc b) A (MQ below (fm_Q D b 305 (shC cI cII cLd cOc b) A (some (.int q.1)) q.2) args s 0 0 A) 4 2 [(0, .ref (b + (lo k))), (1, .int x1), (2, .int x2), (3, .int x3)] [] v := by
  intro n
  induction n with
  | zero =>
    intro x1 x2 x3 v q hf
    cases (show (none : Option (Int32 × fm_T)) = some q from hf)
  | succ n ih =>
    intro x1 x2 x3 v q hf
    rw [f_X0_beginUsed_2_s] at hf
    refine fm_iload_n C dX0_beginUsed_2 rfl 3 rfl 3 rfl ?_
    refine fm_aload_n C dX0_beginUsed_3 rfl 0 rfl 4 rfl ?_
    refine fm_get C (t := lo k) (lo_lt hk) ((shC_lo hk) _) rfl inG_X0 0 (by decide) F_X0_34 rfl dX0_beginUsed_4 7 rfl ?_
    refine fm_getN C (t := 1) (by decide) (shC_1 _) rfl inG_X2 3 (by decide) FN_X0_140 rfl dX0_beginUsed_7 10 rfl ?_
    refine fm_iload_n C dX0_beginUsed_10 rfl 1 rfl 11 rfl ?_
    by_cases b1 : x1 < 0 ∨ 12 ≤ x1.toNatClampNeg
    · rw [if_pos b1] at hf; cases hf
    rw [if_neg b1] at hf
    refine fm_iald C (t := 16) (t0 := 0) (by decide) (shC_16 _) rfl b1 dX0_beginUsed_11 12 rfl ?_
    refine fm_icmp_ge C 42 dX0_beginUsed_12 (by decide) (fun c2 => ?_) 15 rfl (fun c2 => ?_)
    · rw [if_pos c2] at hf
      refine fm_iconst C (x := 1) dX0_beginUsed_42 (by decide) 43 rfl ?_
      obtain rfl := Option.some.inj hf
      exact fm_zret C hr hk0 (Or.inr rfl) dX0_beginUsed_43
    · rw [if_neg c2] at hf
      refine fm_aload_n C dX0_beginUsed_15 rfl 0 rfl 16 rfl ?_
      refine fm_aload_n C dX0_beginUsed_16 rfl 0 rfl 17 rfl ?_
      refine fm_get C (t := lo k) (lo_lt hk) ((shC_lo hk) _) rfl inG_X0 0 (by decide) F_X0_34 rfl dX0_beginUsed_17 20 rfl ?_
      refine fm_getN C (t := 1) (by decide) (shC_1 _) rfl inG_X2 4 (by decide) FN_X0_143 rfl dX0_beginUsed_20 23 rfl ?_
      refine fm_iload_n C dX0_beginUsed_23 rfl 1 rfl 24 rfl ?_
      refine fm_aald C (t := 17) (t0 := 1) (by decide) (shC_17 _) rfl rfl b1 (x := b + (18 + x1.toNatClampNeg)) (in_some (g := fun i => b + (18 + i)) b1) dX0_beginUsed_24 25 rfl ?_
      refine fm_iload_n C dX0_beginUsed_25 rfl 3 rfl 26 rfl ?_
      by_cases b3 : x3 < 0 ∨ 6 ≤ x3.toNatClampNeg
      · rw [if_pos b3] at hf; cases hf
      rw [if_neg b3] at hf
      refine fm_iald C (t := 18 + x1.toNatClampNeg) (t0 := 0) (by have := in_lt b1; omega) ((shC_r18 (in_lt b1)) _) rfl b3 dX0_beginUsed_26 27 rfl ?_
      refine fm_iload_n C dX0_beginUsed_27 rfl 2 rfl 28 rfl ?_
      obtain ⟨q5, h4, hf⟩ := Option.bind_eq_some_iff.mp hf
      refine fm_callV C Y_X0_begin (t := lo k) (lo_lt hk) ((shC_lo hk) _) rfl LM_X0_62 (As := [.int (v (18 + x1.toNatClampNeg) x3.toNatClampNeg), .int x2]) (rest := []) (G.2.1 hk h4) (by omega) (by omega) rfl (Nat.le_of_ble_eq_true rfl) dX0_beginUsed_28 31 rfl [.int q5.1] rfl ?_
      refine fm_if_ne C 36 dX0_beginUsed_31 (by decide) (fun c6 => ?_) 34 rfl (fun c6 => ?_)
      · rw [if_neg c6] at hf
        refine fm_iinc C [(3, .int (x3 + 1)), (0, .ref (b + (lo k))), (1, .int x1), (2, .int x2)] dX0_beginUsed_36 3 rfl rfl (by decide) rfl 39 rfl ?_
        refine fm_goto C 2 dX0_beginUsed_39 (by decide) ?_
        refine fm_lv [1, 2, 3, 0] [(0, .ref (b + (lo k))), (1, .int x1), (2, .int x2), (3, .int (x3 + 1))] rfl ?_
        exact ih x1 x2 (x3 + 1) q5.2 hf
      · rw [if_pos c6] at hf
        refine fm_iconst C (x := 0) dX0_beginUsed_34 (by decide) 35 rfl ?_
        obtain rfl := Option.some.inj hf
        exact fm_zret C hr hk0 (Or.inl rfl) dX0_beginUsed_35
def f_X0_beginUsed (g : GT) (k : Nat) (x1 : Int32) (x2 : Int32) (v : fm_T) : Option (Int32 × fm_T) := f_X0_beginUsed_2 g 1000 k x1 x2 0 v
set_option maxHeartbeats 4000000 in
set_option maxRecDepth 20000 in
theorem c_X0_beginUsed {k : Nat} {x1 : Int32} {x2 : Int32} {g : GT} {h : Nat} (G : GG l D tA cI cII cLd cOc b A g h) (hh : 3 ≤ h) (hk : k < 4) {v : fm_T} {q : Int32 × fm_T} (hf : f_X0_beginUsed g k x1 x2 v = some q) : fm_M l D (fm_tys cI cII cLd cOc) tA b 305 (shC cI cII cLd cOc b) A yX0_beginUsed cX0_beginUsed 4 (some .boolean) (h + 1) [.ref (b + (lo k)), .int x1, .int x2] v (some (.int q.1)) q.2 := by
  refine fm_entry (by decide) (Nat.le_of_ble_eq_true rfl) ?_
  intro p e R s m args below meth c C hr hk0 hF hLo
  unfold f_X0_beginUsed at hf
  show fm_V p l e R s m args below meth c D b 305 (shC cI cII cLd cOc b) A _ 4 0 [(0, .ref (b + (lo k))), (1, .int x1), (2, .int x2)] [] v
  refine fm_iconst C (x := 0) dX0_beginUsed_0 (by decide) 1 rfl ?_
  refine fm_istore_n C [(3, .int 0), (0, .ref (b + (lo k))), (1, .int x1), (2, .int x2)] dX0_beginUsed_1 rfl (by decide) rfl 2 rfl ?_
  refine fm_lv [1, 2, 3, 0] [(0, .ref (b + (lo k))), (1, .int x1), (2, .int x2), (3, .int 0)] rfl ?_
  exact b_X0_beginUsed_2 G hh hk C hr hk0 hF hLo 1000 x1 x2 0 v hf
def f_X0_doDeeds_2 (g : GT) : Nat → Nat → Int32 → Int32 → Int32 → fm_T → Option (Int32 × fm_T)
  | 0 => fun _ _ _ _ _ => none
  | n + 1 => fun k x1 x2 x3 v => (if x1 < 0 ∨ 12 ≤ x1.toNatClampNeg then none else (if v 30 x1.toNatClampNeg ≤ x3 then some (1, v) else (if x3 < 0 ∨ 6 ≤ x3.toNatClampNeg then none else ((g 8 k (v (32 + x1.toNatClampNeg) x3.toNatClampNeg) (v (45 + x1.toNatClampNeg) x3.toNatClampNeg) x2 v).bind fun q5 => (if q5.1 = 0 then some (0, q5.2) else f_X0_doDeeds_2 g n k x1 x2 (x3 + 1) q5.2)))))
theorem f_X0_doDeeds_2_s (g : GT) (n : Nat) (k : Nat) (x1 : Int32) (x2 : Int32) (x3 : Int32) (v : fm_T) : f_X0_doDeeds_2 g (n + 1) k x1 x2 x3 v = (if x1 < 0 ∨ 12 ≤ x1.toNatClampNeg then none else (if v 30 x1.toNatClampNeg ≤ x3 then some (1, v) else (if x3 < 0 ∨ 6 ≤ x3.toNatClampNeg then none else ((g 8 k (v (32 + x1.toNatClampNeg) x3.toNatClampNeg) (v (45 + x1.toNatClampNeg) x3.toNatClampNeg) x2 v).bind fun q5 => (if q5.1 = 0 then some (0, q5.2) else f_X0_doDeeds_2 g n k x1 x2 (x3 + 1) q5.2))))) := rfl
set_option maxHeartbeats 4000000 in
set_option maxRecDepth 20000 in
theorem b_X0_doDeeds_2 {k : Nat} {g : GT} {h : Nat} (G : GG l D tA cI cII cLd cOc b A g h) (hh : 3 ≤ h) (hk : k < 4) {p : Program} {e : Env} {R : Room} {s : State} {m : MethodId} {args : Array Value} {below : List Frame} {meth : Method} {c : Code} (C : fm_C p s m args c cX0_doDeeds RX0 4 D (fm_tys cI cII cLd cOc) tA b 305 A) (hr : meth.sig.returnType = (some .boolean)) (hk0 : meth.locks = false) (hF : (h + 1) ≤ R.frames) (hLo : 40 * (h + 1) ≤ R.locals) : ∀ (n : Nat) (x1 : Int32) (x2 : Int32) (x3 : Int32) (v : fm_T) {q : Int32 × fm_T}, f_X0_doDeeds_2 g n k x1 x2 x3 v = some q → fm_V p l e R s m args below meth c D b 305 (shC cI cII cLd cOc b) A (MQ below (fm_Q D b 305 (shC cI cII cLd cOc b) A (some (.int q.1)) q.2) args s 0 0 A) 4 2 [(0, .ref (b + (lo k))), (1, .int x1), (2, .int x2), (3, .int x3)] [] v := by
  intro n
  induction n with
  | zero =>
    intro x1 x2 x3 v q hf
    cases (show (none : Option (Int32 × fm_T)) = some q from hf)
  | succ n ih =>
    intro x1 x2 x3 v q hf
    rw [f_X0_doDeeds_2_s] at hf
    refine fm_iload_n C dX0_doDeeds_2 rfl 3 rfl 3 rfl ?_
    refine fm_aload_n C dX0_doDeeds_3 rfl 0 rfl 4 rfl ?_
    refine fm_get C (t := lo k) (lo_lt hk) ((shC_lo hk) _) rfl inG_X0 0 (by decide) F_X0_34 rfl dX0_doDeeds_4 7 rfl ?_
    refine fm_getN C (t := 1) (by decide) (shC_1 _) rfl inG_X2 5 (by decide) FN_X0_146 rfl dX0_doDeeds_7 10 rfl ?_
    refine fm_iload_n C dX0_doDeeds_10 rfl 1 rfl 11 rfl ?_
    by_cases b1 : x1 < 0 ∨ 12 ≤ x1.toNatClampNeg
    · rw [if_pos b1] at hf; cases hf
    rw [if_neg b1] at hf
    refine fm_iald C (t := 30) (t0 := 0) (by decide) (shC_30 _) rfl b1 dX0_doDeeds_11 12 rfl ?_
    refine fm_icmp_ge C 53 dX0_doDeeds_12 (by decide) (fun c2 => ?_) 15 rfl (fun c2 => ?_)
    · rw [if_pos c2] at hf
      refine fm_iconst C (x := 1) dX0_doDeeds_53 (by decide) 54 rfl ?_
      obtain rfl := Option.some.inj hf
      exact fm_zret C hr hk0 (Or.inr rfl) dX0_doDeeds_54
    · rw [if_neg c2] at hf
      refine fm_aload_n C dX0_doDeeds_15 rfl 0 rfl 16 rfl ?_
      refine fm_aload_n C dX0_doDeeds_16 rfl 0 rfl 17 rfl ?_
      refine fm_get C (t := lo k) (lo_lt hk) ((shC_lo hk) _) rfl inG_X0 0 (by decide) F_X0_34 rfl dX0_doDeeds_17 20 rfl ?_
      refine fm_getN C (t := 1) (by decide) (shC_1 _) rfl inG_X2 6 (by decide) FN_X0_149 rfl dX0_doDeeds_20 23 rfl ?_
      refine fm_iload_n C dX0_doDeeds_23 rfl 1 rfl 24 rfl ?_
      refine fm_aald C (t := 31) (t0 := 1) (by decide) (shC_31 _) rfl rfl b1 (x := b + (32 + x1.toNatClampNeg)) (in_some (g := fun i => b + (32 + i)) b1) dX0_doDeeds_24 25 rfl ?_
      refine fm_iload_n C dX0_doDeeds_25 rfl 3 rfl 26 rfl ?_
      by_cases b3 : x3 < 0 ∨ 6 ≤ x3.toNatClampNeg
      · rw [if_pos b3] at hf; cases hf
      rw [if_neg b3] at hf
      refine fm_iald C (t := 32 + x1.toNatClampNeg) (t0 := 0) (by have := in_lt b1; omega) ((shC_r32 (in_lt b1)) _) rfl b3 dX0_doDeeds_26 27 rfl ?_
      refine fm_aload_n C dX0_doDeeds_27 rfl 0 rfl 28 rfl ?_
      refine fm_get C (t := lo k) (lo_lt hk) ((shC_lo hk) _) rfl inG_X0 0 (by decide) F_X0_34 rfl dX0_doDeeds_28 31 rfl ?_
      refine fm_getN C (t := 1) (by decide) (shC_1 _) rfl inG_X2 7 (by decide) FN_X0_152 rfl dX0_doDeeds_31 34 rfl ?_
      refine fm_iload_n C dX0_doDeeds_34 rfl 1 rfl 35 rfl ?_
      refine fm_aald C (t := 44) (t0 := 1) (by decide) (shC_44 _) rfl rfl b1 (x := b + (45 + x1.toNatClampNeg)) (in_some (g := fun i => b + (45 + i)) b1) dX0_doDeeds_35 36 rfl ?_
      refine fm_iload_n C dX0_doDeeds_36 rfl 3 rfl 37 rfl ?_
      refine fm_iald C (t := 45 + x1.toNatClampNeg) (t0 := 0) (by have := in_lt b1; omega) ((shC_r45 (in_lt b1)) _) rfl b3 dX0_doDeeds_37 38 rfl ?_
      refine fm_iload_n C dX0_doDeeds_38 rfl 2 rfl 39 rfl ?_
      obtain ⟨q5, h4, hf⟩ := Option.bind_eq_some_iff.mp hf
      refine fm_callV C Y_X0_doDeed (t := lo k) (lo_lt hk) ((shC_lo hk) _) rfl LM_X0_155 (As := [.int (v (32 + x1.toNatClampNeg) x3.toNatClampNeg), .int (v (45 + x1.toNatClampNeg) x3.toNatClampNeg), .int x2]) (rest := []) (G.2.2.2.2.2.2.2.2 hk h4) (by omega) (by omega) rfl (Nat.le_of_ble_eq_true rfl) dX0_doDeeds_39 42 rfl [.int q5.1] rfl ?_
      refine fm_if_ne C 47 dX0_doDeeds_42 (by decide) (fun c6 => ?_) 45 rfl (fun c6 => ?_)
      · rw [if_neg c6] at hf
        refine fm_iinc C [(3, .int (x3 + 1)), (0, .ref (b + (lo k))), (1, .int x1), (2, .int x2)] dX0_doDeeds_47 3 rfl rfl (by decide) rfl 50 rfl ?_
        refine fm_goto C 2 dX0_doDeeds_50 (by decide) ?_
        refine fm_lv [1, 2, 3, 0] [(0, .ref (b + (lo k))), (1, .int x1), (2, .int x2), (3, .int (x3 + 1))] rfl ?_
        exact ih x1 x2 (x3 + 1) q5.2 hf
      · rw [if_pos c6] at hf
        refine fm_iconst C (x := 0) dX0_doDeeds_45 (by decide) 46 rfl ?_
        obtain rfl := Option.some.inj hf
        exact fm_zret C hr hk0 (Or.inl rfl) dX0_doDeeds_46
def f_X0_doDeeds (g : GT) (k : Nat) (x1 : Int32) (x2 : Int32) (v : fm_T) : Option (Int32 × fm_T) := f_X0_doDeeds_2 g 1000 k x1 x2 0 v
set_option maxHeartbeats 4000000 in
set_option maxRecDepth 20000 in
theorem c_X0_doDeeds {k : Nat} {x1 : Int32} {x2 : Int32} {g : GT} {h : Nat} (G : GG l D tA cI cII cLd cOc b A g h) (hh : 3 ≤ h) (hk : k < 4) {v : fm_T} {q : Int32 × fm_T} (hf : f_X0_doDeeds g k x1 x2 v = some q) : fm_M l D (fm_tys cI cII cLd cOc) tA b 305 (shC cI cII cLd cOc b) A yX0_doDeeds cX0_doDeeds 4 (some .boolean) (h + 1) [.ref (b + (lo k)), .int x1, .int x2] v (some (.int q.1)) q.2 := by
  refine fm_entry (by decide) (Nat.le_of_ble_eq_true rfl) ?_
  intro p e R s m args below meth c C hr hk0 hF hLo
  unfold f_X0_doDeeds at hf
  show fm_V p l e R s m args below meth c D b 305 (shC cI cII cLd cOc b) A _ 4 0 [(0, .ref (b + (lo k))), (1, .int x1), (2, .int x2)] [] v
  refine fm_iconst C (x := 0) dX0_doDeeds_0 (by decide) 1 rfl ?_
  refine fm_istore_n C [(3, .int 0), (0, .ref (b + (lo k))), (1, .int x1), (2, .int x2)] dX0_doDeeds_1 rfl (by decide) rfl 2 rfl ?_
  refine fm_lv [1, 2, 3, 0] [(0, .ref (b + (lo k))), (1, .int x1), (2, .int x2), (3, .int 0)] rfl ?_
  exact b_X0_doDeeds_2 G hh hk C hr hk0 hF hLo 1000 x1 x2 0 v hf
def f_X0_doDeed (g : GT) (k : Nat) (x1 : Int32) (x2 : Int32) (x3 : Int32) (v : fm_T) : Option (Int32 × fm_T) := (if x1 = 0 then ((g 0 k x2 x3 0 v).bind fun q3 => (if q3.1 = 0 ∨ q3.1 = 1 then some (q3.1, q3.2) else none)) else (if x1 = 1 then ((g 1 k x2 x3 0 v).bind fun q7 => (if q7.1 = 0 ∨ q7.1 = 1 then some (q7.1, q7.2) else none)) else ((f_X1_fail (bo k + 16) 7 x2 v).bind fun q10 => (if q10.1 = 0 ∨ q10.1 = 1 then some (q10.1, q10.2) else none))))
set_option maxHeartbeats 4000000 in
set_option maxRecDepth 20000 in
theorem c_X0_doDeed {k : Nat} {x1 : Int32} {x2 : Int32} {x3 : Int32} {g : GT} {h : Nat} (G : GG l D tA cI cII cLd cOc b A g h) (hh : 3 ≤ h) (hk : k < 4) {v : fm_T} {q : Int32 × fm_T} (hf : f_X0_doDeed g k x1 x2 x3 v = some q) : fm_M l D (fm_tys cI cII cLd cOc) tA b 305 (shC cI cII cLd cOc b) A yX0_doDeed cX0_doDeed 4 (some .boolean) (h + 1) [.ref (b + (lo k)), .int x1, .int x2, .int x3] v (some (.int q.1)) q.2 := by
  refine fm_entry (by decide) (Nat.le_of_ble_eq_true rfl) ?_
  intro p e R s m args below meth c C hr hk0 hF hLo
  unfold f_X0_doDeed at hf
  show fm_V p l e R s m args below meth c D b 305 (shC cI cII cLd cOc b) A _ 4 0 [(0, .ref (b + (lo k))), (1, .int x1), (2, .int x2), (3, .int x3)] [] v
  refine fm_iload_n C dX0_doDeed_0 rfl 1 rfl 1 rfl ?_
  by_cases w1 : x1 = 0
  · rw [if_pos w1] at hf
    refine fm_lookup C (off := 27) 28 dX0_doDeed_1 (by decide) (by rw [w1] <;> rfl) (by decide) ?_
    refine fm_aload_n C dX0_doDeed_28 rfl 0 rfl 29 rfl ?_
    refine fm_iload_n C dX0_doDeed_29 rfl 2 rfl 30 rfl ?_
    refine fm_iload_n C dX0_doDeed_30 rfl 3 rfl 31 rfl ?_
    obtain ⟨q3, h2, hf⟩ := Option.bind_eq_some_iff.mp hf
    refine fm_callV C Y_X0_obtain (t := lo k) (lo_lt hk) ((shC_lo hk) _) rfl LM_X0_96 (As := [.int x2, .int x3]) (rest := []) (G.1 hk h2) (by omega) (by omega) rfl (Nat.le_of_ble_eq_true rfl) dX0_doDeed_31 34 rfl [.int q3.1] rfl ?_
    by_cases r4 : q3.1 = 0 ∨ q3.1 = 1
    · rw [if_pos r4] at hf
      obtain rfl := Option.some.inj hf
      exact fm_zret C hr hk0 r4 dX0_doDeed_34
    · rw [if_neg r4] at hf; cases hf
  rw [if_neg w1] at hf
  by_cases w5 : x1 = 1
  · rw [if_pos w5] at hf
    refine fm_lookup C (off := 34) 35 dX0_doDeed_1 (by decide) (by rw [w5] <;> rfl) (by decide) ?_
    refine fm_aload_n C dX0_doDeed_35 rfl 0 rfl 36 rfl ?_
    refine fm_iload_n C dX0_doDeed_36 rfl 2 rfl 37 rfl ?_
    refine fm_iload_n C dX0_doDeed_37 rfl 3 rfl 38 rfl ?_
    obtain ⟨q7, h6, hf⟩ := Option.bind_eq_some_iff.mp hf
    refine fm_callV C Y_X0_begin (t := lo k) (lo_lt hk) ((shC_lo hk) _) rfl LM_X0_62 (As := [.int x2, .int x3]) (rest := []) (G.2.1 hk h6) (by omega) (by omega) rfl (Nat.le_of_ble_eq_true rfl) dX0_doDeed_38 41 rfl [.int q7.1] rfl ?_
    by_cases r8 : q7.1 = 0 ∨ q7.1 = 1
    · rw [if_pos r8] at hf
      obtain rfl := Option.some.inj hf
      exact fm_zret C hr hk0 r8 dX0_doDeed_41
    · rw [if_neg r8] at hf; cases hf
  rw [if_neg w5] at hf
  refine fm_lookup C (off := 41) 42 dX0_doDeed_1 (by decide) (by rw [lv_osw (k := 0) w1 (by decide), lv_osw (k := 1) w5 (by decide)] <;> rfl) (by decide) ?_
  refine fm_aload_n C dX0_doDeed_42 rfl 0 rfl 43 rfl ?_
  refine fm_get C (t := lo k) (lo_lt hk) ((shC_lo hk) _) rfl inG_X0 6 (by decide) F_X0_30 rfl dX0_doDeed_43 46 rfl ?_
  refine fm_bipush C (x := 7) dX0_doDeed_46 (by decide) 48 rfl ?_
  refine fm_iload_n C dX0_doDeed_48 rfl 2 rfl 49 rfl ?_
  obtain ⟨q10, h9, hf⟩ := Option.bind_eq_some_iff.mp hf
  refine fm_callN C Y_X1_fail (t := bo k + 16) (isO_lt (isO_now hk)) ((shC_O (isO_now hk)) _) rfl LN_X0_55 (As := [.int 7, .int x2]) (rest := []) (c_X1_fail (isO_now hk) h9) (by omega) (by omega) rfl (Nat.le_of_ble_eq_true rfl) dX0_doDeed_49 52 rfl [.int q10.1] rfl ?_
  by_cases r11 : q10.1 = 0 ∨ q10.1 = 1
  · rw [if_pos r11] at hf
    obtain rfl := Option.some.inj hf
    exact fm_zret C hr hk0 r11 dX0_doDeed_52
  · rw [if_neg r11] at hf; cases hf
end
end
section
section
variable {l : Launch} {D : va_G} {tA b : Nat} {A : Nat → Prop} {cI cII cLd cOc : ClassId}
def gC : Nat → GT
  | 0 => fun _ _ _ _ _ _ => none
  | d + 1 => fun w k x1 x2 x3 v => match w with
    | 0 => f_X0_obtain (gC d) k x1 x2 v
    | 1 => f_X0_begin (gC d) k x1 x2 v
    | 2 => f_X0_work (gC d) k x1 x2 v
    | 3 => f_X0_reckon (gC d) k x1 x2 v
    | 4 => f_X0_multiply (gC d) k x1 x2 x3 v
    | 5 => f_X0_divide (gC d) k x1 x2 x3 v
    | 6 => f_X0_beginUsed (gC d) k x1 x2 v
    | 7 => f_X0_doDeeds (gC d) k x1 x2 v
    | 8 => f_X0_doDeed (gC d) k x1 x2 x3 v
    | _ => none
theorem gC_ok (d : Nat) : GG l D tA cI cII cLd cOc b A (gC d) (d + 3) := by
  induction d with
  | zero =>
    refine ⟨?_, ?_, ?_, ?_, ?_, ?_, ?_, ?_, ?_⟩ <;> (intros; rename_i hf; cases hf)
  | succ d ih =>
    exact ⟨fun hk hf => c_X0_obtain ih (by omega) hk hf,
      fun hk hf => c_X0_begin ih (by omega) hk hf,
      fun hk hf => c_X0_work ih (by omega) hk hf,
      fun hk hf => c_X0_reckon ih (by omega) hk hf,
      fun hk hf => c_X0_multiply ih (by omega) hk hf,
      fun hk hf => c_X0_divide ih (by omega) hk hf,
      fun hk hf => c_X0_beginUsed ih (by omega) hk hf,
      fun hk hf => c_X0_doDeeds ih (by omega) hk hf,
      fun hk hf => c_X0_doDeed ih (by omega) hk hf⟩
theorem ld_lt {x : Int32} (h : 0 ≤ x ∧ x < 3) : x.toNatClampNeg < 4 := by
  have h1 := Int32.le_iff_toInt_le.mp h.1
  have h2 := Int32.lt_iff_toInt_lt.mp h.2
  have e0 : (0 : Int32).toInt = 0 := by decide
  have e3 : (3 : Int32).toInt = 3 := by decide
  show x.toInt.toNat < 4
  omega
theorem ld_in {x : Int32} (h : 0 ≤ x ∧ x < 3) : ¬ (x < 0 ∨ 3 ≤ x.toNatClampNeg) := by
  have h1 := Int32.le_iff_toInt_le.mp h.1
  have h2 := Int32.lt_iff_toInt_lt.mp h.2
  have e0 : (0 : Int32).toInt = 0 := by decide
  have e3 : (3 : Int32).toInt = 3 := by decide
  intro q
  rcases q with q | q
  · have := Int32.lt_iff_toInt_lt.mp q
    omega
  · have q : 3 ≤ x.toInt.toNat := q
    omega
theorem c_X4_loaderAt_r {x1 : Int32} (h : 0 ≤ x1 ∧ x1 < 3) {v : fm_T} : fm_M l D (fm_tys cI cII cLd cOc) tA b 305 (shC cI cII cLd cOc b) A yX4_loaderAt cX4_loaderAt 2 (some (.object "ConstantStarts$Loader")) 0 [.ref (b + 0), .int x1] v (some (.ref (b + lo x1.toNatClampNeg))) v := by
  refine fm_entry (by decide) (Nat.le_of_ble_eq_true rfl) ?_
  intro p e R s m args below meth c C hr hk0 hF hLo
  show fm_V p l e R s m args below meth c D b 305 (shC cI cII cLd cOc b) A _ 2 0 [(0, .ref (b + 0)), (1, .int x1)] [] v
  refine fm_iload_n C dX4_loaderAt_0 rfl 1 rfl 1 rfl ?_
  refine fm_if_lt C 18 dX4_loaderAt_1 (by decide) (fun c0 => absurd (Or.inl c0) (ld_in h)) 4 rfl (fun _ => ?_)
  refine fm_iload_n C dX4_loaderAt_4 rfl 1 rfl 5 rfl ?_
  refine fm_iconst C (x := 3) dX4_loaderAt_5 (by decide) 6 rfl ?_
  refine fm_icmp_ge C 18 dX4_loaderAt_6 (by decide) (fun c0 => absurd h.2 (Int32.not_lt.mpr c0)) 9 rfl (fun _ => ?_)
  refine fm_aload_n C dX4_loaderAt_9 rfl 0 rfl 10 rfl ?_
  refine fm_get C (t := 0) (by decide) (shC_0 _) rfl inG_X4 2 (by decide) F_X4_25 rfl dX4_loaderAt_10 13 rfl ?_
  refine fm_iload_n C dX4_loaderAt_13 rfl 1 rfl 14 rfl ?_
  refine fm_aald C (t := 65) (t0 := 2) (by decide) (shC_65 _) rfl rfl (ld_in h) (x := b + lo x1.toNatClampNeg) (in_some (g := fun i => b + lo i) (ld_in h)) dX4_loaderAt_14 15 rfl ?_
  refine fm_goto C 19 dX4_loaderAt_15 (by decide) ?_
  exact fm_aret C hr (Or.inl ⟨_, rfl⟩) hk0 (Or.inr ⟨_, rfl⟩) dX4_loaderAt_19
theorem c_X4_loaderAt_n {x1 : Int32} (h : ¬ (0 ≤ x1 ∧ x1 < 3)) {v : fm_T} : fm_M l D (fm_tys cI cII cLd cOc) tA b 305 (shC cI cII cLd cOc b) A yX4_loaderAt cX4_loaderAt 2 (some (.object "ConstantStarts$Loader")) 0 [.ref (b + 0), .int x1] v (some .null) v := by
  refine fm_entry (by decide) (Nat.le_of_ble_eq_true rfl) ?_
  intro p e R s m args below meth c C hr hk0 hF hLo
  show fm_V p l e R s m args below meth c D b 305 (shC cI cII cLd cOc b) A _ 2 0 [(0, .ref (b + 0)), (1, .int x1)] [] v
  refine fm_iload_n C dX4_loaderAt_0 rfl 1 rfl 1 rfl ?_
  refine fm_if_lt C 18 dX4_loaderAt_1 (by decide) (fun c0 => ?_) 4 rfl (fun c0 => ?_)
  · refine fm_null C dX4_loaderAt_18 19 rfl ?_
    exact fm_aret C hr (Or.inl ⟨_, rfl⟩) hk0 (Or.inl rfl) dX4_loaderAt_19
  · refine fm_iload_n C dX4_loaderAt_4 rfl 1 rfl 5 rfl ?_
    refine fm_iconst C (x := 3) dX4_loaderAt_5 (by decide) 6 rfl ?_
    refine fm_icmp_ge C 18 dX4_loaderAt_6 (by decide) (fun c1 => ?_) 9 rfl (fun c1 => absurd ⟨Int32.not_lt.mp c0, Int32.not_le.mp c1⟩ h)
    refine fm_null C dX4_loaderAt_18 19 rfl ?_
    exact fm_aret C hr (Or.inl ⟨_, rfl⟩) hk0 (Or.inl rfl) dX4_loaderAt_19
def f_X4_module (x1 : Int32) (v : fm_T) : Option (Int32 × fm_T) := ((f_X2_addModule x1 v).bind fun q2 => some (q2.1, q2.2))
set_option maxHeartbeats 4000000 in
set_option maxRecDepth 20000 in
theorem c_X4_module {x1 : Int32}  {v : fm_T} {q : Int32 × fm_T} (hf : f_X4_module x1 v = some q) : fm_M l D (fm_tys cI cII cLd cOc) tA b 305 (shC cI cII cLd cOc b) A yX4_module cX4_module 2 (some .int) 1 [.ref (b + 0), .int x1] v (some (.int q.1)) q.2 := by
  refine fm_entry (by decide) (Nat.le_of_ble_eq_true rfl) ?_
  intro p e R s m args below meth c C hr hk0 hF hLo
  unfold f_X4_module at hf
  show fm_V p l e R s m args below meth c D b 305 (shC cI cII cLd cOc b) A _ 2 0 [(0, .ref (b + 0)), (1, .int x1)] [] v
  refine fm_aload_n C dX4_module_0 rfl 0 rfl 1 rfl ?_
  refine fm_get C (t := 0) (by decide) (shC_0 _) rfl inG_X4 0 (by decide) F_X4_12 rfl dX4_module_1 4 rfl ?_
  refine fm_iload_n C dX4_module_4 rfl 1 rfl 5 rfl ?_
  obtain ⟨q2, h1, hf⟩ := Option.bind_eq_some_iff.mp hf
  refine fm_callN C Y_X2_addModule (t := 1) (by decide) (shC_1 _) rfl LN_X4_53 (As := [.int x1]) (rest := []) (c_X2_addModule  h1) (by omega) (by omega) rfl (Nat.le_of_ble_eq_true rfl) dX4_module_5 8 rfl [.int q2.1] rfl ?_
  obtain rfl := Option.some.inj hf
  exact fm_iret C hr hk0 dX4_module_8
def f_X4_item (x1 : Int32) (x2 : Int32) (x3 : Int32) (v : fm_T) : Option (Int32 × fm_T) := ((f_X2_setItem x1 x2 x3 v).bind fun q2 => some (q2.1, q2.2))
set_option maxHeartbeats 4000000 in
set_option maxRecDepth 20000 in
theorem c_X4_item {x1 : Int32} {x2 : Int32} {x3 : Int32}  {v : fm_T} {q : Int32 × fm_T} (hf : f_X4_item x1 x2 x3 v = some q) : fm_M l D (fm_tys cI cII cLd cOc) tA b 305 (shC cI cII cLd cOc b) A yX4_item cX4_item 4 (some .int) 3 [.ref (b + 0), .int x1, .int x2, .int x3] v (some (.int q.1)) q.2 := by
  refine fm_entry (by decide) (Nat.le_of_ble_eq_true rfl) ?_
  intro p e R s m args below meth c C hr hk0 hF hLo
  unfold f_X4_item at hf
  show fm_V p l e R s m args below meth c D b 305 (shC cI cII cLd cOc b) A _ 4 0 [(0, .ref (b + 0)), (1, .int x1), (2, .int x2), (3, .int x3)] [] v
  refine fm_aload_n C dX4_item_0 rfl 0 rfl 1 rfl ?_
  refine fm_get C (t := 0) (by decide) (shC_0 _) rfl inG_X4 0 (by decide) F_X4_12 rfl dX4_item_1 4 rfl ?_
  refine fm_iload_n C dX4_item_4 rfl 1 rfl 5 rfl ?_
  refine fm_iload_n C dX4_item_5 rfl 2 rfl 6 rfl ?_
  refine fm_iload_n C dX4_item_6 rfl 3 rfl 7 rfl ?_
  obtain ⟨q2, h1, hf⟩ := Option.bind_eq_some_iff.mp hf
  refine fm_callN C Y_X2_setItem (t := 1) (by decide) (shC_1 _) rfl LN_X4_57 (As := [.int x1, .int x2, .int x3]) (rest := []) (c_X2_setItem  h1) (by omega) (by omega) rfl (Nat.le_of_ble_eq_true rfl) dX4_item_7 10 rfl [.int q2.1] rfl ?_
  obtain rfl := Option.some.inj hf
  exact fm_iret C hr hk0 dX4_item_10
def f_X4_uses (x1 : Int32) (x2 : Int32) (v : fm_T) : Option (Int32 × fm_T) := ((f_X2_addUsed x1 x2 v).bind fun q2 => some (q2.1, q2.2))
set_option maxHeartbeats 4000000 in
set_option maxRecDepth 20000 in
theorem c_X4_uses {x1 : Int32} {x2 : Int32}  {v : fm_T} {q : Int32 × fm_T} (hf : f_X4_uses x1 x2 v = some q) : fm_M l D (fm_tys cI cII cLd cOc) tA b 305 (shC cI cII cLd cOc b) A yX4_uses cX4_uses 3 (some .int) 2 [.ref (b + 0), .int x1, .int x2] v (some (.int q.1)) q.2 := by
  refine fm_entry (by decide) (Nat.le_of_ble_eq_true rfl) ?_
  intro p e R s m args below meth c C hr hk0 hF hLo
  unfold f_X4_uses at hf
  show fm_V p l e R s m args below meth c D b 305 (shC cI cII cLd cOc b) A _ 3 0 [(0, .ref (b + 0)), (1, .int x1), (2, .int x2)] [] v
  refine fm_aload_n C dX4_uses_0 rfl 0 rfl 1 rfl ?_
  refine fm_get C (t := 0) (by decide) (shC_0 _) rfl inG_X4 0 (by decide) F_X4_12 rfl dX4_uses_1 4 rfl ?_
  refine fm_iload_n C dX4_uses_4 rfl 1 rfl 5 rfl ?_
  refine fm_iload_n C dX4_uses_5 rfl 2 rfl 6 rfl ?_
  obtain ⟨q2, h1, hf⟩ := Option.bind_eq_some_iff.mp hf
  refine fm_callN C Y_X2_addUsed (t := 1) (by decide) (shC_1 _) rfl LN_X4_61 (As := [.int x1, .int x2]) (rest := []) (c_X2_addUsed  h1) (by omega) (by omega) rfl (Nat.le_of_ble_eq_true rfl) dX4_uses_6 9 rfl [.int q2.1] rfl ?_
  obtain rfl := Option.some.inj hf
  exact fm_iret C hr hk0 dX4_uses_9
def f_X4_deed (x1 : Int32) (x2 : Int32) (x3 : Int32) (v : fm_T) : Option (Int32 × fm_T) := ((f_X2_addDeed x1 x2 x3 v).bind fun q2 => some (q2.1, q2.2))
set_option maxHeartbeats 4000000 in
set_option maxRecDepth 20000 in
theorem c_X4_deed {x1 : Int32} {x2 : Int32} {x3 : Int32}  {v : fm_T} {q : Int32 × fm_T} (hf : f_X4_deed x1 x2 x3 v = some q) : fm_M l D (fm_tys cI cII cLd cOc) tA b 305 (shC cI cII cLd cOc b) A yX4_deed cX4_deed 4 (some .int) 3 [.ref (b + 0), .int x1, .int x2, .int x3] v (some (.int q.1)) q.2 := by
  refine fm_entry (by decide) (Nat.le_of_ble_eq_true rfl) ?_
  intro p e R s m args below meth c C hr hk0 hF hLo
  unfold f_X4_deed at hf
  show fm_V p l e R s m args below meth c D b 305 (shC cI cII cLd cOc b) A _ 4 0 [(0, .ref (b + 0)), (1, .int x1), (2, .int x2), (3, .int x3)] [] v
  refine fm_aload_n C dX4_deed_0 rfl 0 rfl 1 rfl ?_
  refine fm_get C (t := 0) (by decide) (shC_0 _) rfl inG_X4 0 (by decide) F_X4_12 rfl dX4_deed_1 4 rfl ?_
  refine fm_iload_n C dX4_deed_4 rfl 1 rfl 5 rfl ?_
  refine fm_iload_n C dX4_deed_5 rfl 2 rfl 6 rfl ?_
  refine fm_iload_n C dX4_deed_6 rfl 3 rfl 7 rfl ?_
  obtain ⟨q2, h1, hf⟩ := Option.bind_eq_some_iff.mp hf
  refine fm_callN C Y_X2_addDeed (t := 1) (by decide) (shC_1 _) rfl LN_X4_65 (As := [.int x1, .int x2, .int x3]) (rest := []) (c_X2_addDeed  h1) (by omega) (by omega) rfl (Nat.le_of_ble_eq_true rfl) dX4_deed_7 10 rfl [.int q2.1] rfl ?_
  obtain rfl := Option.some.inj hf
  exact fm_iret C hr hk0 dX4_deed_10
def f_X4_constant (x1 : Int32) (x2 : Int32) (x3 : Int32) (x4 : Int32) (x5 : Int32) (v : fm_T) : Option (Int32 × fm_T) := ((f_X2_addConstant x1 x2 x3 x4 x5 v).bind fun q2 => some (q2.1, q2.2))
set_option maxHeartbeats 4000000 in
set_option maxRecDepth 20000 in
theorem c_X4_constant {x1 : Int32} {x2 : Int32} {x3 : Int32} {x4 : Int32} {x5 : Int32}  {v : fm_T} {q : Int32 × fm_T} (hf : f_X4_constant x1 x2 x3 x4 x5 v = some q) : fm_M l D (fm_tys cI cII cLd cOc) tA b 305 (shC cI cII cLd cOc b) A yX4_constant cX4_constant 6 (some .int) 3 [.ref (b + 0), .int x1, .int x2, .int x3, .int x4, .int x5] v (some (.int q.1)) q.2 := by
  refine fm_entry (by decide) (Nat.le_of_ble_eq_true rfl) ?_
  intro p e R s m args below meth c C hr hk0 hF hLo
  unfold f_X4_constant at hf
  show fm_V p l e R s m args below meth c D b 305 (shC cI cII cLd cOc b) A _ 6 0 [(0, .ref (b + 0)), (1, .int x1), (2, .int x2), (3, .int x3), (4, .int x4), (5, .int x5)] [] v
  refine fm_aload_n C dX4_constant_0 rfl 0 rfl 1 rfl ?_
  refine fm_get C (t := 0) (by decide) (shC_0 _) rfl inG_X4 0 (by decide) F_X4_12 rfl dX4_constant_1 4 rfl ?_
  refine fm_iload_n C dX4_constant_4 rfl 1 rfl 5 rfl ?_
  refine fm_iload_n C dX4_constant_5 rfl 2 rfl 6 rfl ?_
  refine fm_iload_n C dX4_constant_6 rfl 3 rfl 7 rfl ?_
  refine fm_iload C dX4_constant_7 4 rfl 9 rfl ?_
  refine fm_iload C dX4_constant_9 5 rfl 11 rfl ?_
  obtain ⟨q2, h1, hf⟩ := Option.bind_eq_some_iff.mp hf
  refine fm_callN C Y_X2_addConstant (t := 1) (by decide) (shC_1 _) rfl LN_X4_68 (As := [.int x1, .int x2, .int x3, .int x4, .int x5]) (rest := []) (c_X2_addConstant  h1) (by omega) (by omega) rfl (Nat.le_of_ble_eq_true rfl) dX4_constant_11 14 rfl [.int q2.1] rfl ?_
  obtain rfl := Option.some.inj hf
  exact fm_iret C hr hk0 dX4_constant_14
def f_X4_value  (v : fm_T) : Option (Int32 × fm_T) := some (v 0 4, v)
set_option maxHeartbeats 4000000 in
set_option maxRecDepth 20000 in
theorem c_X4_value   {v : fm_T} {q : Int32 × fm_T} (hf : f_X4_value  v = some q) : fm_M l D (fm_tys cI cII cLd cOc) tA b 305 (shC cI cII cLd cOc b) A yX4_value cX4_value 1 (some .int) 0 [.ref (b + 0)] v (some (.int q.1)) q.2 := by
  refine fm_entry (by decide) (Nat.le_of_ble_eq_true rfl) ?_
  intro p e R s m args below meth c C hr hk0 hF hLo
  unfold f_X4_value at hf
  show fm_V p l e R s m args below meth c D b 305 (shC cI cII cLd cOc b) A _ 1 0 [(0, .ref (b + 0))] [] v
  refine fm_aload_n C dX4_value_0 rfl 0 rfl 1 rfl ?_
  refine fm_get C (t := 0) (by decide) (shC_0 _) rfl inG_X4 4 (by decide) F_X4_94 rfl dX4_value_1 4 rfl ?_
  obtain rfl := Option.some.inj hf
  exact fm_iret C hr hk0 dX4_value_4
def f_X4_fault (x1 : Int32) (v : fm_T) : Option (Int32 × fm_T) := (if x1 = 0 then some (v 240 1, v) else (if x1 = 1 then some (v 240 2, v) else (if x1 = 2 then some (v 240 3, v) else (if x1 = 3 then some (v 240 4, v) else some ((-1), v)))))
set_option maxHeartbeats 4000000 in
set_option maxRecDepth 20000 in
theorem c_X4_fault {x1 : Int32}  {v : fm_T} {q : Int32 × fm_T} (hf : f_X4_fault x1 v = some q) : fm_M l D (fm_tys cI cII cLd cOc) tA b 305 (shC cI cII cLd cOc b) A yX4_fault cX4_fault 2 (some .int) 0 [.ref (b + 0), .int x1] v (some (.int q.1)) q.2 := by
  refine fm_entry (by decide) (Nat.le_of_ble_eq_true rfl) ?_
  intro p e R s m args below meth c C hr hk0 hF hLo
  unfold f_X4_fault at hf
  show fm_V p l e R s m args below meth c D b 305 (shC cI cII cLd cOc b) A _ 2 0 [(0, .ref (b + 0)), (1, .int x1)] [] v
  refine fm_iload_n C dX4_fault_0 rfl 1 rfl 1 rfl ?_
  by_cases w1 : x1 = 0
  · rw [if_pos w1] at hf
    refine fm_tableIn C (off := 31) 32 dX4_fault_1 (by rw [w1]; decide) (by rw [w1]; decide) (by rw [w1] <;> rfl) (by decide) ?_
    refine fm_aload_n C dX4_fault_32 rfl 0 rfl 33 rfl ?_
    refine fm_get C (t := 0) (by decide) (shC_0 _) rfl inG_X4 3 (by decide) F_X4_35 rfl dX4_fault_33 36 rfl ?_
    refine fm_getN C (t := 240) (isO_lt isO_240) ((shC_O isO_240) _) rfl inG_X1 1 (by decide) FN_X4_107 rfl dX4_fault_36 39 rfl ?_
    obtain rfl := Option.some.inj hf
    exact fm_iret C hr hk0 dX4_fault_39
  rw [if_neg w1] at hf
  by_cases w2 : x1 = 1
  · rw [if_pos w2] at hf
    refine fm_tableIn C (off := 39) 40 dX4_fault_1 (by rw [w2]; decide) (by rw [w2]; decide) (by rw [w2] <;> rfl) (by decide) ?_
    refine fm_aload_n C dX4_fault_40 rfl 0 rfl 41 rfl ?_
    refine fm_get C (t := 0) (by decide) (shC_0 _) rfl inG_X4 3 (by decide) F_X4_35 rfl dX4_fault_41 44 rfl ?_
    refine fm_getN C (t := 240) (isO_lt isO_240) ((shC_O isO_240) _) rfl inG_X1 2 (by decide) FN_X4_110 rfl dX4_fault_44 47 rfl ?_
    obtain rfl := Option.some.inj hf
    exact fm_iret C hr hk0 dX4_fault_47
  rw [if_neg w2] at hf
  by_cases w3 : x1 = 2
  · rw [if_pos w3] at hf
    refine fm_tableIn C (off := 47) 48 dX4_fault_1 (by rw [w3]; decide) (by rw [w3]; decide) (by rw [w3] <;> rfl) (by decide) ?_
    refine fm_aload_n C dX4_fault_48 rfl 0 rfl 49 rfl ?_
    refine fm_get C (t := 0) (by decide) (shC_0 _) rfl inG_X4 3 (by decide) F_X4_35 rfl dX4_fault_49 52 rfl ?_
    refine fm_getN C (t := 240) (isO_lt isO_240) ((shC_O isO_240) _) rfl inG_X1 3 (by decide) FN_X4_113 rfl dX4_fault_52 55 rfl ?_
    obtain rfl := Option.some.inj hf
    exact fm_iret C hr hk0 dX4_fault_55
  rw [if_neg w3] at hf
  by_cases w4 : x1 = 3
  · rw [if_pos w4] at hf
    refine fm_tableIn C (off := 55) 56 dX4_fault_1 (by rw [w4]; decide) (by rw [w4]; decide) (by rw [w4] <;> rfl) (by decide) ?_
    refine fm_aload_n C dX4_fault_56 rfl 0 rfl 57 rfl ?_
    refine fm_get C (t := 0) (by decide) (shC_0 _) rfl inG_X4 3 (by decide) F_X4_35 rfl dX4_fault_57 60 rfl ?_
    refine fm_getN C (t := 240) (isO_lt isO_240) ((shC_O isO_240) _) rfl inG_X1 4 (by decide) FN_X4_116 rfl dX4_fault_60 63 rfl ?_
    obtain rfl := Option.some.inj hf
    exact fm_iret C hr hk0 dX4_fault_63
  rw [if_neg w4] at hf
  refine fm_tableOut C 64 dX4_fault_1 (by have := lv_neT (a := 0) w1 (by decide); have := lv_neT (a := 1) w2 (by decide); have := lv_neT (a := 2) w3 (by decide); have := lv_neT (a := 3) w4 (by decide); omega) (by decide) ?_
  refine fm_iconst C (x := -1) dX4_fault_64 (by decide) 65 rfl ?_
  obtain rfl := Option.some.inj hf
  exact fm_iret C hr hk0 dX4_fault_65
def f_X4_answer (k : Nat) (x2 : Int32) (v : fm_T) : Option (Int32 × fm_T) := (if x2 = 0 then ((f_X1_copy 240 (bo k + 16) v).bind fun q3 => some (((-10)) - (q3.2 240 1), q3.2)) else ((f_X1_succeed 240 0 v).bind fun q5 => some (1, q5.2)))
set_option maxHeartbeats 4000000 in
set_option maxRecDepth 20000 in
theorem c_X4_answer {k : Nat} {x2 : Int32} (hk : k < 4) {v : fm_T} {q : Int32 × fm_T} (hf : f_X4_answer k x2 v = some q) : fm_M l D (fm_tys cI cII cLd cOc) tA b 305 (shC cI cII cLd cOc b) A yX4_answer cX4_answer 3 (some .int) 1 [.ref (b + 0), .ref (b + (lo k)), .int x2] v (some (.int q.1)) q.2 := by
  refine fm_entry (by decide) (Nat.le_of_ble_eq_true rfl) ?_
  intro p e R s m args below meth c C hr hk0 hF hLo
  unfold f_X4_answer at hf
  show fm_V p l e R s m args below meth c D b 305 (shC cI cII cLd cOc b) A _ 3 0 [(0, .ref (b + 0)), (1, .ref (b + (lo k))), (2, .int x2)] [] v
  refine fm_iload_n C dX4_answer_0 rfl 2 rfl 1 rfl ?_
  refine fm_if_eq C 15 dX4_answer_1 (by decide) (fun c1 => ?_) 4 rfl (fun c1 => ?_)
  · rw [if_pos c1] at hf
    refine fm_aload_n C dX4_answer_15 rfl 0 rfl 16 rfl ?_
    refine fm_get C (t := 0) (by decide) (shC_0 _) rfl inG_X4 3 (by decide) F_X4_35 rfl dX4_answer_16 19 rfl ?_
    refine fm_aload_n C dX4_answer_19 rfl 1 rfl 20 rfl ?_
    refine fm_getN C (t := lo k) (lo_lt hk) ((shC_lo hk) _) rfl inG_X0 6 (by decide) FN_X4_87 rfl dX4_answer_20 23 rfl ?_
    obtain ⟨q3, h2, hf⟩ := Option.bind_eq_some_iff.mp hf
    refine fm_callN C Y_X1_copy (t := 240) (isO_lt isO_240) ((shC_O isO_240) _) rfl LN_X4_170 (As := [.ref (b + (bo k + 16))]) (rest := []) (c_X1_copy isO_240 (isO_now hk) h2) (by omega) (by omega) rfl (Nat.le_of_ble_eq_true rfl) dX4_answer_23 26 rfl [] rfl ?_
    refine fm_bipush C (x := -10) dX4_answer_26 (by decide) 28 rfl ?_
    refine fm_aload_n C dX4_answer_28 rfl 0 rfl 29 rfl ?_
    refine fm_get C (t := 0) (by decide) (shC_0 _) rfl inG_X4 3 (by decide) F_X4_35 rfl dX4_answer_29 32 rfl ?_
    refine fm_getN C (t := 240) (isO_lt isO_240) ((shC_O isO_240) _) rfl inG_X1 1 (by decide) FN_X4_107 rfl dX4_answer_32 35 rfl ?_
    refine fm_isub C dX4_answer_35 36 rfl ?_
    obtain rfl := Option.some.inj hf
    exact fm_iret C hr hk0 dX4_answer_36
  · rw [if_neg c1] at hf
    refine fm_aload_n C dX4_answer_4 rfl 0 rfl 5 rfl ?_
    refine fm_get C (t := 0) (by decide) (shC_0 _) rfl inG_X4 3 (by decide) F_X4_35 rfl dX4_answer_5 8 rfl ?_
    refine fm_iconst C (x := 0) dX4_answer_8 (by decide) 9 rfl ?_
    obtain ⟨q5, h4, hf⟩ := Option.bind_eq_some_iff.mp hf
    refine fm_callN C Y_X1_succeed (t := 240) (isO_lt isO_240) ((shC_O isO_240) _) rfl LN_X4_167 (As := [.int 0]) (rest := []) (c_X1_succeed isO_240 h4) (by omega) (by omega) rfl (Nat.le_of_ble_eq_true rfl) dX4_answer_9 12 rfl [.int q5.1] rfl ?_
    refine fm_pop C dX4_answer_12 rfl 13 rfl ?_
    refine fm_iconst C (x := 1) dX4_answer_13 (by decide) 14 rfl ?_
    obtain rfl := Option.some.inj hf
    exact fm_iret C hr hk0 dX4_answer_14
def f_X4_need (d : Nat) (x1 : Int32) (x2 : Int32) (v : fm_T) : Option (Int32 × fm_T) := (if 0 ≤ x1 ∧ x1 < 3 then ((f_X2_hasConstant x2 v).bind fun q5 => (if q5.1 = 0 then some ((-1), q5.2) else ((f_X3_clear 0 q5.2).bind fun q8 => ((gC d 0 x1.toNatClampNeg x2 0 0 q8.2).bind fun q10 => (if q10.1 = 0 then ((f_X4_answer x1.toNatClampNeg q10.1 q10.2).bind fun q13 => some (q13.1, q13.2)) else ((some (fm_u q10.2 0 4 (q10.2 (bo x1.toNatClampNeg + 16) 0)) : Option fm_T).bind fun m15 => ((f_X4_answer x1.toNatClampNeg q10.1 m15).bind fun q17 => some (q17.1, q17.2)))))))) else some ((-1), v))
set_option maxHeartbeats 4000000 in
set_option maxRecDepth 20000 in
theorem c_X4_need {x1 : Int32} {x2 : Int32} (d : Nat)  {v : fm_T} {q : Int32 × fm_T} (hf : f_X4_need d x1 x2 v = some q) : fm_M l D (fm_tys cI cII cLd cOc) tA b 305 (shC cI cII cLd cOc b) A yX4_need cX4_need 5 (some .int) (d + 4) [.ref (b + 0), .int x1, .int x2] v (some (.int q.1)) q.2 := by
  refine fm_entry (by decide) (Nat.le_of_ble_eq_true rfl) ?_
  intro p e R s m args below meth c C hr hk0 hF hLo
  unfold f_X4_need at hf
  show fm_V p l e R s m args below meth c D b 305 (shC cI cII cLd cOc b) A _ 5 0 [(0, .ref (b + 0)), (1, .int x1), (2, .int x2)] [] v
  refine fm_aload_n C dX4_need_0 rfl 0 rfl 1 rfl ?_
  refine fm_iload_n C dX4_need_1 rfl 1 rfl 2 rfl ?_
  by_cases a3 : 0 ≤ x1 ∧ x1 < 3
  · rw [if_pos a3] at hf
    refine fm_callV C Y_X4_loaderAt (t := 0) (by decide) (shC_0 _) rfl LM_X4_72 (As := [.int x1]) (rest := []) (c_X4_loaderAt_r a3) (by omega) (by omega) rfl (Nat.le_of_ble_eq_true rfl) dX4_need_2 5 rfl [.ref (b + (lo x1.toNatClampNeg))] rfl ?_
    refine fm_astore_n C [(3, .ref (b + (lo x1.toNatClampNeg))), (0, .ref (b + 0)), (1, .int x1), (2, .int x2)] dX4_need_5 rfl (by decide) rfl 6 rfl ?_
    refine fm_aload_n C dX4_need_6 rfl 0 rfl 7 rfl ?_
    refine fm_ifnull C dX4_need_7 10 rfl ?_
    refine fm_aload_n C dX4_need_10 rfl 1 rfl 11 rfl ?_
    refine fm_get C (t := 0) (by decide) (shC_0 _) rfl inG_X4 0 (by decide) F_X4_12 rfl dX4_need_11 14 rfl ?_
    refine fm_iload_n C dX4_need_14 rfl 3 rfl 15 rfl ?_
    obtain ⟨q5, h4, hf⟩ := Option.bind_eq_some_iff.mp hf
    refine fm_callN C Y_X2_hasConstant (t := 1) (by decide) (shC_1 _) rfl LN_X4_76 (As := [.int x2]) (rest := []) (c_X2_hasConstant  h4) (by omega) (by omega) rfl (Nat.le_of_ble_eq_true rfl) dX4_need_15 18 rfl [.int q5.1] rfl ?_
    refine fm_if_ne C 23 dX4_need_18 (by decide) (fun c6 => ?_) 21 rfl (fun c6 => ?_)
    · rw [if_neg c6] at hf
      refine fm_aload_n C dX4_need_23 rfl 1 rfl 24 rfl ?_
      refine fm_get C (t := 0) (by decide) (shC_0 _) rfl inG_X4 1 (by decide) F_X4_19 rfl dX4_need_24 27 rfl ?_
      obtain ⟨q8, h7, hf⟩ := Option.bind_eq_some_iff.mp hf
      refine fm_callN C Y_X3_clear (t := ev 0) (ev_lt (j := 0) (by decide) (by decide)) ((shC_ev (by decide)) _) rfl LN_X4_80 (As := []) (rest := []) (c_X3_clear (by decide) h7) (by omega) (by omega) rfl (Nat.le_of_ble_eq_true rfl) dX4_need_27 30 rfl [] rfl ?_
      refine fm_aload_n C dX4_need_30 rfl 0 rfl 31 rfl ?_
      refine fm_iload_n C dX4_need_31 rfl 3 rfl 32 rfl ?_
      refine fm_iconst C (x := 0) dX4_need_32 (by decide) 33 rfl ?_
      obtain ⟨q10, h9, hf⟩ := Option.bind_eq_some_iff.mp hf
      refine fm_callN C Y_X0_obtain (t := lo x1.toNatClampNeg) (lo_lt (ld_lt a3)) ((shC_lo (ld_lt a3)) _) rfl LN_X4_83 (As := [.int x2, .int 0]) (rest := []) ((gC_ok d).1 (ld_lt a3) h9) (by omega) (by omega) rfl (Nat.le_of_ble_eq_true rfl) dX4_need_33 36 rfl [.int q10.1] rfl ?_
      refine fm_istore C [(4, .int q10.1), (3, .ref (b + (lo x1.toNatClampNeg))), (0, .ref (b + 0)), (1, .int x1), (2, .int x2)] dX4_need_36 (by decide) rfl 38 rfl ?_
      refine fm_iload C dX4_need_38 0 rfl 40 rfl ?_
      refine fm_if_eq C 54 dX4_need_40 (by decide) (fun c11 => ?_) 43 rfl (fun c11 => ?_)
      · rw [if_pos c11] at hf
        refine fm_aload_n C dX4_need_54 rfl 2 rfl 55 rfl ?_
        refine fm_aload_n C dX4_need_55 rfl 1 rfl 56 rfl ?_
        refine fm_iload C dX4_need_56 0 rfl 58 rfl ?_
        obtain ⟨q13, h12, hf⟩ := Option.bind_eq_some_iff.mp hf
        refine fm_callV C Y_X4_answer (t := 0) (by decide) (shC_0 _) rfl LM_X4_97 (As := [.ref (b + (lo x1.toNatClampNeg)), .int q10.1]) (rest := []) (c_X4_answer (ld_lt a3) h12) (by omega) (by omega) rfl (Nat.le_of_ble_eq_true rfl) dX4_need_58 61 rfl [.int q13.1] rfl ?_
        obtain rfl := Option.some.inj hf
        exact fm_iret C hr hk0 dX4_need_61
      · rw [if_neg c11] at hf
        refine fm_aload_n C dX4_need_43 rfl 2 rfl 44 rfl ?_
        refine fm_aload_n C dX4_need_44 rfl 1 rfl 45 rfl ?_
        refine fm_getN C (t := lo x1.toNatClampNeg) (lo_lt (ld_lt a3)) ((shC_lo (ld_lt a3)) _) rfl inG_X0 6 (by decide) FN_X4_87 rfl dX4_need_45 48 rfl ?_
        refine fm_getN C (t := bo x1.toNatClampNeg + 16) (isO_lt (isO_now (ld_lt a3))) ((shC_O (isO_now (ld_lt a3))) _) rfl inG_X1 0 (by decide) FN_X4_90 rfl dX4_need_48 51 rfl ?_
        obtain ⟨m15, e14, hf⟩ := Option.bind_eq_some_iff.mp hf
        refine fm_put C (t := 0) (by decide) (shC_0 _) rfl inG_X4 4 (by decide) F_X4_94 tyX4 tyX4_ok nmX4 rfl (ty := .int) (by decide +kernel) rfl rfl (Nat.le_of_ble_eq_true rfl) ((shC_0 _).trans rfl) dX4_need_51 54 rfl m15 (Option.some.inj e14) ?_
        refine fm_aload_n C dX4_need_54 rfl 2 rfl 55 rfl ?_
        refine fm_aload_n C dX4_need_55 rfl 1 rfl 56 rfl ?_
        refine fm_iload C dX4_need_56 0 rfl 58 rfl ?_
        obtain ⟨q17, h16, hf⟩ := Option.bind_eq_some_iff.mp hf
        refine fm_callV C Y_X4_answer (t := 0) (by decide) (shC_0 _) rfl LM_X4_97 (As := [.ref (b + (lo x1.toNatClampNeg)), .int q10.1]) (rest := []) (c_X4_answer (ld_lt a3) h16) (by omega) (by omega) rfl (Nat.le_of_ble_eq_true rfl) dX4_need_58 61 rfl [.int q17.1] rfl ?_
        obtain rfl := Option.some.inj hf
        exact fm_iret C hr hk0 dX4_need_61
    · rw [if_pos c6] at hf
      refine fm_iconst C (x := -1) dX4_need_21 (by decide) 22 rfl ?_
      obtain rfl := Option.some.inj hf
      exact fm_iret C hr hk0 dX4_need_22
  · rw [if_neg a3] at hf
    refine fm_callV C Y_X4_loaderAt (t := 0) (by decide) (shC_0 _) rfl LM_X4_72 (As := [.int x1]) (rest := []) (c_X4_loaderAt_n a3) (by omega) (by omega) rfl (Nat.le_of_ble_eq_true rfl) dX4_need_2 5 rfl [.null] rfl ?_
    refine fm_astore_nN C [(3, .null), (0, .ref (b + 0)), (1, .int x1), (2, .int x2)] dX4_need_5 rfl (by decide) rfl 6 rfl ?_
    refine fm_aload_nN C dX4_need_6 rfl 0 rfl 7 rfl ?_
    refine fm_ifnullN C 21 dX4_need_7 (by decide) ?_
    refine fm_iconst C (x := -1) dX4_need_21 (by decide) 22 rfl ?_
    obtain rfl := Option.some.inj hf
    exact fm_iret C hr hk0 dX4_need_22
def f_X4_start (d : Nat) (x1 : Int32) (x2 : Int32) (v : fm_T) : Option (Int32 × fm_T) := (if 0 ≤ x1 ∧ x1 < 3 then ((f_X2_hasModule x2 v).bind fun q5 => (if q5.1 = 0 then some ((-1), q5.2) else ((f_X3_clear 0 q5.2).bind fun q8 => ((gC d 1 x1.toNatClampNeg x2 0 0 q8.2).bind fun q10 => ((f_X4_answer x1.toNatClampNeg q10.1 q10.2).bind fun q12 => some (q12.1, q12.2)))))) else some ((-1), v))
set_option maxHeartbeats 4000000 in
set_option maxRecDepth 20000 in
theorem c_X4_start {x1 : Int32} {x2 : Int32} (d : Nat)  {v : fm_T} {q : Int32 × fm_T} (hf : f_X4_start d x1 x2 v = some q) : fm_M l D (fm_tys cI cII cLd cOc) tA b 305 (shC cI cII cLd cOc b) A yX4_start cX4_start 4 (some .int) (d + 4) [.ref (b + 0), .int x1, .int x2] v (some (.int q.1)) q.2 := by
  refine fm_entry (by decide) (Nat.le_of_ble_eq_true rfl) ?_
  intro p e R s m args below meth c C hr hk0 hF hLo
  unfold f_X4_start at hf
  show fm_V p l e R s m args below meth c D b 305 (shC cI cII cLd cOc b) A _ 4 0 [(0, .ref (b + 0)), (1, .int x1), (2, .int x2)] [] v
  refine fm_aload_n C dX4_start_0 rfl 0 rfl 1 rfl ?_
  refine fm_iload_n C dX4_start_1 rfl 1 rfl 2 rfl ?_
  by_cases a3 : 0 ≤ x1 ∧ x1 < 3
  · rw [if_pos a3] at hf
    refine fm_callV C Y_X4_loaderAt (t := 0) (by decide) (shC_0 _) rfl LM_X4_72 (As := [.int x1]) (rest := []) (c_X4_loaderAt_r a3) (by omega) (by omega) rfl (Nat.le_of_ble_eq_true rfl) dX4_start_2 5 rfl [.ref (b + (lo x1.toNatClampNeg))] rfl ?_
    refine fm_astore_n C [(3, .ref (b + (lo x1.toNatClampNeg))), (0, .ref (b + 0)), (1, .int x1), (2, .int x2)] dX4_start_5 rfl (by decide) rfl 6 rfl ?_
    refine fm_aload_n C dX4_start_6 rfl 0 rfl 7 rfl ?_
    refine fm_ifnull C dX4_start_7 10 rfl ?_
    refine fm_aload_n C dX4_start_10 rfl 1 rfl 11 rfl ?_
    refine fm_get C (t := 0) (by decide) (shC_0 _) rfl inG_X4 0 (by decide) F_X4_12 rfl dX4_start_11 14 rfl ?_
    refine fm_iload_n C dX4_start_14 rfl 3 rfl 15 rfl ?_
    obtain ⟨q5, h4, hf⟩ := Option.bind_eq_some_iff.mp hf
    refine fm_callN C Y_X2_hasModule (t := 1) (by decide) (shC_1 _) rfl LN_X4_101 (As := [.int x2]) (rest := []) (c_X2_hasModule  h4) (by omega) (by omega) rfl (Nat.le_of_ble_eq_true rfl) dX4_start_15 18 rfl [.int q5.1] rfl ?_
    refine fm_if_ne C 23 dX4_start_18 (by decide) (fun c6 => ?_) 21 rfl (fun c6 => ?_)
    · rw [if_neg c6] at hf
      refine fm_aload_n C dX4_start_23 rfl 1 rfl 24 rfl ?_
      refine fm_get C (t := 0) (by decide) (shC_0 _) rfl inG_X4 1 (by decide) F_X4_19 rfl dX4_start_24 27 rfl ?_
      obtain ⟨q8, h7, hf⟩ := Option.bind_eq_some_iff.mp hf
      refine fm_callN C Y_X3_clear (t := ev 0) (ev_lt (j := 0) (by decide) (by decide)) ((shC_ev (by decide)) _) rfl LN_X4_80 (As := []) (rest := []) (c_X3_clear (by decide) h7) (by omega) (by omega) rfl (Nat.le_of_ble_eq_true rfl) dX4_start_27 30 rfl [] rfl ?_
      refine fm_aload_n C dX4_start_30 rfl 1 rfl 31 rfl ?_
      refine fm_aload_n C dX4_start_31 rfl 0 rfl 32 rfl ?_
      refine fm_aload_n C dX4_start_32 rfl 0 rfl 33 rfl ?_
      refine fm_iload_n C dX4_start_33 rfl 3 rfl 34 rfl ?_
      refine fm_iconst C (x := 0) dX4_start_34 (by decide) 35 rfl ?_
      obtain ⟨q10, h9, hf⟩ := Option.bind_eq_some_iff.mp hf
      refine fm_callN C Y_X0_begin (t := lo x1.toNatClampNeg) (lo_lt (ld_lt a3)) ((shC_lo (ld_lt a3)) _) rfl LN_X4_104 (As := [.int x2, .int 0]) (rest := [.ref (b + (lo x1.toNatClampNeg)), .ref (b + 0)]) ((gC_ok d).2.1 (ld_lt a3) h9) (by omega) (by omega) rfl (Nat.le_of_ble_eq_true rfl) dX4_start_35 38 rfl [.int q10.1, .ref (b + (lo x1.toNatClampNeg)), .ref (b + 0)] rfl ?_
      obtain ⟨q12, h11, hf⟩ := Option.bind_eq_some_iff.mp hf
      refine fm_callV C Y_X4_answer (t := 0) (by decide) (shC_0 _) rfl LM_X4_97 (As := [.ref (b + (lo x1.toNatClampNeg)), .int q10.1]) (rest := []) (c_X4_answer (ld_lt a3) h11) (by omega) (by omega) rfl (Nat.le_of_ble_eq_true rfl) dX4_start_38 41 rfl [.int q12.1] rfl ?_
      obtain rfl := Option.some.inj hf
      exact fm_iret C hr hk0 dX4_start_41
    · rw [if_pos c6] at hf
      refine fm_iconst C (x := -1) dX4_start_21 (by decide) 22 rfl ?_
      obtain rfl := Option.some.inj hf
      exact fm_iret C hr hk0 dX4_start_22
  · rw [if_neg a3] at hf
    refine fm_callV C Y_X4_loaderAt (t := 0) (by decide) (shC_0 _) rfl LM_X4_72 (As := [.int x1]) (rest := []) (c_X4_loaderAt_n a3) (by omega) (by omega) rfl (Nat.le_of_ble_eq_true rfl) dX4_start_2 5 rfl [.null] rfl ?_
    refine fm_astore_nN C [(3, .null), (0, .ref (b + 0)), (1, .int x1), (2, .int x2)] dX4_start_5 rfl (by decide) rfl 6 rfl ?_
    refine fm_aload_nN C dX4_start_6 rfl 0 rfl 7 rfl ?_
    refine fm_ifnullN C 21 dX4_start_7 (by decide) ?_
    refine fm_iconst C (x := -1) dX4_start_21 (by decide) 22 rfl ?_
    obtain rfl := Option.some.inj hf
    exact fm_iret C hr hk0 dX4_start_22
def f_X4_state (x1 : Int32) (x2 : Int32) (v : fm_T) : Option (Int32 × fm_T) := (if 0 ≤ x1 ∧ x1 < 3 then ((f_X2_hasModule x2 v).bind fun q5 => (if q5.1 = 0 then some ((-1), q5.2) else (if x2 < 0 ∨ 12 ≤ x2.toNatClampNeg then none else some (q5.2 (bo x1.toNatClampNeg) x2.toNatClampNeg, q5.2)))) else some ((-1), v))
set_option maxHeartbeats 4000000 in
set_option maxRecDepth 20000 in
theorem c_X4_state {x1 : Int32} {x2 : Int32}  {v : fm_T} {q : Int32 × fm_T} (hf : f_X4_state x1 x2 v = some q) : fm_M l D (fm_tys cI cII cLd cOc) tA b 305 (shC cI cII cLd cOc b) A yX4_state cX4_state 4 (some .int) 1 [.ref (b + 0), .int x1, .int x2] v (some (.int q.1)) q.2 := by
  refine fm_entry (by decide) (Nat.le_of_ble_eq_true rfl) ?_
  intro p e R s m args below meth c C hr hk0 hF hLo
  unfold f_X4_state at hf
  show fm_V p l e R s m args below meth c D b 305 (shC cI cII cLd cOc b) A _ 4 0 [(0, .ref (b + 0)), (1, .int x1), (2, .int x2)] [] v
  refine fm_aload_n C dX4_state_0 rfl 0 rfl 1 rfl ?_
  refine fm_iload_n C dX4_state_1 rfl 1 rfl 2 rfl ?_
  by_cases a3 : 0 ≤ x1 ∧ x1 < 3
  · rw [if_pos a3] at hf
    refine fm_callV C Y_X4_loaderAt (t := 0) (by decide) (shC_0 _) rfl LM_X4_72 (As := [.int x1]) (rest := []) (c_X4_loaderAt_r a3) (by omega) (by omega) rfl (Nat.le_of_ble_eq_true rfl) dX4_state_2 5 rfl [.ref (b + (lo x1.toNatClampNeg))] rfl ?_
    refine fm_astore_n C [(3, .ref (b + (lo x1.toNatClampNeg))), (0, .ref (b + 0)), (1, .int x1), (2, .int x2)] dX4_state_5 rfl (by decide) rfl 6 rfl ?_
    refine fm_aload_n C dX4_state_6 rfl 0 rfl 7 rfl ?_
    refine fm_ifnull C dX4_state_7 10 rfl ?_
    refine fm_aload_n C dX4_state_10 rfl 1 rfl 11 rfl ?_
    refine fm_get C (t := 0) (by decide) (shC_0 _) rfl inG_X4 0 (by decide) F_X4_12 rfl dX4_state_11 14 rfl ?_
    refine fm_iload_n C dX4_state_14 rfl 3 rfl 15 rfl ?_
    obtain ⟨q5, h4, hf⟩ := Option.bind_eq_some_iff.mp hf
    refine fm_callN C Y_X2_hasModule (t := 1) (by decide) (shC_1 _) rfl LN_X4_101 (As := [.int x2]) (rest := []) (c_X2_hasModule  h4) (by omega) (by omega) rfl (Nat.le_of_ble_eq_true rfl) dX4_state_15 18 rfl [.int q5.1] rfl ?_
    refine fm_if_ne C 25 dX4_state_18 (by decide) (fun c6 => ?_) 21 rfl (fun c6 => ?_)
    · rw [if_neg c6] at hf
      refine fm_aload_n C dX4_state_25 rfl 0 rfl 26 rfl ?_
      refine fm_getN C (t := lo x1.toNatClampNeg) (lo_lt (ld_lt a3)) ((shC_lo (ld_lt a3)) _) rfl inG_X0 2 (by decide) FN_X4_119 rfl dX4_state_26 29 rfl ?_
      refine fm_iload_n C dX4_state_29 rfl 3 rfl 30 rfl ?_
      by_cases b7 : x2 < 0 ∨ 12 ≤ x2.toNatClampNeg
      · rw [if_pos b7] at hf; cases hf
      rw [if_neg b7] at hf
      refine fm_iald C (t := bo x1.toNatClampNeg) (t0 := 0) (bo_lt (j := 0) (ld_lt a3) (by decide)) ((shC_b0 (ld_lt a3)) _) rfl b7 dX4_state_30 31 rfl ?_
      obtain rfl := Option.some.inj hf
      exact fm_iret C hr hk0 dX4_state_31
    · rw [if_pos c6] at hf
      refine fm_iconst C (x := -1) dX4_state_21 (by decide) 22 rfl ?_
      refine fm_goto C 31 dX4_state_22 (by decide) ?_
      obtain rfl := Option.some.inj hf
      exact fm_iret C hr hk0 dX4_state_31
  · rw [if_neg a3] at hf
    refine fm_callV C Y_X4_loaderAt (t := 0) (by decide) (shC_0 _) rfl LM_X4_72 (As := [.int x1]) (rest := []) (c_X4_loaderAt_n a3) (by omega) (by omega) rfl (Nat.le_of_ble_eq_true rfl) dX4_state_2 5 rfl [.null] rfl ?_
    refine fm_astore_nN C [(3, .null), (0, .ref (b + 0)), (1, .int x1), (2, .int x2)] dX4_state_5 rfl (by decide) rfl 6 rfl ?_
    refine fm_aload_nN C dX4_state_6 rfl 0 rfl 7 rfl ?_
    refine fm_ifnullN C 21 dX4_state_7 (by decide) ?_
    refine fm_iconst C (x := -1) dX4_state_21 (by decide) 22 rfl ?_
    refine fm_goto C 31 dX4_state_22 (by decide) ?_
    obtain rfl := Option.some.inj hf
    exact fm_iret C hr hk0 dX4_state_31
def f_X4_kept (x1 : Int32) (x2 : Int32) (v : fm_T) : Option (Int32 × fm_T) := (if 0 ≤ x1 ∧ x1 < 3 then ((f_X2_hasConstant x2 v).bind fun q5 => (if q5.1 = 0 then some ((-1), q5.2) else ((f_X0_tellKept x1.toNatClampNeg x2 q5.2).bind fun q8 => some (q8.1, q8.2)))) else some ((-1), v))
set_option maxHeartbeats 4000000 in
set_option maxRecDepth 20000 in
theorem c_X4_kept {x1 : Int32} {x2 : Int32}  {v : fm_T} {q : Int32 × fm_T} (hf : f_X4_kept x1 x2 v = some q) : fm_M l D (fm_tys cI cII cLd cOc) tA b 305 (shC cI cII cLd cOc b) A yX4_kept cX4_kept 4 (some .int) 1 [.ref (b + 0), .int x1, .int x2] v (some (.int q.1)) q.2 := by
  refine fm_entry (by decide) (Nat.le_of_ble_eq_true rfl) ?_
  intro p e R s m args below meth c C hr hk0 hF hLo
  unfold f_X4_kept at hf
  show fm_V p l e R s m args below meth c D b 305 (shC cI cII cLd cOc b) A _ 4 0 [(0, .ref (b + 0)), (1, .int x1), (2, .int x2)] [] v
  refine fm_aload_n C dX4_kept_0 rfl 0 rfl 1 rfl ?_
  refine fm_iload_n C dX4_kept_1 rfl 1 rfl 2 rfl ?_
  by_cases a3 : 0 ≤ x1 ∧ x1 < 3
  · rw [if_pos a3] at hf
    refine fm_callV C Y_X4_loaderAt (t := 0) (by decide) (shC_0 _) rfl LM_X4_72 (As := [.int x1]) (rest := []) (c_X4_loaderAt_r a3) (by omega) (by omega) rfl (Nat.le_of_ble_eq_true rfl) dX4_kept_2 5 rfl [.ref (b + (lo x1.toNatClampNeg))] rfl ?_
    refine fm_astore_n C [(3, .ref (b + (lo x1.toNatClampNeg))), (0, .ref (b + 0)), (1, .int x1), (2, .int x2)] dX4_kept_5 rfl (by decide) rfl 6 rfl ?_
    refine fm_aload_n C dX4_kept_6 rfl 0 rfl 7 rfl ?_
    refine fm_ifnull C dX4_kept_7 10 rfl ?_
    refine fm_aload_n C dX4_kept_10 rfl 1 rfl 11 rfl ?_
    refine fm_get C (t := 0) (by decide) (shC_0 _) rfl inG_X4 0 (by decide) F_X4_12 rfl dX4_kept_11 14 rfl ?_
    refine fm_iload_n C dX4_kept_14 rfl 3 rfl 15 rfl ?_
    obtain ⟨q5, h4, hf⟩ := Option.bind_eq_some_iff.mp hf
    refine fm_callN C Y_X2_hasConstant (t := 1) (by decide) (shC_1 _) rfl LN_X4_76 (As := [.int x2]) (rest := []) (c_X2_hasConstant  h4) (by omega) (by omega) rfl (Nat.le_of_ble_eq_true rfl) dX4_kept_15 18 rfl [.int q5.1] rfl ?_
    refine fm_if_ne C 25 dX4_kept_18 (by decide) (fun c6 => ?_) 21 rfl (fun c6 => ?_)
    · rw [if_neg c6] at hf
      refine fm_aload_n C dX4_kept_25 rfl 0 rfl 26 rfl ?_
      refine fm_iload_n C dX4_kept_26 rfl 3 rfl 27 rfl ?_
      obtain ⟨q8, h7, hf⟩ := Option.bind_eq_some_iff.mp hf
      refine fm_callN C Y_X0_tellKept (t := lo x1.toNatClampNeg) (lo_lt (ld_lt a3)) ((shC_lo (ld_lt a3)) _) rfl LN_X4_122 (As := [.int x2]) (rest := []) (c_X0_tellKept (ld_lt a3) h7) (by omega) (by omega) rfl (Nat.le_of_ble_eq_true rfl) dX4_kept_27 30 rfl [.int q8.1] rfl ?_
      obtain rfl := Option.some.inj hf
      exact fm_iret C hr hk0 dX4_kept_30
    · rw [if_pos c6] at hf
      refine fm_iconst C (x := -1) dX4_kept_21 (by decide) 22 rfl ?_
      refine fm_goto C 30 dX4_kept_22 (by decide) ?_
      obtain rfl := Option.some.inj hf
      exact fm_iret C hr hk0 dX4_kept_30
  · rw [if_neg a3] at hf
    refine fm_callV C Y_X4_loaderAt (t := 0) (by decide) (shC_0 _) rfl LM_X4_72 (As := [.int x1]) (rest := []) (c_X4_loaderAt_n a3) (by omega) (by omega) rfl (Nat.le_of_ble_eq_true rfl) dX4_kept_2 5 rfl [.null] rfl ?_
    refine fm_astore_nN C [(3, .null), (0, .ref (b + 0)), (1, .int x1), (2, .int x2)] dX4_kept_5 rfl (by decide) rfl 6 rfl ?_
    refine fm_aload_nN C dX4_kept_6 rfl 0 rfl 7 rfl ?_
    refine fm_ifnullN C 21 dX4_kept_7 (by decide) ?_
    refine fm_iconst C (x := -1) dX4_kept_21 (by decide) 22 rfl ?_
    refine fm_goto C 30 dX4_kept_22 (by decide) ?_
    obtain rfl := Option.some.inj hf
    exact fm_iret C hr hk0 dX4_kept_30
def f_X4_row (x1 : Int32) (x2 : Int32) (x3 : Int32) (v : fm_T) : Option (Int32 × fm_T) := (if 0 ≤ x1 ∧ x1 < 3 then ((f_X2_hasModule x2 v).bind fun q5 => (if q5.1 = 0 then some ((-1), q5.2) else ((f_X2_hasItem x2 x3 q5.2).bind fun q8 => (if q8.1 = 0 then some ((-3), q8.2) else ((f_X0_tellItem x1.toNatClampNeg x2 x3 q8.2).bind fun q11 => some (q11.1, q11.2)))))) else some ((-1), v))
set_option maxHeartbeats 4000000 in
set_option maxRecDepth 20000 in
theorem c_X4_row {x1 : Int32} {x2 : Int32} {x3 : Int32}  {v : fm_T} {q : Int32 × fm_T} (hf : f_X4_row x1 x2 x3 v = some q) : fm_M l D (fm_tys cI cII cLd cOc) tA b 305 (shC cI cII cLd cOc b) A yX4_row cX4_row 5 (some .int) 2 [.ref (b + 0), .int x1, .int x2, .int x3] v (some (.int q.1)) q.2 := by
  refine fm_entry (by decide) (Nat.le_of_ble_eq_true rfl) ?_
  intro p e R s m args below meth c C hr hk0 hF hLo
  unfold f_X4_row at hf
  show fm_V p l e R s m args below meth c D b 305 (shC cI cII cLd cOc b) A _ 5 0 [(0, .ref (b + 0)), (1, .int x1), (2, .int x2), (3, .int x3)] [] v
  refine fm_aload_n C dX4_row_0 rfl 0 rfl 1 rfl ?_
  refine fm_iload_n C dX4_row_1 rfl 1 rfl 2 rfl ?_
  by_cases a3 : 0 ≤ x1 ∧ x1 < 3
  · rw [if_pos a3] at hf
    refine fm_callV C Y_X4_loaderAt (t := 0) (by decide) (shC_0 _) rfl LM_X4_72 (As := [.int x1]) (rest := []) (c_X4_loaderAt_r a3) (by omega) (by omega) rfl (Nat.le_of_ble_eq_true rfl) dX4_row_2 5 rfl [.ref (b + (lo x1.toNatClampNeg))] rfl ?_
    refine fm_astore C [(4, .ref (b + (lo x1.toNatClampNeg))), (0, .ref (b + 0)), (1, .int x1), (2, .int x2), (3, .int x3)] dX4_row_5 (by decide) rfl 7 rfl ?_
    refine fm_aload C dX4_row_7 0 rfl 9 rfl ?_
    refine fm_ifnull C dX4_row_9 12 rfl ?_
    refine fm_aload_n C dX4_row_12 rfl 1 rfl 13 rfl ?_
    refine fm_get C (t := 0) (by decide) (shC_0 _) rfl inG_X4 0 (by decide) F_X4_12 rfl dX4_row_13 16 rfl ?_
    refine fm_iload_n C dX4_row_16 rfl 3 rfl 17 rfl ?_
    obtain ⟨q5, h4, hf⟩ := Option.bind_eq_some_iff.mp hf
    refine fm_callN C Y_X2_hasModule (t := 1) (by decide) (shC_1 _) rfl LN_X4_101 (As := [.int x2]) (rest := []) (c_X2_hasModule  h4) (by omega) (by omega) rfl (Nat.le_of_ble_eq_true rfl) dX4_row_17 20 rfl [.int q5.1] rfl ?_
    refine fm_if_ne C 25 dX4_row_20 (by decide) (fun c6 => ?_) 23 rfl (fun c6 => ?_)
    · rw [if_neg c6] at hf
      refine fm_aload_n C dX4_row_25 rfl 1 rfl 26 rfl ?_
      refine fm_get C (t := 0) (by decide) (shC_0 _) rfl inG_X4 0 (by decide) F_X4_12 rfl dX4_row_26 29 rfl ?_
      refine fm_iload_n C dX4_row_29 rfl 3 rfl 30 rfl ?_
      refine fm_iload_n C dX4_row_30 rfl 4 rfl 31 rfl ?_
      obtain ⟨q8, h7, hf⟩ := Option.bind_eq_some_iff.mp hf
      refine fm_callN C Y_X2_hasItem (t := 1) (by decide) (shC_1 _) rfl LN_X4_125 (As := [.int x2, .int x3]) (rest := []) (c_X2_hasItem  h7) (by omega) (by omega) rfl (Nat.le_of_ble_eq_true rfl) dX4_row_31 34 rfl [.int q8.1] rfl ?_
      refine fm_if_eq C 47 dX4_row_34 (by decide) (fun c9 => ?_) 37 rfl (fun c9 => ?_)
      · rw [if_pos c9] at hf
        refine fm_bipush C (x := -3) dX4_row_47 (by decide) 49 rfl ?_
        obtain rfl := Option.some.inj hf
        exact fm_iret C hr hk0 dX4_row_49
      · rw [if_neg c9] at hf
        refine fm_aload C dX4_row_37 0 rfl 39 rfl ?_
        refine fm_iload_n C dX4_row_39 rfl 3 rfl 40 rfl ?_
        refine fm_iload_n C dX4_row_40 rfl 4 rfl 41 rfl ?_
        obtain ⟨q11, h10, hf⟩ := Option.bind_eq_some_iff.mp hf
        refine fm_callN C Y_X0_tellItem (t := lo x1.toNatClampNeg) (lo_lt (ld_lt a3)) ((shC_lo (ld_lt a3)) _) rfl LN_X4_128 (As := [.int x2, .int x3]) (rest := []) (c_X0_tellItem (ld_lt a3) h10) (by omega) (by omega) rfl (Nat.le_of_ble_eq_true rfl) dX4_row_41 44 rfl [.int q11.1] rfl ?_
        refine fm_goto C 49 dX4_row_44 (by decide) ?_
        obtain rfl := Option.some.inj hf
        exact fm_iret C hr hk0 dX4_row_49
    · rw [if_pos c6] at hf
      refine fm_iconst C (x := -1) dX4_row_23 (by decide) 24 rfl ?_
      obtain rfl := Option.some.inj hf
      exact fm_iret C hr hk0 dX4_row_24
  · rw [if_neg a3] at hf
    refine fm_callV C Y_X4_loaderAt (t := 0) (by decide) (shC_0 _) rfl LM_X4_72 (As := [.int x1]) (rest := []) (c_X4_loaderAt_n a3) (by omega) (by omega) rfl (Nat.le_of_ble_eq_true rfl) dX4_row_2 5 rfl [.null] rfl ?_
    refine fm_astoreN C [(4, .null), (0, .ref (b + 0)), (1, .int x1), (2, .int x2), (3, .int x3)] dX4_row_5 (by decide) rfl 7 rfl ?_
    refine fm_aloadN C dX4_row_7 0 rfl 9 rfl ?_
    refine fm_ifnullN C 23 dX4_row_9 (by decide) ?_
    refine fm_iconst C (x := -1) dX4_row_23 (by decide) 24 rfl ?_
    obtain rfl := Option.some.inj hf
    exact fm_iret C hr hk0 dX4_row_24
def f_X4_trace (x1 : Int32) (x2 : Int32) (v : fm_T) : Option (Int32 × fm_T) := (if x2 = 0 then (if x1 < 0 then some ((-3), v) else (if x1 < v (ev 0) 2 then (if x1 < 0 ∨ 200 ≤ x1.toNatClampNeg then none else some (v (ev 0 + 1) x1.toNatClampNeg, v)) else some ((-3), v))) else (if x2 = 1 then (if x1 < 0 then some ((-3), v) else (if x1 < v (ev 0) 2 then (if x1 < 0 ∨ 200 ≤ x1.toNatClampNeg then none else some (v (ev 0 + 2) x1.toNatClampNeg, v)) else some ((-3), v))) else some ((-1), v)))
set_option maxHeartbeats 4000000 in
set_option maxRecDepth 20000 in
theorem c_X4_trace {x1 : Int32} {x2 : Int32}  {v : fm_T} {q : Int32 × fm_T} (hf : f_X4_trace x1 x2 v = some q) : fm_M l D (fm_tys cI cII cLd cOc) tA b 305 (shC cI cII cLd cOc b) A yX4_trace cX4_trace 3 (some .int) 0 [.ref (b + 0), .int x1, .int x2] v (some (.int q.1)) q.2 := by
  refine fm_entry (by decide) (Nat.le_of_ble_eq_true rfl) ?_
  intro p e R s m args below meth c C hr hk0 hF hLo
  unfold f_X4_trace at hf
  show fm_V p l e R s m args below meth c D b 305 (shC cI cII cLd cOc b) A _ 3 0 [(0, .ref (b + 0)), (1, .int x1), (2, .int x2)] [] v
  refine fm_iload_n C dX4_trace_0 rfl 2 rfl 1 rfl ?_
  refine fm_if_eq C 11 dX4_trace_1 (by decide) (fun c1 => ?_) 4 rfl (fun c1 => ?_)
  · rw [if_pos c1] at hf
    refine fm_iload_n C dX4_trace_11 rfl 1 rfl 12 rfl ?_
    refine fm_if_lt C 26 dX4_trace_12 (by decide) (fun c2 => ?_) 15 rfl (fun c2 => ?_)
    · rw [if_pos c2] at hf
      refine fm_bipush C (x := -3) dX4_trace_26 (by decide) 28 rfl ?_
      obtain rfl := Option.some.inj hf
      exact fm_iret C hr hk0 dX4_trace_28
    · rw [if_neg c2] at hf
      refine fm_iload_n C dX4_trace_15 rfl 1 rfl 16 rfl ?_
      refine fm_aload_n C dX4_trace_16 rfl 0 rfl 17 rfl ?_
      refine fm_get C (t := 0) (by decide) (shC_0 _) rfl inG_X4 1 (by decide) F_X4_19 rfl dX4_trace_17 20 rfl ?_
      refine fm_getN C (t := ev 0) (ev_lt (j := 0) (by decide) (by decide)) ((shC_ev (by decide)) _) rfl inG_X3 2 (by decide) FN_X4_131 rfl dX4_trace_20 23 rfl ?_
      refine fm_icmp_lt C 29 dX4_trace_23 (by decide) (fun c3 => ?_) 26 rfl (fun c3 => ?_)
      · rw [if_pos c3] at hf
        refine fm_iload_n C dX4_trace_29 rfl 2 rfl 30 rfl ?_
        refine fm_if_ne C 45 dX4_trace_30 (by decide) (fun c0 => (by first | exact absurd c1 c0 | exact absurd c0 c1)) 33 rfl (fun _ => ?_)
        refine fm_aload_n C dX4_trace_33 rfl 0 rfl 34 rfl ?_
        refine fm_get C (t := 0) (by decide) (shC_0 _) rfl inG_X4 1 (by decide) F_X4_19 rfl dX4_trace_34 37 rfl ?_
        refine fm_getN C (t := ev 0) (ev_lt (j := 0) (by decide) (by decide)) ((shC_ev (by decide)) _) rfl inG_X3 0 (by decide) FN_X4_134 rfl dX4_trace_37 40 rfl ?_
        refine fm_iload_n C dX4_trace_40 rfl 1 rfl 41 rfl ?_
        by_cases b4 : x1 < 0 ∨ 200 ≤ x1.toNatClampNeg
        · rw [if_pos b4] at hf; cases hf
        rw [if_neg b4] at hf
        refine fm_iald C (t := ev 0 + 1) (t0 := 0) (ev_lt (by decide) (by decide)) ((shC_ev1 (by decide)) _) rfl b4 dX4_trace_41 42 rfl ?_
        refine fm_goto C 54 dX4_trace_42 (by decide) ?_
        obtain rfl := Option.some.inj hf
        exact fm_iret C hr hk0 dX4_trace_54
      · rw [if_neg c3] at hf
        refine fm_bipush C (x := -3) dX4_trace_26 (by decide) 28 rfl ?_
        obtain rfl := Option.some.inj hf
        exact fm_iret C hr hk0 dX4_trace_28
  · rw [if_neg c1] at hf
    refine fm_iload_n C dX4_trace_4 rfl 2 rfl 5 rfl ?_
    refine fm_iconst C (x := 1) dX4_trace_5 (by decide) 6 rfl ?_
    refine fm_icmp_eq C 11 dX4_trace_6 (by decide) (fun c5 => ?_) 9 rfl (fun c5 => ?_)
    · rw [if_pos c5] at hf
      refine fm_iload_n C dX4_trace_11 rfl 1 rfl 12 rfl ?_
      refine fm_if_lt C 26 dX4_trace_12 (by decide) (fun c6 => ?_) 15 rfl (fun c6 => ?_)
      · rw [if_pos c6] at hf
        refine fm_bipush C (x := -3) dX4_trace_26 (by decide) 28 rfl ?_
        obtain rfl := Option.some.inj hf
        exact fm_iret C hr hk0 dX4_trace_28
      · rw [if_neg c6] at hf
        refine fm_iload_n C dX4_trace_15 rfl 1 rfl 16 rfl ?_
        refine fm_aload_n C dX4_trace_16 rfl 0 rfl 17 rfl ?_
        refine fm_get C (t := 0) (by decide) (shC_0 _) rfl inG_X4 1 (by decide) F_X4_19 rfl dX4_trace_17 20 rfl ?_
        refine fm_getN C (t := ev 0) (ev_lt (j := 0) (by decide) (by decide)) ((shC_ev (by decide)) _) rfl inG_X3 2 (by decide) FN_X4_131 rfl dX4_trace_20 23 rfl ?_
        refine fm_icmp_lt C 29 dX4_trace_23 (by decide) (fun c7 => ?_) 26 rfl (fun c7 => ?_)
        · rw [if_pos c7] at hf
          refine fm_iload_n C dX4_trace_29 rfl 2 rfl 30 rfl ?_
          refine fm_if_ne C 45 dX4_trace_30 (by decide) (fun _ => ?_) 33 rfl (fun c0 => (by first | exact absurd c1 c0 | exact absurd c0 c1))
          refine fm_aload_n C dX4_trace_45 rfl 0 rfl 46 rfl ?_
          refine fm_get C (t := 0) (by decide) (shC_0 _) rfl inG_X4 1 (by decide) F_X4_19 rfl dX4_trace_46 49 rfl ?_
          refine fm_getN C (t := ev 0) (ev_lt (j := 0) (by decide) (by decide)) ((shC_ev (by decide)) _) rfl inG_X3 1 (by decide) FN_X4_137 rfl dX4_trace_49 52 rfl ?_
          refine fm_iload_n C dX4_trace_52 rfl 1 rfl 53 rfl ?_
          by_cases b8 : x1 < 0 ∨ 200 ≤ x1.toNatClampNeg
          · rw [if_pos b8] at hf; cases hf
          rw [if_neg b8] at hf
          refine fm_iald C (t := ev 0 + 2) (t0 := 0) (ev_lt (by decide) (by decide)) ((shC_ev2 (by decide)) _) rfl b8 dX4_trace_53 54 rfl ?_
          obtain rfl := Option.some.inj hf
          exact fm_iret C hr hk0 dX4_trace_54
        · rw [if_neg c7] at hf
          refine fm_bipush C (x := -3) dX4_trace_26 (by decide) 28 rfl ?_
          obtain rfl := Option.some.inj hf
          exact fm_iret C hr hk0 dX4_trace_28
    · rw [if_neg c5] at hf
      refine fm_iconst C (x := -1) dX4_trace_9 (by decide) 10 rfl ?_
      obtain rfl := Option.some.inj hf
      exact fm_iret C hr hk0 dX4_trace_10
def f_X4_forget (x1 : Int32) (v : fm_T) : Option (Int32 × fm_T) := (if 0 ≤ x1 ∧ x1 < 3 then ((f_X0_countEnded x1.toNatClampNeg v).bind fun q5 => ((f_X0_clear x1.toNatClampNeg q5.2).bind fun q7 => some (q5.1, q7.2))) else some ((-1), v))
set_option maxHeartbeats 4000000 in
set_option maxRecDepth 20000 in
theorem c_X4_forget {x1 : Int32}  {v : fm_T} {q : Int32 × fm_T} (hf : f_X4_forget x1 v = some q) : fm_M l D (fm_tys cI cII cLd cOc) tA b 305 (shC cI cII cLd cOc b) A yX4_forget cX4_forget 4 (some .int) 1 [.ref (b + 0), .int x1] v (some (.int q.1)) q.2 := by
  refine fm_entry (by decide) (Nat.le_of_ble_eq_true rfl) ?_
  intro p e R s m args below meth c C hr hk0 hF hLo
  unfold f_X4_forget at hf
  show fm_V p l e R s m args below meth c D b 305 (shC cI cII cLd cOc b) A _ 4 0 [(0, .ref (b + 0)), (1, .int x1)] [] v
  refine fm_aload_n C dX4_forget_0 rfl 0 rfl 1 rfl ?_
  refine fm_iload_n C dX4_forget_1 rfl 1 rfl 2 rfl ?_
  by_cases a3 : 0 ≤ x1 ∧ x1 < 3
  · rw [if_pos a3] at hf
    refine fm_callV C Y_X4_loaderAt (t := 0) (by decide) (shC_0 _) rfl LM_X4_72 (As := [.int x1]) (rest := []) (c_X4_loaderAt_r a3) (by omega) (by omega) rfl (Nat.le_of_ble_eq_true rfl) dX4_forget_2 5 rfl [.ref (b + (lo x1.toNatClampNeg))] rfl ?_
    refine fm_astore_n C [(2, .ref (b + (lo x1.toNatClampNeg))), (0, .ref (b + 0)), (1, .int x1)] dX4_forget_5 rfl (by decide) rfl 6 rfl ?_
    refine fm_aload_n C dX4_forget_6 rfl 0 rfl 7 rfl ?_
    refine fm_ifnonnull C 12 dX4_forget_7 (by decide) ?_
    refine fm_aload_n C dX4_forget_12 rfl 0 rfl 13 rfl ?_
    obtain ⟨q5, h4, hf⟩ := Option.bind_eq_some_iff.mp hf
    refine fm_callN C Y_X0_countEnded (t := lo x1.toNatClampNeg) (lo_lt (ld_lt a3)) ((shC_lo (ld_lt a3)) _) rfl LN_X4_140 (As := []) (rest := []) (c_X0_countEnded (ld_lt a3) h4) (by omega) (by omega) rfl (Nat.le_of_ble_eq_true rfl) dX4_forget_13 16 rfl [.int q5.1] rfl ?_
    refine fm_istore_n C [(3, .int q5.1), (2, .ref (b + (lo x1.toNatClampNeg))), (0, .ref (b + 0)), (1, .int x1)] dX4_forget_16 rfl (by decide) rfl 17 rfl ?_
    refine fm_aload_n C dX4_forget_17 rfl 1 rfl 18 rfl ?_
    obtain ⟨q7, h6, hf⟩ := Option.bind_eq_some_iff.mp hf
    refine fm_callN C Y_X0_clear (t := lo x1.toNatClampNeg) (lo_lt (ld_lt a3)) ((shC_lo (ld_lt a3)) _) rfl LN_X4_144 (As := []) (rest := []) (c_X0_clear (ld_lt a3) h6) (by omega) (by omega) rfl (Nat.le_of_ble_eq_true rfl) dX4_forget_18 21 rfl [] rfl ?_
    refine fm_iload_n C dX4_forget_21 rfl 0 rfl 22 rfl ?_
    obtain rfl := Option.some.inj hf
    exact fm_iret C hr hk0 dX4_forget_22
  · rw [if_neg a3] at hf
    refine fm_callV C Y_X4_loaderAt (t := 0) (by decide) (shC_0 _) rfl LM_X4_72 (As := [.int x1]) (rest := []) (c_X4_loaderAt_n a3) (by omega) (by omega) rfl (Nat.le_of_ble_eq_true rfl) dX4_forget_2 5 rfl [.null] rfl ?_
    refine fm_astore_nN C [(2, .null), (0, .ref (b + 0)), (1, .int x1)] dX4_forget_5 rfl (by decide) rfl 6 rfl ?_
    refine fm_aload_nN C dX4_forget_6 rfl 0 rfl 7 rfl ?_
    refine fm_ifnonnullN C dX4_forget_7 10 rfl ?_
    refine fm_iconst C (x := -1) dX4_forget_10 (by decide) 11 rfl ?_
    obtain rfl := Option.some.inj hf
    exact fm_iret C hr hk0 dX4_forget_11
def f_X4_countWorked_4 : Nat → Int32 → Int32 → fm_T → Option (Int32 × fm_T)
  | 0 => fun _ _ _ => none
  | n + 1 => fun x1 x2 v => (if 3 ≤ x2 then some (x1, v) else (if x2 < 0 ∨ 3 ≤ x2.toNatClampNeg then none else f_X4_countWorked_4 n (x1 + (v (lo x2.toNatClampNeg) 7)) (x2 + 1) v))
theorem f_X4_countWorked_4_s (n : Nat)  (x1 : Int32) (x2 : Int32) (v : fm_T) : f_X4_countWorked_4 (n + 1) x1 x2 v = (if 3 ≤ x2 then some (x1, v) else (if x2 < 0 ∨ 3 ≤ x2.toNatClampNeg then none else f_X4_countWorked_4 n (x1 + (v (lo x2.toNatClampNeg) 7)) (x2 + 1) v)) := rfl
set_option maxHeartbeats 4000000 in
set_option maxRecDepth 20000 in
theorem b_X4_countWorked_4   {p : Program} {e : Env} {R : Room} {s : State} {m : MethodId} {args : Array Value} {below : List Frame} {meth : Method} {c : Code} (C : fm_C p s m args c cX4_countWorked RX4 3 D (fm_tys cI cII cLd cOc) tA b 305 A) (hr : meth.sig.returnType = (some .int)) (hk0 : meth.locks = false) (hF : 0 ≤ R.frames) (hLo : 40 * 0 ≤ R.locals) : ∀ (n : Nat) (x1 : Int32) (x2 : Int32) (v : fm_T) {q : Int32 × fm_T}, f_X4_countWorked_4 n x1 x2 v = some q → fm_V p l e R s m args below meth c D b 305 (shC cI cII cLd cOc b) A (MQ below (fm_Q D b 305 (shC cI cII cLd cOc b) A (some (.int q.1)) q.2) args s 0 0 A) 3 4 [(0, .ref (b + 0)), (1, .int x1), (2, .int x2)] [] v := by
  intro n
  induction n with
  | zero =>
    intro x1 x2 v q hf
    cases (show (none : Option (Int32 × fm_T)) = some q from hf)
  | succ n ih =>
    intro x1 x2 v q hf
    rw [f_X4_countWorked_4_s] at hf
    refine fm_iload_n C dX4_countWorked_4 rfl 2 rfl 5 rfl ?_
    refine fm_iconst C (x := 3) dX4_countWorked_5 (by decide) 6 rfl ?_
    refine fm_icmp_ge C 27 dX4_countWorked_6 (by decide) (fun c1 => ?_) 9 rfl (fun c1 => ?_)
    · rw [if_pos c1] at hf
      refine fm_iload_n C dX4_countWorked_27 rfl 1 rfl 28 rfl ?_
      obtain rfl := Option.some.inj hf
      exact fm_iret C hr hk0 dX4_countWorked_28
    · rw [if_neg c1] at hf
      refine fm_iload_n C dX4_countWorked_9 rfl 1 rfl 10 rfl ?_
      refine fm_aload_n C dX4_countWorked_10 rfl 0 rfl 11 rfl ?_
      refine fm_get C (t := 0) (by decide) (shC_0 _) rfl inG_X4 2 (by decide) F_X4_25 rfl dX4_countWorked_11 14 rfl ?_
      refine fm_iload_n C dX4_countWorked_14 rfl 2 rfl 15 rfl ?_
      by_cases b2 : x2 < 0 ∨ 3 ≤ x2.toNatClampNeg
      · rw [if_pos b2] at hf; cases hf
      rw [if_neg b2] at hf
      refine fm_aald C (t := 65) (t0 := 2) (by decide) (shC_65 _) rfl rfl b2 (x := b + (lo x2.toNatClampNeg)) (in_some (g := fun i => b + lo i) b2) dX4_countWorked_15 16 rfl ?_
      refine fm_getN C (t := lo x2.toNatClampNeg) (lo_lt (Nat.lt_trans (in_lt b2) (by decide))) ((shC_lo (Nat.lt_trans (in_lt b2) (by decide))) _) rfl inG_X0 7 (by decide) FN_X4_174 rfl dX4_countWorked_16 19 rfl ?_
      refine fm_iadd C dX4_countWorked_19 20 rfl ?_
      refine fm_istore_n C [(1, .int (x1 + (v (lo x2.toNatClampNeg) 7))), (0, .ref (b + 0)), (2, .int x2)] dX4_countWorked_20 rfl (by decide) rfl 21 rfl ?_
      refine fm_iinc C [(2, .int (x2 + 1)), (1, .int (x1 + (v (lo x2.toNatClampNeg) 7))), (0, .ref (b + 0))] dX4_countWorked_21 2 rfl rfl (by decide) rfl 24 rfl ?_
      refine fm_goto C 4 dX4_countWorked_24 (by decide) ?_
      refine fm_lv [2, 1, 0] [(0, .ref (b + 0)), (1, .int (x1 + (v (lo x2.toNatClampNeg) 7))), (2, .int (x2 + 1))] rfl ?_
      exact ih (x1 + (v (lo x2.toNatClampNeg) 7)) (x2 + 1) v hf
def f_X4_countWorked  (v : fm_T) : Option (Int32 × fm_T) := f_X4_countWorked_4 1000 0 0 v
set_option maxHeartbeats 4000000 in
set_option maxRecDepth 20000 in
theorem c_X4_countWorked   {v : fm_T} {q : Int32 × fm_T} (hf : f_X4_countWorked  v = some q) : fm_M l D (fm_tys cI cII cLd cOc) tA b 305 (shC cI cII cLd cOc b) A yX4_countWorked cX4_countWorked 3 (some .int) 0 [.ref (b + 0)] v (some (.int q.1)) q.2 := by
  refine fm_entry (by decide) (Nat.le_of_ble_eq_true rfl) ?_
  intro p e R s m args below meth c C hr hk0 hF hLo
  unfold f_X4_countWorked at hf
  show fm_V p l e R s m args below meth c D b 305 (shC cI cII cLd cOc b) A _ 3 0 [(0, .ref (b + 0))] [] v
  refine fm_iconst C (x := 0) dX4_countWorked_0 (by decide) 1 rfl ?_
  refine fm_istore_n C [(1, .int 0), (0, .ref (b + 0))] dX4_countWorked_1 rfl (by decide) rfl 2 rfl ?_
  refine fm_iconst C (x := 0) dX4_countWorked_2 (by decide) 3 rfl ?_
  refine fm_istore_n C [(2, .int 0), (1, .int 0), (0, .ref (b + 0))] dX4_countWorked_3 rfl (by decide) rfl 4 rfl ?_
  refine fm_lv [2, 1, 0] [(0, .ref (b + 0)), (1, .int 0), (2, .int 0)] rfl ?_
  exact b_X4_countWorked_4  C hr hk0 hF hLo 1000 0 0 v hf
def f_X4_told (x1 : Int32) (v : fm_T) : Option (Int32 × fm_T) := (if x1 = 0 then some (v 1 0, v) else (if x1 = 1 then some (v 1 8, v) else (if x1 = 2 then some (v (ev 0) 2, v) else (if x1 = 3 then ((f_X4_countWorked  v).bind fun q6 => some (q6.1, q6.2)) else some ((-1), v)))))
set_option maxHeartbeats 4000000 in
set_option maxRecDepth 20000 in
theorem c_X4_told {x1 : Int32}  {v : fm_T} {q : Int32 × fm_T} (hf : f_X4_told x1 v = some q) : fm_M l D (fm_tys cI cII cLd cOc) tA b 305 (shC cI cII cLd cOc b) A yX4_told cX4_told 2 (some .int) 1 [.ref (b + 0), .int x1] v (some (.int q.1)) q.2 := by
  refine fm_entry (by decide) (Nat.le_of_ble_eq_true rfl) ?_
  intro p e R s m args below meth c C hr hk0 hF hLo
  unfold f_X4_told at hf
  show fm_V p l e R s m args below meth c D b 305 (shC cI cII cLd cOc b) A _ 2 0 [(0, .ref (b + 0)), (1, .int x1)] [] v
  refine fm_iload_n C dX4_told_0 rfl 1 rfl 1 rfl ?_
  by_cases w1 : x1 = 0
  · rw [if_pos w1] at hf
    refine fm_tableIn C (off := 31) 32 dX4_told_1 (by rw [w1]; decide) (by rw [w1]; decide) (by rw [w1] <;> rfl) (by decide) ?_
    refine fm_aload_n C dX4_told_32 rfl 0 rfl 33 rfl ?_
    refine fm_get C (t := 0) (by decide) (shC_0 _) rfl inG_X4 0 (by decide) F_X4_12 rfl dX4_told_33 36 rfl ?_
    refine fm_getN C (t := 1) (by decide) (shC_1 _) rfl inG_X2 0 (by decide) FN_X4_158 rfl dX4_told_36 39 rfl ?_
    obtain rfl := Option.some.inj hf
    exact fm_iret C hr hk0 dX4_told_39
  rw [if_neg w1] at hf
  by_cases w2 : x1 = 1
  · rw [if_pos w2] at hf
    refine fm_tableIn C (off := 39) 40 dX4_told_1 (by rw [w2]; decide) (by rw [w2]; decide) (by rw [w2] <;> rfl) (by decide) ?_
    refine fm_aload_n C dX4_told_40 rfl 0 rfl 41 rfl ?_
    refine fm_get C (t := 0) (by decide) (shC_0 _) rfl inG_X4 0 (by decide) F_X4_12 rfl dX4_told_41 44 rfl ?_
    refine fm_getN C (t := 1) (by decide) (shC_1 _) rfl inG_X2 8 (by decide) FN_X4_161 rfl dX4_told_44 47 rfl ?_
    obtain rfl := Option.some.inj hf
    exact fm_iret C hr hk0 dX4_told_47
  rw [if_neg w2] at hf
  by_cases w3 : x1 = 2
  · rw [if_pos w3] at hf
    refine fm_tableIn C (off := 47) 48 dX4_told_1 (by rw [w3]; decide) (by rw [w3]; decide) (by rw [w3] <;> rfl) (by decide) ?_
    refine fm_aload_n C dX4_told_48 rfl 0 rfl 49 rfl ?_
    refine fm_get C (t := 0) (by decide) (shC_0 _) rfl inG_X4 1 (by decide) F_X4_19 rfl dX4_told_49 52 rfl ?_
    refine fm_getN C (t := ev 0) (ev_lt (j := 0) (by decide) (by decide)) ((shC_ev (by decide)) _) rfl inG_X3 2 (by decide) FN_X4_131 rfl dX4_told_52 55 rfl ?_
    obtain rfl := Option.some.inj hf
    exact fm_iret C hr hk0 dX4_told_55
  rw [if_neg w3] at hf
  by_cases w4 : x1 = 3
  · rw [if_pos w4] at hf
    refine fm_tableIn C (off := 55) 56 dX4_told_1 (by rw [w4]; decide) (by rw [w4]; decide) (by rw [w4] <;> rfl) (by decide) ?_
    refine fm_aload_n C dX4_told_56 rfl 0 rfl 57 rfl ?_
    obtain ⟨q6, h5, hf⟩ := Option.bind_eq_some_iff.mp hf
    refine fm_callV C Y_X4_countWorked (t := 0) (by decide) (shC_0 _) rfl LM_X4_164 (As := []) (rest := []) (c_X4_countWorked  h5) (by omega) (by omega) rfl (Nat.le_of_ble_eq_true rfl) dX4_told_57 60 rfl [.int q6.1] rfl ?_
    obtain rfl := Option.some.inj hf
    exact fm_iret C hr hk0 dX4_told_60
  rw [if_neg w4] at hf
  refine fm_tableOut C 61 dX4_told_1 (by have := lv_neT (a := 0) w1 (by decide); have := lv_neT (a := 1) w2 (by decide); have := lv_neT (a := 2) w3 (by decide); have := lv_neT (a := 3) w4 (by decide); omega) (by decide) ?_
  refine fm_iconst C (x := -1) dX4_told_61 (by decide) 62 rfl ?_
  obtain rfl := Option.some.inj hf
  exact fm_iret C hr hk0 dX4_told_62
def f_X4_mixOrder_38 : Nat → Int32 → Int32 → Int32 → fm_T → Option (Int32 × fm_T)
  | 0 => fun _ _ _ _ => none
  | n + 1 => fun x1 x2 x3 v => (if x3 < 1 then some (0, v) else (if x3 + 1 = 0 then none else (if x3 < 0 ∨ 40 ≤ x3.toNatClampNeg then none else (if ((((x2 * 1103515245) + 12345).toUInt32 >>> ((16 : Int32).toUInt32 &&& Int32.toUInt32 31)).toInt32) - ((((x2 * 1103515245) + 12345).toUInt32 >>> ((16 : Int32).toUInt32 &&& Int32.toUInt32 31)).toInt32) / (x3 + 1) * (x3 + 1) < 0 ∨ 40 ≤ (((((x2 * 1103515245) + 12345).toUInt32 >>> ((16 : Int32).toUInt32 &&& Int32.toUInt32 31)).toInt32) - ((((x2 * 1103515245) + 12345).toUInt32 >>> ((16 : Int32).toUInt32 &&& Int32.toUInt32 31)).toInt32) / (x3 + 1) * (x3 + 1)).toNatClampNeg then none else ((some (fm_u v 302 x3.toNatClampNeg (v 302 ((((((x2 * 1103515245) + 12345).toUInt32 >>> ((16 : Int32).toUInt32 &&& Int32.toUInt32 31)).toInt32) - ((((x2 * 1103515245) + 12345).toUInt32 >>> ((16 : Int32).toUInt32 &&& Int32.toUInt32 31)).toInt32) / (x3 + 1) * (x3 + 1)).toNatClampNeg))) : Option fm_T).bind fun m6 => ((some (fm_u m6 302 ((((((x2 * 1103515245) + 12345).toUInt32 >>> ((16 : Int32).toUInt32 &&& Int32.toUInt32 31)).toInt32) - ((((x2 * 1103515245) + 12345).toUInt32 >>> ((16 : Int32).toUInt32 &&& Int32.toUInt32 31)).toInt32) / (x3 + 1) * (x3 + 1)).toNatClampNeg) (v 302 x3.toNatClampNeg)) : Option fm_T).bind fun m8 => f_X4_mixOrder_38 n x1 ((x2 * 1103515245) + 12345) (x3 + (-1)) m8))))))
theorem f_X4_mixOrder_38_s (n : Nat)  (x1 : Int32) (x2 : Int32) (x3 : Int32) (v : fm_T) : f_X4_mixOrder_38 (n + 1) x1 x2 x3 v = (if x3 < 1 then some (0, v) else (if x3 + 1 = 0 then none else (if x3 < 0 ∨ 40 ≤ x3.toNatClampNeg then none else (if ((((x2 * 1103515245) + 12345).toUInt32 >>> ((16 : Int32).toUInt32 &&& Int32.toUInt32 31)).toInt32) - ((((x2 * 1103515245) + 12345).toUInt32 >>> ((16 : Int32).toUInt32 &&& Int32.toUInt32 31)).toInt32) / (x3 + 1) * (x3 + 1) < 0 ∨ 40 ≤ (((((x2 * 1103515245) + 12345).toUInt32 >>> ((16 : Int32).toUInt32 &&& Int32.toUInt32 31)).toInt32) - ((((x2 * 1103515245) + 12345).toUInt32 >>> ((16 : Int32).toUInt32 &&& Int32.toUInt32 31)).toInt32) / (x3 + 1) * (x3 + 1)).toNatClampNeg then none else ((some (fm_u v 302 x3.toNatClampNeg (v 302 ((((((x2 * 1103515245) + 12345).toUInt32 >>> ((16 : Int32).toUInt32 &&& Int32.toUInt32 31)).toInt32) - ((((x2 * 1103515245) + 12345).toUInt32 >>> ((16 : Int32).toUInt32 &&& Int32.toUInt32 31)).toInt32) / (x3 + 1) * (x3 + 1)).toNatClampNeg))) : Option fm_T).bind fun m6 => ((some (fm_u m6 302 ((((((x2 * 1103515245) + 12345).toUInt32 >>> ((16 : Int32).toUInt32 &&& Int32.toUInt32 31)).toInt32) - ((((x2 * 1103515245) + 12345).toUInt32 >>> ((16 : Int32).toUInt32 &&& Int32.toUInt32 31)).toInt32) / (x3 + 1) * (x3 + 1)).toNatClampNeg) (v 302 x3.toNatClampNeg)) : Option fm_T).bind fun m8 => f_X4_mixOrder_38 n x1 ((x2 * 1103515245) + 12345) (x3 + (-1)) m8)))))) := rfl
set_option maxHeartbeats 4000000 in
set_option maxRecDepth 20000 in
theorem b_X4_mixOrder_38   {p : Program} {e : Env} {R : Room} {s : State} {m : MethodId} {args : Array Value} {below : List Frame} {meth : Method} {c : Code} (C : fm_C p s m args c cX4_mixOrder RX4 6 D (fm_tys cI cII cLd cOc) tA b 305 A) (hr : meth.sig.returnType = none) (hk0 : meth.locks = false) (hF : 0 ≤ R.frames) (hLo : 40 * 0 ≤ R.locals) : ∀ (n : Nat) (x1 : Int32) (x2 : Int32) (x3 : Int32) (v : fm_T) {q : Int32 × fm_T}, f_X4_mixOrder_38 n x1 x2 x3 v = some q → fm_V p l e R s m args below meth c D b 305 (shC cI cII cLd cOc b) A (MQ below (fm_Q D b 305 (shC cI cII cLd cOc b) A none q.2) args s 0 0 A) 6 38 [(0, .ref (b + 0)), (1, .int x1), (2, .int x2), (3, .int x3)] [] v := by
  intro n
  induction n with
  | zero =>
    intro x1 x2 x3 v q hf
    cases (show (none : Option (Int32 × fm_T)) = some q from hf)
  | succ n ih =>
    intro x1 x2 x3 v q hf
    rw [f_X4_mixOrder_38_s] at hf
    refine fm_iload_n C dX4_mixOrder_38 rfl 3 rfl 39 rfl ?_
    refine fm_iconst C (x := 1) dX4_mixOrder_39 (by decide) 40 rfl ?_
    refine fm_icmp_lt C 98 dX4_mixOrder_40 (by decide) (fun c1 => ?_) 43 rfl (fun c1 => ?_)
    · rw [if_pos c1] at hf
      obtain rfl := Option.some.inj hf
      exact fm_vret C hr hk0 dX4_mixOrder_98
    · rw [if_neg c1] at hf
      refine fm_iload_n C dX4_mixOrder_43 rfl 2 rfl 44 rfl ?_
      refine fm_ldc C dX4_mixOrder_44 FC_X4_177 46 rfl ?_
      refine fm_imul C dX4_mixOrder_46 47 rfl ?_
      refine fm_sipush C (x := 12345) dX4_mixOrder_47 (by decide) 50 rfl ?_
      refine fm_iadd C dX4_mixOrder_50 51 rfl ?_
      refine fm_istore_n C [(2, .int ((x2 * 1103515245) + 12345)), (0, .ref (b + 0)), (1, .int x1), (3, .int x3)] dX4_mixOrder_51 rfl (by decide) rfl 52 rfl ?_
      refine fm_iload_n C dX4_mixOrder_52 rfl 0 rfl 53 rfl ?_
      refine fm_bipush C (x := 16) dX4_mixOrder_53 (by decide) 55 rfl ?_
      refine fm_iushr C dX4_mixOrder_55 56 rfl ?_
      refine fm_iload_n C dX4_mixOrder_56 rfl 3 rfl 57 rfl ?_
      refine fm_iconst C (x := 1) dX4_mixOrder_57 (by decide) 58 rfl ?_
      refine fm_iadd C dX4_mixOrder_58 59 rfl ?_
      by_cases z2 : x3 + 1 = 0
      · rw [if_pos z2] at hf; cases hf
      rw [if_neg z2] at hf
      refine fm_irem C dX4_mixOrder_59 z2 60 rfl ?_
      refine fm_istore C [(4, .int (((((x2 * 1103515245) + 12345).toUInt32 >>> ((16 : Int32).toUInt32 &&& Int32.toUInt32 31)).toInt32) - ((((x2 * 1103515245) + 12345).toUInt32 >>> ((16 : Int32).toUInt32 &&& Int32.toUInt32 31)).toInt32) / (x3 + 1) * (x3 + 1))), (2, .int ((x2 * 1103515245) + 12345)), (0, .ref (b + 0)), (1, .int x1), (3, .int x3)] dX4_mixOrder_60 (by decide) rfl 62 rfl ?_
      refine fm_aload_n C dX4_mixOrder_62 rfl 2 rfl 63 rfl ?_
      refine fm_get C (t := 0) (by decide) (shC_0 _) rfl inG_X4 6 (by decide) F_X4_43 rfl dX4_mixOrder_63 66 rfl ?_
      refine fm_iload_n C dX4_mixOrder_66 rfl 4 rfl 67 rfl ?_
      by_cases b3 : x3 < 0 ∨ 40 ≤ x3.toNatClampNeg
      · rw [if_pos b3] at hf; cases hf
      rw [if_neg b3] at hf
      refine fm_iald C (t := 302) (t0 := 0) (by decide) (shC_302 _) rfl b3 dX4_mixOrder_67 68 rfl ?_
      refine fm_istore C [(5, .int (v 302 x3.toNatClampNeg)), (4, .int (((((x2 * 1103515245) + 12345).toUInt32 >>> ((16 : Int32).toUInt32 &&& Int32.toUInt32 31)).toInt32) - ((((x2 * 1103515245) + 12345).toUInt32 >>> ((16 : Int32).toUInt32 &&& Int32.toUInt32 31)).toInt32) / (x3 + 1) * (x3 + 1))), (2, .int ((x2 * 1103515245) + 12345)), (0, .ref (b + 0)), (1, .int x1), (3, .int x3)] dX4_mixOrder_68 (by decide) rfl 70 rfl ?_
      refine fm_aload_n C dX4_mixOrder_70 rfl 3 rfl 71 rfl ?_
      refine fm_get C (t := 0) (by decide) (shC_0 _) rfl inG_X4 6 (by decide) F_X4_43 rfl dX4_mixOrder_71 74 rfl ?_
      refine fm_iload_n C dX4_mixOrder_74 rfl 5 rfl 75 rfl ?_
      refine fm_aload_n C dX4_mixOrder_75 rfl 3 rfl 76 rfl ?_
      refine fm_get C (t := 0) (by decide) (shC_0 _) rfl inG_X4 6 (by decide) F_X4_43 rfl dX4_mixOrder_76 79 rfl ?_
      refine fm_iload C dX4_mixOrder_79 1 rfl 81 rfl ?_
      by_cases b4 : ((((x2 * 1103515245) + 12345).toUInt32 >>> ((16 : Int32).toUInt32 &&& Int32.toUInt32 31)).toInt32) - ((((x2 * 1103515245) + 12345).toUInt32 >>> ((16 : Int32).toUInt32 &&& Int32.toUInt32 31)).toInt32) / (x3 + 1) * (x3 + 1) < 0 ∨ 40 ≤ (((((x2 * 1103515245) + 12345).toUInt32 >>> ((16 : Int32).toUInt32 &&& Int32.toUInt32 31)).toInt32) - ((((x2 * 1103515245) + 12345).toUInt32 >>> ((16 : Int32).toUInt32 &&& Int32.toUInt32 31)).toInt32) / (x3 + 1) * (x3 + 1)).toNatClampNeg
      · rw [if_pos b4] at hf; cases hf
      rw [if_neg b4] at hf
      refine fm_iald C (t := 302) (t0 := 0) (by decide) (shC_302 _) rfl b4 dX4_mixOrder_81 82 rfl ?_
      obtain ⟨m6, e5, hf⟩ := Option.bind_eq_some_iff.mp hf
      refine fm_iast C (t := 302) (t0 := 0) (by decide) shC_302 rfl b3 dX4_mixOrder_82 83 rfl m6 (Option.some.inj e5) ?_
      refine fm_aload_n C dX4_mixOrder_83 rfl 3 rfl 84 rfl ?_
      refine fm_get C (t := 0) (by decide) (shC_0 _) rfl inG_X4 6 (by decide) F_X4_43 rfl dX4_mixOrder_84 87 rfl ?_
      refine fm_iload C dX4_mixOrder_87 1 rfl 89 rfl ?_
      refine fm_iload C dX4_mixOrder_89 0 rfl 91 rfl ?_
      obtain ⟨m8, e7, hf⟩ := Option.bind_eq_some_iff.mp hf
      refine fm_iast C (t := 302) (t0 := 0) (by decide) shC_302 rfl b4 dX4_mixOrder_91 92 rfl m8 (Option.some.inj e7) ?_
      refine fm_iinc C [(3, .int (x3 + (-1))), (5, .int (v 302 x3.toNatClampNeg)), (4, .int (((((x2 * 1103515245) + 12345).toUInt32 >>> ((16 : Int32).toUInt32 &&& Int32.toUInt32 31)).toInt32) - ((((x2 * 1103515245) + 12345).toUInt32 >>> ((16 : Int32).toUInt32 &&& Int32.toUInt32 31)).toInt32) / (x3 + 1) * (x3 + 1))), (2, .int ((x2 * 1103515245) + 12345)), (0, .ref (b + 0)), (1, .int x1)] dX4_mixOrder_92 5 rfl rfl (by decide) rfl 95 rfl ?_
      refine fm_goto C 38 dX4_mixOrder_95 (by decide) ?_
      refine fm_lv [4, 5, 3, 0] [(0, .ref (b + 0)), (1, .int x1), (2, .int ((x2 * 1103515245) + 12345)), (3, .int (x3 + (-1)))] rfl ?_
      exact ih x1 ((x2 * 1103515245) + 12345) (x3 + (-1)) m8 hf
def f_X4_mixOrder_2 : Nat → Int32 → Int32 → fm_T → Option (Int32 × fm_T)
  | 0 => fun _ _ _ => none
  | n + 1 => fun x1 x2 v => (if v 1 8 ≤ x2 then f_X4_mixOrder_38 1000 x1 x1 ((v 1 8) - 1) v else (if x2 < 0 ∨ 40 ≤ x2.toNatClampNeg then none else ((some (fm_u v 302 x2.toNatClampNeg x2) : Option fm_T).bind fun m12 => f_X4_mixOrder_2 n x1 (x2 + 1) m12)))
theorem f_X4_mixOrder_2_s (n : Nat)  (x1 : Int32) (x2 : Int32) (v : fm_T) : f_X4_mixOrder_2 (n + 1) x1 x2 v = (if v 1 8 ≤ x2 then f_X4_mixOrder_38 1000 x1 x1 ((v 1 8) - 1) v else (if x2 < 0 ∨ 40 ≤ x2.toNatClampNeg then none else ((some (fm_u v 302 x2.toNatClampNeg x2) : Option fm_T).bind fun m12 => f_X4_mixOrder_2 n x1 (x2 + 1) m12))) := rfl
set_option maxHeartbeats 4000000 in
set_option maxRecDepth 20000 in
theorem b_X4_mixOrder_2   {p : Program} {e : Env} {R : Room} {s : State} {m : MethodId} {args : Array Value} {below : List Frame} {meth : Method} {c : Code} (C : fm_C p s m args c cX4_mixOrder RX4 6 D (fm_tys cI cII cLd cOc) tA b 305 A) (hr : meth.sig.returnType = none) (hk0 : meth.locks = false) (hF : 0 ≤ R.frames) (hLo : 40 * 0 ≤ R.locals) : ∀ (n : Nat) (x1 : Int32) (x2 : Int32) (v : fm_T) {q : Int32 × fm_T}, f_X4_mixOrder_2 n x1 x2 v = some q → fm_V p l e R s m args below meth c D b 305 (shC cI cII cLd cOc b) A (MQ below (fm_Q D b 305 (shC cI cII cLd cOc b) A none q.2) args s 0 0 A) 6 2 [(0, .ref (b + 0)), (1, .int x1), (2, .int x2)] [] v := by
  intro n
  induction n with
  | zero =>
    intro x1 x2 v q hf
    cases (show (none : Option (Int32 × fm_T)) = some q from hf)
  | succ n ih =>
    intro x1 x2 v q hf
    rw [f_X4_mixOrder_2_s] at hf
    refine fm_iload_n C dX4_mixOrder_2 rfl 2 rfl 3 rfl ?_
    refine fm_aload_n C dX4_mixOrder_3 rfl 0 rfl 4 rfl ?_
    refine fm_get C (t := 0) (by decide) (shC_0 _) rfl inG_X4 0 (by decide) F_X4_12 rfl dX4_mixOrder_4 7 rfl ?_
    refine fm_getN C (t := 1) (by decide) (shC_1 _) rfl inG_X2 8 (by decide) FN_X4_161 rfl dX4_mixOrder_7 10 rfl ?_
    refine fm_icmp_ge C 26 dX4_mixOrder_10 (by decide) (fun c9 => ?_) 13 rfl (fun c9 => ?_)
    · rw [if_pos c9] at hf
      refine fm_iload_n C dX4_mixOrder_26 rfl 1 rfl 27 rfl ?_
      refine fm_istore_n C [(2, .int x1), (0, .ref (b + 0)), (1, .int x1)] dX4_mixOrder_27 rfl (by decide) rfl 28 rfl ?_
      refine fm_aload_n C dX4_mixOrder_28 rfl 1 rfl 29 rfl ?_
      refine fm_get C (t := 0) (by decide) (shC_0 _) rfl inG_X4 0 (by decide) F_X4_12 rfl dX4_mixOrder_29 32 rfl ?_
      refine fm_getN C (t := 1) (by decide) (shC_1 _) rfl inG_X2 8 (by decide) FN_X4_161 rfl dX4_mixOrder_32 35 rfl ?_
      refine fm_iconst C (x := 1) dX4_mixOrder_35 (by decide) 36 rfl ?_
      refine fm_isub C dX4_mixOrder_36 37 rfl ?_
      refine fm_istore_n C [(3, .int ((v 1 8) - 1)), (2, .int x1), (0, .ref (b + 0)), (1, .int x1)] dX4_mixOrder_37 rfl (by decide) rfl 38 rfl ?_
      refine fm_lv [2, 3, 1, 0] [(0, .ref (b + 0)), (1, .int x1), (2, .int x1), (3, .int ((v 1 8) - 1))] rfl ?_
      exact b_X4_mixOrder_38  C hr hk0 hF hLo 1000 x1 x1 ((v 1 8) - 1) v hf
    · rw [if_neg c9] at hf
      refine fm_aload_n C dX4_mixOrder_13 rfl 0 rfl 14 rfl ?_
      refine fm_get C (t := 0) (by decide) (shC_0 _) rfl inG_X4 6 (by decide) F_X4_43 rfl dX4_mixOrder_14 17 rfl ?_
      refine fm_iload_n C dX4_mixOrder_17 rfl 2 rfl 18 rfl ?_
      refine fm_iload_n C dX4_mixOrder_18 rfl 2 rfl 19 rfl ?_
      by_cases b10 : x2 < 0 ∨ 40 ≤ x2.toNatClampNeg
      · rw [if_pos b10] at hf; cases hf
      rw [if_neg b10] at hf
      obtain ⟨m12, e11, hf⟩ := Option.bind_eq_some_iff.mp hf
      refine fm_iast C (t := 302) (t0 := 0) (by decide) shC_302 rfl b10 dX4_mixOrder_19 20 rfl m12 (Option.some.inj e11) ?_
      refine fm_iinc C [(2, .int (x2 + 1)), (0, .ref (b + 0)), (1, .int x1)] dX4_mixOrder_20 2 rfl rfl (by decide) rfl 23 rfl ?_
      refine fm_goto C 2 dX4_mixOrder_23 (by decide) ?_
      refine fm_lv [1, 2, 0] [(0, .ref (b + 0)), (1, .int x1), (2, .int (x2 + 1))] rfl ?_
      exact ih x1 (x2 + 1) m12 hf
def f_X4_mixOrder (x1 : Int32) (v : fm_T) : Option (Int32 × fm_T) := f_X4_mixOrder_2 1000 x1 0 v
set_option maxHeartbeats 4000000 in
set_option maxRecDepth 20000 in
theorem c_X4_mixOrder {x1 : Int32}  {v : fm_T} {q : Int32 × fm_T} (hf : f_X4_mixOrder x1 v = some q) : fm_M l D (fm_tys cI cII cLd cOc) tA b 305 (shC cI cII cLd cOc b) A yX4_mixOrder cX4_mixOrder 6 none 0 [.ref (b + 0), .int x1] v none q.2 := by
  refine fm_entry (by decide) (Nat.le_of_ble_eq_true rfl) ?_
  intro p e R s m args below meth c C hr hk0 hF hLo
  unfold f_X4_mixOrder at hf
  show fm_V p l e R s m args below meth c D b 305 (shC cI cII cLd cOc b) A _ 6 0 [(0, .ref (b + 0)), (1, .int x1)] [] v
  refine fm_iconst C (x := 0) dX4_mixOrder_0 (by decide) 1 rfl ?_
  refine fm_istore_n C [(2, .int 0), (0, .ref (b + 0)), (1, .int x1)] dX4_mixOrder_1 rfl (by decide) rfl 2 rfl ?_
  refine fm_lv [1, 2, 0] [(0, .ref (b + 0)), (1, .int x1), (2, .int 0)] rfl ?_
  exact b_X4_mixOrder_2  C hr hk0 hF hLo 1000 x1 0 v hf
def f_X4_needByNumbers_9 (d : Nat) : Nat → Int32 → fm_T → Option (Int32 × fm_T)
  | 0 => fun _ _ => none
  | n + 1 => fun x1 v => (if v 1 8 ≤ x1 then some (0, v) else ((gC d 0 3 x1 0 0 v).bind fun q3 => (if x1 < 0 ∨ 40 ≤ x1.toNatClampNeg then none else ((some (fm_u q3.2 303 x1.toNatClampNeg (q3.2 (bo 3 + 16) 1)) : Option fm_T).bind fun m6 => ((some (fm_u m6 304 x1.toNatClampNeg (m6 (bo 3 + 16) 0)) : Option fm_T).bind fun m8 => f_X4_needByNumbers_9 d n (x1 + 1) m8)))))
theorem f_X4_needByNumbers_9_s (d : Nat) (n : Nat)  (x1 : Int32) (v : fm_T) : f_X4_needByNumbers_9 d (n + 1) x1 v = (if v 1 8 ≤ x1 then some (0, v) else ((gC d 0 3 x1 0 0 v).bind fun q3 => (if x1 < 0 ∨ 40 ≤ x1.toNatClampNeg then none else ((some (fm_u q3.2 303 x1.toNatClampNeg (q3.2 (bo 3 + 16) 1)) : Option fm_T).bind fun m6 => ((some (fm_u m6 304 x1.toNatClampNeg (m6 (bo 3 + 16) 0)) : Option fm_T).bind fun m8 => f_X4_needByNumbers_9 d n (x1 + 1) m8))))) := rfl
set_option maxHeartbeats 4000000 in
set_option maxRecDepth 20000 in
theorem b_X4_needByNumbers_9  (d : Nat)  {p : Program} {e : Env} {R : Room} {s : State} {m : MethodId} {args : Array Value} {below : List Frame} {meth : Method} {c : Code} (C : fm_C p s m args c cX4_needByNumbers RX4 2 D (fm_tys cI cII cLd cOc) tA b 305 A) (hr : meth.sig.returnType = none) (hk0 : meth.locks = false) (hF : (d + 4) ≤ R.frames) (hLo : 40 * (d + 4) ≤ R.locals) : ∀ (n : Nat) (x1 : Int32) (v : fm_T) {q : Int32 × fm_T}, f_X4_needByNumbers_9 d n x1 v = some q → fm_V p l e R s m args below meth c D b 305 (shC cI cII cLd cOc b) A (MQ below (fm_Q D b 305 (shC cI cII cLd cOc b) A none q.2) args s 0 0 A) 2 9 [(0, .ref (b + 0)), (1, .int x1)] [] v := by
  intro n
  induction n with
  | zero =>
    intro x1 v q hf
    cases (show (none : Option (Int32 × fm_T)) = some q from hf)
  | succ n ih =>
    intro x1 v q hf
    rw [f_X4_needByNumbers_9_s] at hf
    refine fm_iload_n C dX4_needByNumbers_9 rfl 1 rfl 10 rfl ?_
    refine fm_aload_n C dX4_needByNumbers_10 rfl 0 rfl 11 rfl ?_
    refine fm_get C (t := 0) (by decide) (shC_0 _) rfl inG_X4 0 (by decide) F_X4_12 rfl dX4_needByNumbers_11 14 rfl ?_
    refine fm_getN C (t := 1) (by decide) (shC_1 _) rfl inG_X2 8 (by decide) FN_X4_161 rfl dX4_needByNumbers_14 17 rfl ?_
    refine fm_icmp_ge C 68 dX4_needByNumbers_17 (by decide) (fun c1 => ?_) 20 rfl (fun c1 => ?_)
    · rw [if_pos c1] at hf
      obtain rfl := Option.some.inj hf
      exact fm_vret C hr hk0 dX4_needByNumbers_68
    · rw [if_neg c1] at hf
      refine fm_aload_n C dX4_needByNumbers_20 rfl 0 rfl 21 rfl ?_
      refine fm_get C (t := 0) (by decide) (shC_0 _) rfl inG_X4 5 (by decide) F_X4_39 rfl dX4_needByNumbers_21 24 rfl ?_
      refine fm_iload_n C dX4_needByNumbers_24 rfl 1 rfl 25 rfl ?_
      refine fm_iconst C (x := 0) dX4_needByNumbers_25 (by decide) 26 rfl ?_
      obtain ⟨q3, h2, hf⟩ := Option.bind_eq_some_iff.mp hf
      refine fm_callN C Y_X0_obtain (t := lo 3) (lo_lt (by decide)) ((shC_lo (by decide)) _) rfl LN_X4_83 (As := [.int x1, .int 0]) (rest := []) ((gC_ok d).1 (by decide) h2) (by omega) (by omega) rfl (Nat.le_of_ble_eq_true rfl) dX4_needByNumbers_26 29 rfl [.int q3.1] rfl ?_
      refine fm_pop C dX4_needByNumbers_29 rfl 30 rfl ?_
      refine fm_aload_n C dX4_needByNumbers_30 rfl 0 rfl 31 rfl ?_
      refine fm_get C (t := 0) (by decide) (shC_0 _) rfl inG_X4 7 (by decide) F_X4_47 rfl dX4_needByNumbers_31 34 rfl ?_
      refine fm_iload_n C dX4_needByNumbers_34 rfl 1 rfl 35 rfl ?_
      refine fm_aload_n C dX4_needByNumbers_35 rfl 0 rfl 36 rfl ?_
      refine fm_get C (t := 0) (by decide) (shC_0 _) rfl inG_X4 5 (by decide) F_X4_39 rfl dX4_needByNumbers_36 39 rfl ?_
      refine fm_getN C (t := lo 3) (lo_lt (by decide)) ((shC_lo (by decide)) _) rfl inG_X0 6 (by decide) FN_X4_87 rfl dX4_needByNumbers_39 42 rfl ?_
      refine fm_getN C (t := bo 3 + 16) (isO_lt (isO_now (by decide))) ((shC_O (isO_now (by decide))) _) rfl inG_X1 1 (by decide) FN_X4_107 rfl dX4_needByNumbers_42 45 rfl ?_
      by_cases b4 : x1 < 0 ∨ 40 ≤ x1.toNatClampNeg
      · rw [if_pos b4] at hf; cases hf
      rw [if_neg b4] at hf
      obtain ⟨m6, e5, hf⟩ := Option.bind_eq_some_iff.mp hf
      refine fm_iast C (t := 303) (t0 := 0) (by decide) shC_303 rfl b4 dX4_needByNumbers_45 46 rfl m6 (Option.some.inj e5) ?_
      refine fm_aload_n C dX4_needByNumbers_46 rfl 0 rfl 47 rfl ?_
      refine fm_get C (t := 0) (by decide) (shC_0 _) rfl inG_X4 8 (by decide) F_X4_50 rfl dX4_needByNumbers_47 50 rfl ?_
      refine fm_iload_n C dX4_needByNumbers_50 rfl 1 rfl 51 rfl ?_
      refine fm_aload_n C dX4_needByNumbers_51 rfl 0 rfl 52 rfl ?_
      refine fm_get C (t := 0) (by decide) (shC_0 _) rfl inG_X4 5 (by decide) F_X4_39 rfl dX4_needByNumbers_52 55 rfl ?_
      refine fm_getN C (t := lo 3) (lo_lt (by decide)) ((shC_lo (by decide)) _) rfl inG_X0 6 (by decide) FN_X4_87 rfl dX4_needByNumbers_55 58 rfl ?_
      refine fm_getN C (t := bo 3 + 16) (isO_lt (isO_now (by decide))) ((shC_O (isO_now (by decide))) _) rfl inG_X1 0 (by decide) FN_X4_90 rfl dX4_needByNumbers_58 61 rfl ?_
      obtain ⟨m8, e7, hf⟩ := Option.bind_eq_some_iff.mp hf
      refine fm_iast C (t := 304) (t0 := 0) (by decide) shC_304 rfl b4 dX4_needByNumbers_61 62 rfl m8 (Option.some.inj e7) ?_
      refine fm_iinc C [(1, .int (x1 + 1)), (0, .ref (b + 0))] dX4_needByNumbers_62 1 rfl rfl (by decide) rfl 65 rfl ?_
      refine fm_goto C 9 dX4_needByNumbers_65 (by decide) ?_
      refine fm_lv [1, 0] [(0, .ref (b + 0)), (1, .int (x1 + 1))] rfl ?_
      exact ih (x1 + 1) m8 hf
def f_X4_needByNumbers (d : Nat)  (v : fm_T) : Option (Int32 × fm_T) := ((f_X0_clear 3 v).bind fun q10 => f_X4_needByNumbers_9 d 1000 0 q10.2)
set_option maxHeartbeats 4000000 in
set_option maxRecDepth 20000 in
theorem c_X4_needByNumbers  (d : Nat)  {v : fm_T} {q : Int32 × fm_T} (hf : f_X4_needByNumbers d  v = some q) : fm_M l D (fm_tys cI cII cLd cOc) tA b 305 (shC cI cII cLd cOc b) A yX4_needByNumbers cX4_needByNumbers 2 none (d + 4) [.ref (b + 0)] v none q.2 := by
  refine fm_entry (by decide) (Nat.le_of_ble_eq_true rfl) ?_
  intro p e R s m args below meth c C hr hk0 hF hLo
  unfold f_X4_needByNumbers at hf
  show fm_V p l e R s m args below meth c D b 305 (shC cI cII cLd cOc b) A _ 2 0 [(0, .ref (b + 0))] [] v
  refine fm_aload_n C dX4_needByNumbers_0 rfl 0 rfl 1 rfl ?_
  refine fm_get C (t := 0) (by decide) (shC_0 _) rfl inG_X4 5 (by decide) F_X4_39 rfl dX4_needByNumbers_1 4 rfl ?_
  obtain ⟨q10, h9, hf⟩ := Option.bind_eq_some_iff.mp hf
  refine fm_callN C Y_X0_clear (t := lo 3) (lo_lt (by decide)) ((shC_lo (by decide)) _) rfl LN_X4_144 (As := []) (rest := []) (c_X0_clear (by decide) h9) (by omega) (by omega) rfl (Nat.le_of_ble_eq_true rfl) dX4_needByNumbers_4 7 rfl [] rfl ?_
  refine fm_iconst C (x := 0) dX4_needByNumbers_7 (by decide) 8 rfl ?_
  refine fm_istore_n C [(1, .int 0), (0, .ref (b + 0))] dX4_needByNumbers_8 rfl (by decide) rfl 9 rfl ?_
  refine fm_lv [1, 0] [(0, .ref (b + 0)), (1, .int 0)] rfl ?_
  exact b_X4_needByNumbers_9 d  C hr hk0 hF hLo 1000 0 q10.2 hf
def f_X4_countUnlike_11 (d : Nat) : Nat → Int32 → Int32 → fm_T → Option (Int32 × fm_T)
  | 0 => fun _ _ _ => none
  | n + 1 => fun x1 x2 v => (if v 1 8 ≤ x2 then some (x1, v) else (if x2 < 0 ∨ 40 ≤ x2.toNatClampNeg then none else ((gC d 0 3 (v 302 x2.toNatClampNeg) 0 0 v).bind fun q4 => (if v 302 x2.toNatClampNeg < 0 ∨ 40 ≤ (v 302 x2.toNatClampNeg).toNatClampNeg then none else (if q4.2 (bo 3 + 16) 1 = q4.2 303 ((v 302 x2.toNatClampNeg).toNatClampNeg) then (if q4.2 (bo 3 + 16) 0 = q4.2 304 ((v 302 x2.toNatClampNeg).toNatClampNeg) then f_X4_countUnlike_11 d n x1 (x2 + 1) q4.2 else f_X4_countUnlike_11 d n (x1 + 1) (x2 + 1) q4.2) else f_X4_countUnlike_11 d n (x1 + 1) (x2 + 1) q4.2)))))
theorem f_X4_countUnlike_11_s (d : Nat) (n : Nat)  (x1 : Int32) (x2 : Int32) (v : fm_T) : f_X4_countUnlike_11 d (n + 1) x1 x2 v = (if v 1 8 ≤ x2 then some (x1, v) else (if x2 < 0 ∨ 40 ≤ x2.toNatClampNeg then none else ((gC d 0 3 (v 302 x2.toNatClampNeg) 0 0 v).bind fun q4 => (if v 302 x2.toNatClampNeg < 0 ∨ 40 ≤ (v 302 x2.toNatClampNeg).toNatClampNeg then none else (if q4.2 (bo 3 + 16) 1 = q4.2 303 ((v 302 x2.toNatClampNeg).toNatClampNeg) then (if q4.2 (bo 3 + 16) 0 = q4.2 304 ((v 302 x2.toNatClampNeg).toNatClampNeg) then f_X4_countUnlike_11 d n x1 (x2 + 1) q4.2 else f_X4_countUnlike_11 d n (x1 + 1) (x2 + 1) q4.2) else f_X4_countUnlike_11 d n (x1 + 1) (x2 + 1) q4.2))))) := rfl
set_option maxHeartbeats 4000000 in
set_option maxRecDepth 20000 in
theorem b_X4_countUnlike_11  (d : Nat)  {p : Program} {e : Env} {R : Room} {s : State} {m : MethodId} {args : Array Value} {below : List Frame} {meth : Method} {c : Code} (C : fm_C p s m args c cX4_countUnlike RX4 4 D (fm_tys cI cII cLd cOc) tA b 305 A) (hr : meth.sig.returnType = (some .int)) (hk0 : meth.locks = false) (hF : (d + 4) ≤ R.frames) (hLo : 40 * (d + 4) ≤ R.locals) : ∀ (n : Nat) (x1 : Int32) (x2 : Int32) (v : fm_T) {q : Int32 × fm_T}, f_X4_countUnlike_11 d n x1 x2 v = some q → fm_V p l e R s m args below meth c D b 305 (shC cI cII cLd cOc b) A (MQ below (fm_Q D b 305 (shC cI cII cLd cOc b) A (some (.int q.1)) q.2) args s 0 0 A) 4 11 [(0, .ref (b + 0)), (1, .int x1), (2, .int x2)] [] v := by
  intro n
  induction n with
  | zero =>
    intro x1 x2 v q hf
    cases (show (none : Option (Int32 × fm_T)) = some q from hf)
  | succ n ih =>
    intro x1 x2 v q hf
    rw [f_X4_countUnlike_11_s] at hf
    refine fm_iload_n C dX4_countUnlike_11 rfl 2 rfl 12 rfl ?_
    refine fm_aload_n C dX4_countUnlike_12 rfl 0 rfl 13 rfl ?_
    refine fm_get C (t := 0) (by decide) (shC_0 _) rfl inG_X4 0 (by decide) F_X4_12 rfl dX4_countUnlike_13 16 rfl ?_
    refine fm_getN C (t := 1) (by decide) (shC_1 _) rfl inG_X2 8 (by decide) FN_X4_161 rfl dX4_countUnlike_16 19 rfl ?_
    refine fm_icmp_ge C 86 dX4_countUnlike_19 (by decide) (fun c1 => ?_) 22 rfl (fun c1 => ?_)
    · rw [if_pos c1] at hf
      refine fm_iload_n C dX4_countUnlike_86 rfl 1 rfl 87 rfl ?_
      obtain rfl := Option.some.inj hf
      exact fm_iret C hr hk0 dX4_countUnlike_87
    · rw [if_neg c1] at hf
      refine fm_aload_n C dX4_countUnlike_22 rfl 0 rfl 23 rfl ?_
      refine fm_get C (t := 0) (by decide) (shC_0 _) rfl inG_X4 6 (by decide) F_X4_43 rfl dX4_countUnlike_23 26 rfl ?_
      refine fm_iload_n C dX4_countUnlike_26 rfl 2 rfl 27 rfl ?_
      by_cases b2 : x2 < 0 ∨ 40 ≤ x2.toNatClampNeg
      · rw [if_pos b2] at hf; cases hf
      rw [if_neg b2] at hf
      refine fm_iald C (t := 302) (t0 := 0) (by decide) (shC_302 _) rfl b2 dX4_countUnlike_27 28 rfl ?_
      refine fm_istore_n C [(3, .int (v 302 x2.toNatClampNeg)), (0, .ref (b + 0)), (1, .int x1), (2, .int x2)] dX4_countUnlike_28 rfl (by decide) rfl 29 rfl ?_
      refine fm_aload_n C dX4_countUnlike_29 rfl 1 rfl 30 rfl ?_
      refine fm_get C (t := 0) (by decide) (shC_0 _) rfl inG_X4 5 (by decide) F_X4_39 rfl dX4_countUnlike_30 33 rfl ?_
      refine fm_iload_n C dX4_countUnlike_33 rfl 0 rfl 34 rfl ?_
      refine fm_iconst C (x := 0) dX4_countUnlike_34 (by decide) 35 rfl ?_
      obtain ⟨q4, h3, hf⟩ := Option.bind_eq_some_iff.mp hf
      refine fm_callN C Y_X0_obtain (t := lo 3) (lo_lt (by decide)) ((shC_lo (by decide)) _) rfl LN_X4_83 (As := [.int (v 302 x2.toNatClampNeg), .int 0]) (rest := []) ((gC_ok d).1 (by decide) h3) (by omega) (by omega) rfl (Nat.le_of_ble_eq_true rfl) dX4_countUnlike_35 38 rfl [.int q4.1] rfl ?_
      refine fm_pop C dX4_countUnlike_38 rfl 39 rfl ?_
      refine fm_aload_n C dX4_countUnlike_39 rfl 1 rfl 40 rfl ?_
      refine fm_get C (t := 0) (by decide) (shC_0 _) rfl inG_X4 5 (by decide) F_X4_39 rfl dX4_countUnlike_40 43 rfl ?_
      refine fm_getN C (t := lo 3) (lo_lt (by decide)) ((shC_lo (by decide)) _) rfl inG_X0 6 (by decide) FN_X4_87 rfl dX4_countUnlike_43 46 rfl ?_
      refine fm_getN C (t := bo 3 + 16) (isO_lt (isO_now (by decide))) ((shC_O (isO_now (by decide))) _) rfl inG_X1 1 (by decide) FN_X4_107 rfl dX4_countUnlike_46 49 rfl ?_
      refine fm_aload_n C dX4_countUnlike_49 rfl 1 rfl 50 rfl ?_
      refine fm_get C (t := 0) (by decide) (shC_0 _) rfl inG_X4 7 (by decide) F_X4_47 rfl dX4_countUnlike_50 53 rfl ?_
      refine fm_iload_n C dX4_countUnlike_53 rfl 0 rfl 54 rfl ?_
      by_cases b5 : v 302 x2.toNatClampNeg < 0 ∨ 40 ≤ (v 302 x2.toNatClampNeg).toNatClampNeg
      · rw [if_pos b5] at hf; cases hf
      rw [if_neg b5] at hf
      refine fm_iald C (t := 303) (t0 := 0) (by decide) (shC_303 _) rfl b5 dX4_countUnlike_54 55 rfl ?_
      refine fm_icmp_ne C 77 dX4_countUnlike_55 (by decide) (fun c6 => ?_) 58 rfl (fun c6 => ?_)
      · rw [if_neg c6] at hf
        refine fm_iinc C [(1, .int (x1 + 1)), (3, .int (v 302 x2.toNatClampNeg)), (0, .ref (b + 0)), (2, .int x2)] dX4_countUnlike_77 2 rfl rfl (by decide) rfl 80 rfl ?_
        refine fm_iinc C [(2, .int (x2 + 1)), (1, .int (x1 + 1)), (3, .int (v 302 x2.toNatClampNeg)), (0, .ref (b + 0))] dX4_countUnlike_80 3 rfl rfl (by decide) rfl 83 rfl ?_
        refine fm_goto C 11 dX4_countUnlike_83 (by decide) ?_
        refine fm_lv [3, 1, 0] [(0, .ref (b + 0)), (1, .int (x1 + 1)), (2, .int (x2 + 1))] rfl ?_
        exact ih (x1 + 1) (x2 + 1) q4.2 hf
      · rw [if_pos c6] at hf
        refine fm_aload_n C dX4_countUnlike_58 rfl 1 rfl 59 rfl ?_
        refine fm_get C (t := 0) (by decide) (shC_0 _) rfl inG_X4 5 (by decide) F_X4_39 rfl dX4_countUnlike_59 62 rfl ?_
        refine fm_getN C (t := lo 3) (lo_lt (by decide)) ((shC_lo (by decide)) _) rfl inG_X0 6 (by decide) FN_X4_87 rfl dX4_countUnlike_62 65 rfl ?_
        refine fm_getN C (t := bo 3 + 16) (isO_lt (isO_now (by decide))) ((shC_O (isO_now (by decide))) _) rfl inG_X1 0 (by decide) FN_X4_90 rfl dX4_countUnlike_65 68 rfl ?_
        refine fm_aload_n C dX4_countUnlike_68 rfl 1 rfl 69 rfl ?_
        refine fm_get C (t := 0) (by decide) (shC_0 _) rfl inG_X4 8 (by decide) F_X4_50 rfl dX4_countUnlike_69 72 rfl ?_
        refine fm_iload_n C dX4_countUnlike_72 rfl 0 rfl 73 rfl ?_
        refine fm_iald C (t := 304) (t0 := 0) (by decide) (shC_304 _) rfl b5 dX4_countUnlike_73 74 rfl ?_
        refine fm_icmp_eq C 80 dX4_countUnlike_74 (by decide) (fun c7 => ?_) 77 rfl (fun c7 => ?_)
        · rw [if_pos c7] at hf
          refine fm_iinc C [(2, .int (x2 + 1)), (3, .int (v 302 x2.toNatClampNeg)), (0, .ref (b + 0)), (1, .int x1)] dX4_countUnlike_80 3 rfl rfl (by decide) rfl 83 rfl ?_
          refine fm_goto C 11 dX4_countUnlike_83 (by decide) ?_
          refine fm_lv [2, 3, 0] [(0, .ref (b + 0)), (1, .int x1), (2, .int (x2 + 1))] rfl ?_
          exact ih x1 (x2 + 1) q4.2 hf
        · rw [if_neg c7] at hf
          refine fm_iinc C [(1, .int (x1 + 1)), (3, .int (v 302 x2.toNatClampNeg)), (0, .ref (b + 0)), (2, .int x2)] dX4_countUnlike_77 2 rfl rfl (by decide) rfl 80 rfl ?_
          refine fm_iinc C [(2, .int (x2 + 1)), (1, .int (x1 + 1)), (3, .int (v 302 x2.toNatClampNeg)), (0, .ref (b + 0))] dX4_countUnlike_80 3 rfl rfl (by decide) rfl 83 rfl ?_
          refine fm_goto C 11 dX4_countUnlike_83 (by decide) ?_
          refine fm_lv [3, 1, 0] [(0, .ref (b + 0)), (1, .int (x1 + 1)), (2, .int (x2 + 1))] rfl ?_
          exact ih (x1 + 1) (x2 + 1) q4.2 hf
def f_X4_countUnlike (d : Nat)  (v : fm_T) : Option (Int32 × fm_T) := ((f_X0_clear 3 v).bind fun q9 => f_X4_countUnlike_11 d 1000 0 0 q9.2)
set_option maxHeartbeats 4000000 in
set_option maxRecDepth 20000 in
theorem c_X4_countUnlike  (d : Nat)  {v : fm_T} {q : Int32 × fm_T} (hf : f_X4_countUnlike d  v = some q) : fm_M l D (fm_tys cI cII cLd cOc) tA b 305 (shC cI cII cLd cOc b) A yX4_countUnlike cX4_countUnlike 4 (some .int) (d + 4) [.ref (b + 0)] v (some (.int q.1)) q.2 := by
  refine fm_entry (by decide) (Nat.le_of_ble_eq_true rfl) ?_
  intro p e R s m args below meth c C hr hk0 hF hLo
  unfold f_X4_countUnlike at hf
  show fm_V p l e R s m args below meth c D b 305 (shC cI cII cLd cOc b) A _ 4 0 [(0, .ref (b + 0))] [] v
  refine fm_aload_n C dX4_countUnlike_0 rfl 0 rfl 1 rfl ?_
  refine fm_get C (t := 0) (by decide) (shC_0 _) rfl inG_X4 5 (by decide) F_X4_39 rfl dX4_countUnlike_1 4 rfl ?_
  obtain ⟨q9, h8, hf⟩ := Option.bind_eq_some_iff.mp hf
  refine fm_callN C Y_X0_clear (t := lo 3) (lo_lt (by decide)) ((shC_lo (by decide)) _) rfl LN_X4_144 (As := []) (rest := []) (c_X0_clear (by decide) h8) (by omega) (by omega) rfl (Nat.le_of_ble_eq_true rfl) dX4_countUnlike_4 7 rfl [] rfl ?_
  refine fm_iconst C (x := 0) dX4_countUnlike_7 (by decide) 8 rfl ?_
  refine fm_istore_n C [(1, .int 0), (0, .ref (b + 0))] dX4_countUnlike_8 rfl (by decide) rfl 9 rfl ?_
  refine fm_iconst C (x := 0) dX4_countUnlike_9 (by decide) 10 rfl ?_
  refine fm_istore_n C [(2, .int 0), (1, .int 0), (0, .ref (b + 0))] dX4_countUnlike_10 rfl (by decide) rfl 11 rfl ?_
  refine fm_lv [2, 1, 0] [(0, .ref (b + 0)), (1, .int 0), (2, .int 0)] rfl ?_
  exact b_X4_countUnlike_11 d  C hr hk0 hF hLo 1000 0 0 q9.2 hf
def f_X4_alike (d : Nat) (x1 : Int32) (v : fm_T) : Option (Int32 × fm_T) := (if v 0 9 < 40 then ((some (fm_u v 0 9 ((v 0 9) + 1)) : Option fm_T).bind fun m3 => ((f_X4_needByNumbers d  m3).bind fun q5 => ((f_X4_mixOrder x1 q5.2).bind fun q7 => ((f_X4_countUnlike d  q7.2).bind fun q9 => some (q9.1, q9.2))))) else some ((-2), v))
set_option maxHeartbeats 4000000 in
set_option maxRecDepth 20000 in
theorem c_X4_alike {x1 : Int32} (d : Nat)  {v : fm_T} {q : Int32 × fm_T} (hf : f_X4_alike d x1 v = some q) : fm_M l D (fm_tys cI cII cLd cOc) tA b 305 (shC cI cII cLd cOc b) A yX4_alike cX4_alike 2 (some .int) (d + 5) [.ref (b + 0), .int x1] v (some (.int q.1)) q.2 := by
  refine fm_entry (by decide) (Nat.le_of_ble_eq_true rfl) ?_
  intro p e R s m args below meth c C hr hk0 hF hLo
  unfold f_X4_alike at hf
  show fm_V p l e R s m args below meth c D b 305 (shC cI cII cLd cOc b) A _ 2 0 [(0, .ref (b + 0)), (1, .int x1)] [] v
  refine fm_aload_n C dX4_alike_0 rfl 0 rfl 1 rfl ?_
  refine fm_get C (t := 0) (by decide) (shC_0 _) rfl inG_X4 9 (by decide) F_X4_145 rfl dX4_alike_1 4 rfl ?_
  refine fm_bipush C (x := 40) dX4_alike_4 (by decide) 6 rfl ?_
  refine fm_icmp_lt C 12 dX4_alike_6 (by decide) (fun c1 => ?_) 9 rfl (fun c1 => ?_)
  · rw [if_pos c1] at hf
    refine fm_aload_n C dX4_alike_12 rfl 0 rfl 13 rfl ?_
    refine fm_dup C dX4_alike_13 rfl 14 rfl ?_
    refine fm_get C (t := 0) (by decide) (shC_0 _) rfl inG_X4 9 (by decide) F_X4_145 rfl dX4_alike_14 17 rfl ?_
    refine fm_iconst C (x := 1) dX4_alike_17 (by decide) 18 rfl ?_
    refine fm_iadd C dX4_alike_18 19 rfl ?_
    obtain ⟨m3, e2, hf⟩ := Option.bind_eq_some_iff.mp hf
    refine fm_put C (t := 0) (by decide) (shC_0 _) rfl inG_X4 9 (by decide) F_X4_145 tyX4 tyX4_ok nmX4 rfl (ty := .int) (by decide +kernel) rfl rfl (Nat.le_of_ble_eq_true rfl) ((shC_0 _).trans rfl) dX4_alike_19 22 rfl m3 (Option.some.inj e2) ?_
    refine fm_aload_n C dX4_alike_22 rfl 0 rfl 23 rfl ?_
    obtain ⟨q5, h4, hf⟩ := Option.bind_eq_some_iff.mp hf
    refine fm_callV C Y_X4_needByNumbers (t := 0) (by decide) (shC_0 _) rfl LM_X4_148 (As := []) (rest := []) (c_X4_needByNumbers d  h4) (by omega) (by omega) rfl (Nat.le_of_ble_eq_true rfl) dX4_alike_23 26 rfl [] rfl ?_
    refine fm_aload_n C dX4_alike_26 rfl 0 rfl 27 rfl ?_
    refine fm_iload_n C dX4_alike_27 rfl 1 rfl 28 rfl ?_
    obtain ⟨q7, h6, hf⟩ := Option.bind_eq_some_iff.mp hf
    refine fm_callV C Y_X4_mixOrder (t := 0) (by decide) (shC_0 _) rfl LM_X4_151 (As := [.int x1]) (rest := []) (c_X4_mixOrder  h6) (by omega) (by omega) rfl (Nat.le_of_ble_eq_true rfl) dX4_alike_28 31 rfl [] rfl ?_
    refine fm_aload_n C dX4_alike_31 rfl 0 rfl 32 rfl ?_
    obtain ⟨q9, h8, hf⟩ := Option.bind_eq_some_iff.mp hf
    refine fm_callV C Y_X4_countUnlike (t := 0) (by decide) (shC_0 _) rfl LM_X4_155 (As := []) (rest := []) (c_X4_countUnlike d  h8) (by omega) (by omega) rfl (Nat.le_of_ble_eq_true rfl) dX4_alike_32 35 rfl [.int q9.1] rfl ?_
    obtain rfl := Option.some.inj hf
    exact fm_iret C hr hk0 dX4_alike_35
  · rw [if_neg c1] at hf
    refine fm_bipush C (x := -2) dX4_alike_9 (by decide) 11 rfl ?_
    obtain rfl := Option.some.inj hf
    exact fm_iret C hr hk0 dX4_alike_11
end
end
