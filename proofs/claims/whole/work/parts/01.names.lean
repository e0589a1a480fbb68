-- ===== PART A: goes FIRST, ahead of the names: the tables' words, and 'selects' of the private methods out of them =====
/-- a private method of a class that the tables say can be made, by its rows of tables_1 -/
def lw_okq (q : MethodName × Nat) : Prop := (q.1.cls ≠ "java/lang/invoke/MethodHandle" ∧ q.1.cls ≠ "java/lang/invoke/VarHandle") ∧ Cond.instantiable q.1.cls q.2 ∈ tables_1 ∧ Cond.privateMethod q.1 ∈ tables_1 ∧ Cond.instanceMethod q.1 ∈ tables_1
theorem lw_p0 : lw_okq (⟨"ConstantStarts$Plan", "addModule", "(I)I"⟩, 14) := ⟨⟨by decide +kernel, by decide +kernel⟩, List.mem_of_getElem? (i := 17) (by decide +kernel), List.mem_of_getElem? (i := 204) (by decide +kernel), List.mem_of_getElem? (i := 205) (by decide +kernel)⟩
theorem lw_p1 : lw_okq (⟨"ConstantStarts$Plan", "setItem", "(III)I"⟩, 14) := ⟨⟨by decide +kernel, by decide +kernel⟩, List.mem_of_getElem? (i := 17) (by decide +kernel), List.mem_of_getElem? (i := 212) (by decide +kernel), List.mem_of_getElem? (i := 213) (by decide +kernel)⟩
theorem lw_p2 : lw_okq (⟨"ConstantStarts$Plan", "hasItem", "(II)Z"⟩, 14) := ⟨⟨by decide +kernel, by decide +kernel⟩, List.mem_of_getElem? (i := 17) (by decide +kernel), List.mem_of_getElem? (i := 216) (by decide +kernel), List.mem_of_getElem? (i := 217) (by decide +kernel)⟩
theorem lw_p3 : lw_okq (⟨"ConstantStarts$Plan", "hasModule", "(I)Z"⟩, 14) := ⟨⟨by decide +kernel, by decide +kernel⟩, List.mem_of_getElem? (i := 17) (by decide +kernel), List.mem_of_getElem? (i := 220) (by decide +kernel), List.mem_of_getElem? (i := 221) (by decide +kernel)⟩
theorem lw_p4 : lw_okq (⟨"ConstantStarts$Plan", "addUsed", "(II)I"⟩, 14) := ⟨⟨by decide +kernel, by decide +kernel⟩, List.mem_of_getElem? (i := 17) (by decide +kernel), List.mem_of_getElem? (i := 228) (by decide +kernel), List.mem_of_getElem? (i := 229) (by decide +kernel)⟩
theorem lw_p5 : lw_okq (⟨"ConstantStarts$Plan", "addDeed", "(III)I"⟩, 14) := ⟨⟨by decide +kernel, by decide +kernel⟩, List.mem_of_getElem? (i := 17) (by decide +kernel), List.mem_of_getElem? (i := 236) (by decide +kernel), List.mem_of_getElem? (i := 237) (by decide +kernel)⟩
theorem lw_p6 : lw_okq (⟨"ConstantStarts$Plan", "isDeed", "(II)Z"⟩, 14) := ⟨⟨by decide +kernel, by decide +kernel⟩, List.mem_of_getElem? (i := 17) (by decide +kernel), List.mem_of_getElem? (i := 240) (by decide +kernel), List.mem_of_getElem? (i := 241) (by decide +kernel)⟩
theorem lw_p7 : lw_okq (⟨"ConstantStarts$Plan", "mayBeConstant", "(I)Z"⟩, 14) := ⟨⟨by decide +kernel, by decide +kernel⟩, List.mem_of_getElem? (i := 17) (by decide +kernel), List.mem_of_getElem? (i := 244) (by decide +kernel), List.mem_of_getElem? (i := 245) (by decide +kernel)⟩
theorem lw_p8 : lw_okq (⟨"ConstantStarts$Plan", "addConstant", "(IIIII)I"⟩, 14) := ⟨⟨by decide +kernel, by decide +kernel⟩, List.mem_of_getElem? (i := 17) (by decide +kernel), List.mem_of_getElem? (i := 252) (by decide +kernel), List.mem_of_getElem? (i := 253) (by decide +kernel)⟩
theorem lw_p9 : lw_okq (⟨"ConstantStarts$Plan", "isFormula", "(IIII)Z"⟩, 14) := ⟨⟨by decide +kernel, by decide +kernel⟩, List.mem_of_getElem? (i := 17) (by decide +kernel), List.mem_of_getElem? (i := 256) (by decide +kernel), List.mem_of_getElem? (i := 257) (by decide +kernel)⟩
theorem lw_p10 : lw_okq (⟨"ConstantStarts", "loaderAt", "(I)LConstantStarts$Loader;"⟩, 10) := ⟨⟨by decide +kernel, by decide +kernel⟩, List.mem_of_getElem? (i := 9) (by decide +kernel), List.mem_of_getElem? (i := 266) (by decide +kernel), List.mem_of_getElem? (i := 267) (by decide +kernel)⟩
theorem lw_p11 : lw_okq (⟨"ConstantStarts$Plan", "hasConstant", "(I)Z"⟩, 14) := ⟨⟨by decide +kernel, by decide +kernel⟩, List.mem_of_getElem? (i := 17) (by decide +kernel), List.mem_of_getElem? (i := 270) (by decide +kernel), List.mem_of_getElem? (i := 271) (by decide +kernel)⟩
theorem lw_p12 : lw_okq (⟨"ConstantStarts$Trace", "clear", "()V"⟩, 3) := ⟨⟨by decide +kernel, by decide +kernel⟩, List.mem_of_getElem? (i := 82) (by decide +kernel), List.mem_of_getElem? (i := 274) (by decide +kernel), List.mem_of_getElem? (i := 275) (by decide +kernel)⟩
theorem lw_p13 : lw_okq (⟨"ConstantStarts$Loader", "obtain", "(II)Z"⟩, 8) := ⟨⟨by decide +kernel, by decide +kernel⟩, List.mem_of_getElem? (i := 102) (by decide +kernel), List.mem_of_getElem? (i := 278) (by decide +kernel), List.mem_of_getElem? (i := 279) (by decide +kernel)⟩
theorem lw_p14 : lw_okq (⟨"ConstantStarts$Outcome", "fail", "(II)Z"⟩, 5) := ⟨⟨by decide +kernel, by decide +kernel⟩, List.mem_of_getElem? (i := 110) (by decide +kernel), List.mem_of_getElem? (i := 283) (by decide +kernel), List.mem_of_getElem? (i := 284) (by decide +kernel)⟩
theorem lw_p15 : lw_okq (⟨"ConstantStarts$Loader", "begin", "(II)Z"⟩, 8) := ⟨⟨by decide +kernel, by decide +kernel⟩, List.mem_of_getElem? (i := 102) (by decide +kernel), List.mem_of_getElem? (i := 287) (by decide +kernel), List.mem_of_getElem? (i := 288) (by decide +kernel)⟩
def lw_privs_1 : List (MethodName × Nat) := [(⟨"ConstantStarts$Plan", "addModule", "(I)I"⟩, 14), (⟨"ConstantStarts$Plan", "setItem", "(III)I"⟩, 14), (⟨"ConstantStarts$Plan", "hasItem", "(II)Z"⟩, 14), (⟨"ConstantStarts$Plan", "hasModule", "(I)Z"⟩, 14), (⟨"ConstantStarts$Plan", "addUsed", "(II)I"⟩, 14), (⟨"ConstantStarts$Plan", "addDeed", "(III)I"⟩, 14), (⟨"ConstantStarts$Plan", "isDeed", "(II)Z"⟩, 14), (⟨"ConstantStarts$Plan", "mayBeConstant", "(I)Z"⟩, 14), (⟨"ConstantStarts$Plan", "addConstant", "(IIIII)I"⟩, 14), (⟨"ConstantStarts$Plan", "isFormula", "(IIII)Z"⟩, 14), (⟨"ConstantStarts", "loaderAt", "(I)LConstantStarts$Loader;"⟩, 10), (⟨"ConstantStarts$Plan", "hasConstant", "(I)Z"⟩, 14), (⟨"ConstantStarts$Trace", "clear", "()V"⟩, 3), (⟨"ConstantStarts$Loader", "obtain", "(II)Z"⟩, 8), (⟨"ConstantStarts$Outcome", "fail", "(II)Z"⟩, 5), (⟨"ConstantStarts$Loader", "begin", "(II)Z"⟩, 8)]
theorem lw_r1 : ∀ q ∈ lw_privs_1, lw_okq q := List.forall_mem_cons.mpr ⟨lw_p0, List.forall_mem_cons.mpr ⟨lw_p1, List.forall_mem_cons.mpr ⟨lw_p2, List.forall_mem_cons.mpr ⟨lw_p3, List.forall_mem_cons.mpr ⟨lw_p4, List.forall_mem_cons.mpr ⟨lw_p5, List.forall_mem_cons.mpr ⟨lw_p6, List.forall_mem_cons.mpr ⟨lw_p7, List.forall_mem_cons.mpr ⟨lw_p8, List.forall_mem_cons.mpr ⟨lw_p9, List.forall_mem_cons.mpr ⟨lw_p10, List.forall_mem_cons.mpr ⟨lw_p11, List.forall_mem_cons.mpr ⟨lw_p12, List.forall_mem_cons.mpr ⟨lw_p13, List.forall_mem_cons.mpr ⟨lw_p14, List.forall_mem_cons.mpr ⟨lw_p15, fun _ h => absurd h List.not_mem_nil⟩⟩⟩⟩⟩⟩⟩⟩⟩⟩⟩⟩⟩⟩⟩⟩
theorem lw_p16 : lw_okq (⟨"ConstantStarts$Trace", "note", "(II)V"⟩, 3) := ⟨⟨by decide +kernel, by decide +kernel⟩, List.mem_of_getElem? (i := 82) (by decide +kernel), List.mem_of_getElem? (i := 291) (by decide +kernel), List.mem_of_getElem? (i := 292) (by decide +kernel)⟩
theorem lw_p17 : lw_okq (⟨"ConstantStarts$Loader", "beginUsed", "(II)Z"⟩, 8) := ⟨⟨by decide +kernel, by decide +kernel⟩, List.mem_of_getElem? (i := 102) (by decide +kernel), List.mem_of_getElem? (i := 298) (by decide +kernel), List.mem_of_getElem? (i := 299) (by decide +kernel)⟩
theorem lw_p18 : lw_okq (⟨"ConstantStarts$Loader", "doDeeds", "(II)Z"⟩, 8) := ⟨⟨by decide +kernel, by decide +kernel⟩, List.mem_of_getElem? (i := 102) (by decide +kernel), List.mem_of_getElem? (i := 302) (by decide +kernel), List.mem_of_getElem? (i := 303) (by decide +kernel)⟩
theorem lw_p19 : lw_okq (⟨"ConstantStarts$Loader", "doDeed", "(III)Z"⟩, 8) := ⟨⟨by decide +kernel, by decide +kernel⟩, List.mem_of_getElem? (i := 102) (by decide +kernel), List.mem_of_getElem? (i := 306) (by decide +kernel), List.mem_of_getElem? (i := 307) (by decide +kernel)⟩
theorem lw_p20 : lw_okq (⟨"ConstantStarts$Outcome", "failStart", "(I)Z"⟩, 5) := ⟨⟨by decide +kernel, by decide +kernel⟩, List.mem_of_getElem? (i := 110) (by decide +kernel), List.mem_of_getElem? (i := 311) (by decide +kernel), List.mem_of_getElem? (i := 312) (by decide +kernel)⟩
theorem lw_p21 : lw_okq (⟨"ConstantStarts$Outcome", "copy", "(LConstantStarts$Outcome;)V"⟩, 5) := ⟨⟨by decide +kernel, by decide +kernel⟩, List.mem_of_getElem? (i := 110) (by decide +kernel), List.mem_of_getElem? (i := 315) (by decide +kernel), List.mem_of_getElem? (i := 316) (by decide +kernel)⟩
theorem lw_p22 : lw_okq (⟨"ConstantStarts$Loader", "work", "(II)Z"⟩, 8) := ⟨⟨by decide +kernel, by decide +kernel⟩, List.mem_of_getElem? (i := 102) (by decide +kernel), List.mem_of_getElem? (i := 319) (by decide +kernel), List.mem_of_getElem? (i := 320) (by decide +kernel)⟩
theorem lw_p23 : lw_okq (⟨"ConstantStarts$Loader", "reckon", "(II)Z"⟩, 8) := ⟨⟨by decide +kernel, by decide +kernel⟩, List.mem_of_getElem? (i := 102) (by decide +kernel), List.mem_of_getElem? (i := 323) (by decide +kernel), List.mem_of_getElem? (i := 324) (by decide +kernel)⟩
theorem lw_p24 : lw_okq (⟨"ConstantStarts$Outcome", "succeed", "(I)Z"⟩, 5) := ⟨⟨by decide +kernel, by decide +kernel⟩, List.mem_of_getElem? (i := 110) (by decide +kernel), List.mem_of_getElem? (i := 327) (by decide +kernel), List.mem_of_getElem? (i := 328) (by decide +kernel)⟩
theorem lw_p25 : lw_okq (⟨"ConstantStarts$Loader", "multiply", "(III)Z"⟩, 8) := ⟨⟨by decide +kernel, by decide +kernel⟩, List.mem_of_getElem? (i := 102) (by decide +kernel), List.mem_of_getElem? (i := 331) (by decide +kernel), List.mem_of_getElem? (i := 332) (by decide +kernel)⟩
theorem lw_p26 : lw_okq (⟨"ConstantStarts$Loader", "divide", "(III)Z"⟩, 8) := ⟨⟨by decide +kernel, by decide +kernel⟩, List.mem_of_getElem? (i := 102) (by decide +kernel), List.mem_of_getElem? (i := 335) (by decide +kernel), List.mem_of_getElem? (i := 336) (by decide +kernel)⟩
theorem lw_p27 : lw_okq (⟨"ConstantStarts$Loader", "readItem", "(II)Z"⟩, 8) := ⟨⟨by decide +kernel, by decide +kernel⟩, List.mem_of_getElem? (i := 102) (by decide +kernel), List.mem_of_getElem? (i := 339) (by decide +kernel), List.mem_of_getElem? (i := 340) (by decide +kernel)⟩
theorem lw_p28 : lw_okq (⟨"ConstantStarts$Plan", "countConstants", "(I)I"⟩, 14) := ⟨⟨by decide +kernel, by decide +kernel⟩, List.mem_of_getElem? (i := 17) (by decide +kernel), List.mem_of_getElem? (i := 344) (by decide +kernel), List.mem_of_getElem? (i := 345) (by decide +kernel)⟩
theorem lw_p29 : lw_okq (⟨"ConstantStarts$Loader", "writeItem", "(III)Z"⟩, 8) := ⟨⟨by decide +kernel, by decide +kernel⟩, List.mem_of_getElem? (i := 102) (by decide +kernel), List.mem_of_getElem? (i := 348) (by decide +kernel), List.mem_of_getElem? (i := 349) (by decide +kernel)⟩
theorem lw_p30 : lw_okq (⟨"ConstantStarts", "answer", "(LConstantStarts$Loader;Z)I"⟩, 10) := ⟨⟨by decide +kernel, by decide +kernel⟩, List.mem_of_getElem? (i := 9) (by decide +kernel), List.mem_of_getElem? (i := 352) (by decide +kernel), List.mem_of_getElem? (i := 353) (by decide +kernel)⟩
theorem lw_p31 : lw_okq (⟨"ConstantStarts$Loader", "tellKept", "(I)I"⟩, 8) := ⟨⟨by decide +kernel, by decide +kernel⟩, List.mem_of_getElem? (i := 102) (by decide +kernel), List.mem_of_getElem? (i := 380) (by decide +kernel), List.mem_of_getElem? (i := 381) (by decide +kernel)⟩
def lw_privs_2 : List (MethodName × Nat) := [(⟨"ConstantStarts$Trace", "note", "(II)V"⟩, 3), (⟨"ConstantStarts$Loader", "beginUsed", "(II)Z"⟩, 8), (⟨"ConstantStarts$Loader", "doDeeds", "(II)Z"⟩, 8), (⟨"ConstantStarts$Loader", "doDeed", "(III)Z"⟩, 8), (⟨"ConstantStarts$Outcome", "failStart", "(I)Z"⟩, 5), (⟨"ConstantStarts$Outcome", "copy", "(LConstantStarts$Outcome;)V"⟩, 5), (⟨"ConstantStarts$Loader", "work", "(II)Z"⟩, 8), (⟨"ConstantStarts$Loader", "reckon", "(II)Z"⟩, 8), (⟨"ConstantStarts$Outcome", "succeed", "(I)Z"⟩, 5), (⟨"ConstantStarts$Loader", "multiply", "(III)Z"⟩, 8), (⟨"ConstantStarts$Loader", "divide", "(III)Z"⟩, 8), (⟨"ConstantStarts$Loader", "readItem", "(II)Z"⟩, 8), (⟨"ConstantStarts$Plan", "countConstants", "(I)I"⟩, 14), (⟨"ConstantStarts$Loader", "writeItem", "(III)Z"⟩, 8), (⟨"ConstantStarts", "answer", "(LConstantStarts$Loader;Z)I"⟩, 10), (⟨"ConstantStarts$Loader", "tellKept", "(I)I"⟩, 8)]
theorem lw_r2 : ∀ q ∈ lw_privs_2, lw_okq q := List.forall_mem_cons.mpr ⟨lw_p16, List.forall_mem_cons.mpr ⟨lw_p17, List.forall_mem_cons.mpr ⟨lw_p18, List.forall_mem_cons.mpr ⟨lw_p19, List.forall_mem_cons.mpr ⟨lw_p20, List.forall_mem_cons.mpr ⟨lw_p21, List.forall_mem_cons.mpr ⟨lw_p22, List.forall_mem_cons.mpr ⟨lw_p23, List.forall_mem_cons.mpr ⟨lw_p24, List.forall_mem_cons.mpr ⟨lw_p25, List.forall_mem_cons.mpr ⟨lw_p26, List.forall_mem_cons.mpr ⟨lw_p27, List.forall_mem_cons.mpr ⟨lw_p28, List.forall_mem_cons.mpr ⟨lw_p29, List.forall_mem_cons.mpr ⟨lw_p30, List.forall_mem_cons.mpr ⟨lw_p31, fun _ h => absurd h List.not_mem_nil⟩⟩⟩⟩⟩⟩⟩⟩⟩⟩⟩⟩⟩⟩⟩⟩
theorem lw_p32 : lw_okq (⟨"ConstantStarts$Loader", "tellItem", "(II)I"⟩, 8) := ⟨⟨by decide +kernel, by decide +kernel⟩, List.mem_of_getElem? (i := 102) (by decide +kernel), List.mem_of_getElem? (i := 389) (by decide +kernel), List.mem_of_getElem? (i := 390) (by decide +kernel)⟩
theorem lw_p33 : lw_okq (⟨"ConstantStarts$Loader", "countEnded", "()I"⟩, 8) := ⟨⟨by decide +kernel, by decide +kernel⟩, List.mem_of_getElem? (i := 102) (by decide +kernel), List.mem_of_getElem? (i := 401) (by decide +kernel), List.mem_of_getElem? (i := 402) (by decide +kernel)⟩
theorem lw_p34 : lw_okq (⟨"ConstantStarts$Loader", "clear", "()V"⟩, 8) := ⟨⟨by decide +kernel, by decide +kernel⟩, List.mem_of_getElem? (i := 102) (by decide +kernel), List.mem_of_getElem? (i := 405) (by decide +kernel), List.mem_of_getElem? (i := 406) (by decide +kernel)⟩
theorem lw_p35 : lw_okq (⟨"ConstantStarts", "needByNumbers", "()V"⟩, 10) := ⟨⟨by decide +kernel, by decide +kernel⟩, List.mem_of_getElem? (i := 9) (by decide +kernel), List.mem_of_getElem? (i := 413) (by decide +kernel), List.mem_of_getElem? (i := 414) (by decide +kernel)⟩
theorem lw_p36 : lw_okq (⟨"ConstantStarts", "mixOrder", "(I)V"⟩, 10) := ⟨⟨by decide +kernel, by decide +kernel⟩, List.mem_of_getElem? (i := 9) (by decide +kernel), List.mem_of_getElem? (i := 417) (by decide +kernel), List.mem_of_getElem? (i := 418) (by decide +kernel)⟩
theorem lw_p37 : lw_okq (⟨"ConstantStarts", "countUnlike", "()I"⟩, 10) := ⟨⟨by decide +kernel, by decide +kernel⟩, List.mem_of_getElem? (i := 9) (by decide +kernel), List.mem_of_getElem? (i := 422) (by decide +kernel), List.mem_of_getElem? (i := 423) (by decide +kernel)⟩
theorem lw_p38 : lw_okq (⟨"ConstantStarts", "countWorked", "()I"⟩, 10) := ⟨⟨by decide +kernel, by decide +kernel⟩, List.mem_of_getElem? (i := 9) (by decide +kernel), List.mem_of_getElem? (i := 430) (by decide +kernel), List.mem_of_getElem? (i := 431) (by decide +kernel)⟩
theorem lw_p39 : lw_okq (⟨"ConstantStartsModel", "isModule", "(I)Z"⟩, 41) := ⟨⟨by decide +kernel, by decide +kernel⟩, List.mem_of_getElem? (i := 434) (by decide +kernel), List.mem_of_getElem? (i := 575) (by decide +kernel), List.mem_of_getElem? (i := 576) (by decide +kernel)⟩
theorem lw_p40 : lw_okq (⟨"ConstantStartsModel", "push", "(II)V"⟩, 41) := ⟨⟨by decide +kernel, by decide +kernel⟩, List.mem_of_getElem? (i := 434) (by decide +kernel), List.mem_of_getElem? (i := 598) (by decide +kernel), List.mem_of_getElem? (i := 599) (by decide +kernel)⟩
theorem lw_p41 : lw_okq (⟨"ConstantStartsModel", "runs", "(I)V"⟩, 41) := ⟨⟨by decide +kernel, by decide +kernel⟩, List.mem_of_getElem? (i := 434) (by decide +kernel), List.mem_of_getElem? (i := 602) (by decide +kernel), List.mem_of_getElem? (i := 603) (by decide +kernel)⟩
theorem lw_p42 : lw_okq (⟨"ConstantStartsModel", "needs", "(II)V"⟩, 41) := ⟨⟨by decide +kernel, by decide +kernel⟩, List.mem_of_getElem? (i := 434) (by decide +kernel), List.mem_of_getElem? (i := 606) (by decide +kernel), List.mem_of_getElem? (i := 607) (by decide +kernel)⟩
theorem lw_p43 : lw_okq (⟨"ConstantStartsModel", "fails", "(II)V"⟩, 41) := ⟨⟨by decide +kernel, by decide +kernel⟩, List.mem_of_getElem? (i := 434) (by decide +kernel), List.mem_of_getElem? (i := 610) (by decide +kernel), List.mem_of_getElem? (i := 611) (by decide +kernel)⟩
theorem lw_p44 : lw_okq (⟨"ConstantStartsModel", "looks", "(III)V"⟩, 41) := ⟨⟨by decide +kernel, by decide +kernel⟩, List.mem_of_getElem? (i := 434) (by decide +kernel), List.mem_of_getElem? (i := 614) (by decide +kernel), List.mem_of_getElem? (i := 615) (by decide +kernel)⟩
theorem lw_p45 : lw_okq (⟨"ConstantStartsModel", "gives", "(I)V"⟩, 41) := ⟨⟨by decide +kernel, by decide +kernel⟩, List.mem_of_getElem? (i := 434) (by decide +kernel), List.mem_of_getElem? (i := 618) (by decide +kernel), List.mem_of_getElem? (i := 619) (by decide +kernel)⟩
theorem lw_p46 : lw_okq (⟨"ConstantStartsModel", "mark", "(II)V"⟩, 41) := ⟨⟨by decide +kernel, by decide +kernel⟩, List.mem_of_getElem? (i := 434) (by decide +kernel), List.mem_of_getElem? (i := 622) (by decide +kernel), List.mem_of_getElem? (i := 623) (by decide +kernel)⟩
theorem lw_p47 : lw_okq (⟨"ConstantStartsModel", "begins", "(II)V"⟩, 41) := ⟨⟨by decide +kernel, by decide +kernel⟩, List.mem_of_getElem? (i := 434) (by decide +kernel), List.mem_of_getElem? (i := 626) (by decide +kernel), List.mem_of_getElem? (i := 627) (by decide +kernel)⟩
def lw_privs_3 : List (MethodName × Nat) := [(⟨"ConstantStarts$Loader", "tellItem", "(II)I"⟩, 8), (⟨"ConstantStarts$Loader", "countEnded", "()I"⟩, 8), (⟨"ConstantStarts$Loader", "clear", "()V"⟩, 8), (⟨"ConstantStarts", "needByNumbers", "()V"⟩, 10), (⟨"ConstantStarts", "mixOrder", "(I)V"⟩, 10), (⟨"ConstantStarts", "countUnlike", "()I"⟩, 10), (⟨"ConstantStarts", "countWorked", "()I"⟩, 10), (⟨"ConstantStartsModel", "isModule", "(I)Z"⟩, 41), (⟨"ConstantStartsModel", "push", "(II)V"⟩, 41), (⟨"ConstantStartsModel", "runs", "(I)V"⟩, 41), (⟨"ConstantStartsModel", "needs", "(II)V"⟩, 41), (⟨"ConstantStartsModel", "fails", "(II)V"⟩, 41), (⟨"ConstantStartsModel", "looks", "(III)V"⟩, 41), (⟨"ConstantStartsModel", "gives", "(I)V"⟩, 41), (⟨"ConstantStartsModel", "mark", "(II)V"⟩, 41), (⟨"ConstantStartsModel", "begins", "(II)V"⟩, 41)]
theorem lw_r3 : ∀ q ∈ lw_privs_3, lw_okq q := List.forall_mem_cons.mpr ⟨lw_p32, List.forall_mem_cons.mpr ⟨lw_p33, List.forall_mem_cons.mpr ⟨lw_p34, List.forall_mem_cons.mpr ⟨lw_p35, List.forall_mem_cons.mpr ⟨lw_p36, List.forall_mem_cons.mpr ⟨lw_p37, List.forall_mem_cons.mpr ⟨lw_p38, List.forall_mem_cons.mpr ⟨lw_p39, List.forall_mem_cons.mpr ⟨lw_p40, List.forall_mem_cons.mpr ⟨lw_p41, List.forall_mem_cons.mpr ⟨lw_p42, List.forall_mem_cons.mpr ⟨lw_p43, List.forall_mem_cons.mpr ⟨lw_p44, List.forall_mem_cons.mpr ⟨lw_p45, List.forall_mem_cons.mpr ⟨lw_p46, List.forall_mem_cons.mpr ⟨lw_p47, fun _ h => absurd h List.not_mem_nil⟩⟩⟩⟩⟩⟩⟩⟩⟩⟩⟩⟩⟩⟩⟩⟩
theorem lw_p48 : lw_okq (⟨"ConstantStartsModel", "ends", "(II)V"⟩, 41) := ⟨⟨by decide +kernel, by decide +kernel⟩, List.mem_of_getElem? (i := 434) (by decide +kernel), List.mem_of_getElem? (i := 630) (by decide +kernel), List.mem_of_getElem? (i := 631) (by decide +kernel)⟩
theorem lw_p49 : lw_okq (⟨"ConstantStartsModel", "first", "(III)V"⟩, 41) := ⟨⟨by decide +kernel, by decide +kernel⟩, List.mem_of_getElem? (i := 434) (by decide +kernel), List.mem_of_getElem? (i := 634) (by decide +kernel), List.mem_of_getElem? (i := 635) (by decide +kernel)⟩
theorem lw_p50 : lw_okq (⟨"ConstantStartsModel", "second", "(III)V"⟩, 41) := ⟨⟨by decide +kernel, by decide +kernel⟩, List.mem_of_getElem? (i := 434) (by decide +kernel), List.mem_of_getElem? (i := 638) (by decide +kernel), List.mem_of_getElem? (i := 639) (by decide +kernel)⟩
theorem lw_p51 : lw_okq (⟨"ConstantStartsModel", "starts", "(II)V"⟩, 41) := ⟨⟨by decide +kernel, by decide +kernel⟩, List.mem_of_getElem? (i := 434) (by decide +kernel), List.mem_of_getElem? (i := 642) (by decide +kernel), List.mem_of_getElem? (i := 643) (by decide +kernel)⟩
theorem lw_p52 : lw_okq (⟨"ConstantStartsModel", "breaks", "(II)V"⟩, 41) := ⟨⟨by decide +kernel, by decide +kernel⟩, List.mem_of_getElem? (i := 434) (by decide +kernel), List.mem_of_getElem? (i := 646) (by decide +kernel), List.mem_of_getElem? (i := 647) (by decide +kernel)⟩
theorem lw_p53 : lw_okq (⟨"ConstantStartsModel", "deeds", "(III)V"⟩, 41) := ⟨⟨by decide +kernel, by decide +kernel⟩, List.mem_of_getElem? (i := 434) (by decide +kernel), List.mem_of_getElem? (i := 650) (by decide +kernel), List.mem_of_getElem? (i := 651) (by decide +kernel)⟩
theorem lw_p54 : lw_okq (⟨"ConstantStartsModel", "answers", "()I"⟩, 41) := ⟨⟨by decide +kernel, by decide +kernel⟩, List.mem_of_getElem? (i := 434) (by decide +kernel), List.mem_of_getElem? (i := 654) (by decide +kernel), List.mem_of_getElem? (i := 655) (by decide +kernel)⟩
theorem lw_p55 : lw_okq (⟨"ConstantStartsModel", "empties", "(I)I"⟩, 41) := ⟨⟨by decide +kernel, by decide +kernel⟩, List.mem_of_getElem? (i := 434) (by decide +kernel), List.mem_of_getElem? (i := 690) (by decide +kernel), List.mem_of_getElem? (i := 691) (by decide +kernel)⟩
def lw_privs_4 : List (MethodName × Nat) := [(⟨"ConstantStartsModel", "ends", "(II)V"⟩, 41), (⟨"ConstantStartsModel", "first", "(III)V"⟩, 41), (⟨"ConstantStartsModel", "second", "(III)V"⟩, 41), (⟨"ConstantStartsModel", "starts", "(II)V"⟩, 41), (⟨"ConstantStartsModel", "breaks", "(II)V"⟩, 41), (⟨"ConstantStartsModel", "deeds", "(III)V"⟩, 41), (⟨"ConstantStartsModel", "answers", "()I"⟩, 41), (⟨"ConstantStartsModel", "empties", "(I)I"⟩, 41)]
theorem lw_r4 : ∀ q ∈ lw_privs_4, lw_okq q := List.forall_mem_cons.mpr ⟨lw_p48, List.forall_mem_cons.mpr ⟨lw_p49, List.forall_mem_cons.mpr ⟨lw_p50, List.forall_mem_cons.mpr ⟨lw_p51, List.forall_mem_cons.mpr ⟨lw_p52, List.forall_mem_cons.mpr ⟨lw_p53, List.forall_mem_cons.mpr ⟨lw_p54, List.forall_mem_cons.mpr ⟨lw_p55, fun _ h => absurd h List.not_mem_nil⟩⟩⟩⟩⟩⟩⟩⟩
def lw_privs : List (MethodName × Nat) := lw_privs_1 ++ (lw_privs_2 ++ (lw_privs_3 ++ (lw_privs_4)))
def lw_tbl : List Cond := k2_sels lw_privs ++ tables_1
theorem lw_privs_ok : ∀ q ∈ lw_privs, lw_okq q := by
  show ∀ q ∈ lw_privs_1 ++ (lw_privs_2 ++ (lw_privs_3 ++ (lw_privs_4))), lw_okq q
  exact List.forall_mem_append.mpr ⟨lw_r1, List.forall_mem_append.mpr ⟨lw_r2, List.forall_mem_append.mpr ⟨lw_r3, lw_r4⟩⟩⟩
-- ===== end of PART A; then your names; then what follows =====
/-! ===== BEGIN words of one list among another's, by their places ===== -/
theorem goodIn_r {big : List Cond} (ws : List Cond) (ps : List Nat) (hp : ws = ps.filterMap (fun i => big[i]?)) (h : ws.all goodWord = true) : GoodIn big ws := by
  intro w hw
  have h1 := List.all_eq_true.mp h w hw
  rw [hp] at hw
  obtain ⟨i, -, hi⟩ := List.mem_filterMap.mp hw
  have hm : w ∈ big := by first | exact List.mem_of_getElem? hi | exact List.getElem?_mem hi
  exact ⟨hm, good_of_word h1⟩
theorem goodIn_app {big a b : List Cond} (ha : GoodIn big a) (hb : GoodIn big b) : GoodIn big (a ++ b) := fun w h => (List.mem_append.mp h).elim (ha w) (hb w)
theorem goodIn_ca {big a b : List Cond} {c : Cond} (ha : GoodIn big (c :: a)) (hb : GoodIn big b) : GoodIn big (c :: (a ++ b)) := fun w h => (List.mem_cons.mp h).elim (fun e => ha w (List.mem_cons.mpr (Or.inl e))) (fun h => (List.mem_append.mp h).elim (fun h => ha w (List.mem_cons.mpr (Or.inr h))) (hb w))
theorem goodIn_sub {big ws : List Cond} (hm : ∀ w ∈ ws, w ∈ big) (h : ws.all goodWord = true) : GoodIn big ws := fun w hw => ⟨hm w hw, good_of_word (List.all_eq_true.mp h w hw)⟩
/-! ===== END ===== -/
def RX0 : String := "ConstantStarts$Loader"
def TX0 : u_T := fun k => match k with
  | 0 => ("ConstantStarts$Loader", "plan", "LConstantStarts$Plan;", true)
  | 1 => ("ConstantStarts$Loader", "events", "LConstantStarts$Trace;", true)
  | 2 => ("ConstantStarts$Loader", "states", "[I", true)
  | 3 => ("ConstantStarts$Loader", "rows", "[[I", true)
  | 4 => ("ConstantStarts$Loader", "stages", "[I", true)
  | 5 => ("ConstantStarts$Loader", "outcomes", "[LConstantStarts$Outcome;", true)
  | 6 => ("ConstantStarts$Loader", "now", "LConstantStarts$Outcome;", true)
  | _ => ("ConstantStarts$Loader", "workedCount", "I", false)
def tyX0 : Nat → FieldType := fun k => match k with
  | 0 => .object "ConstantStarts$Plan"
  | 1 => .object "ConstantStarts$Trace"
  | 2 => .array .int
  | 3 => .array (.array .int)
  | 4 => .array .int
  | 5 => .array (.object "ConstantStarts$Outcome")
  | 6 => .object "ConstantStarts$Outcome"
  | _ => .int
abbrev wsX00 : List Cond := u_ws RX0 TX0 8
theorem nmX0 : ∀ a, a < 8 → ∀ b, b < 8 → a ≠ b → (TX0 a).2.1 ≠ (TX0 b).2.1 := by decide +kernel
theorem tyX0_ok : ∀ k, k < 8 → parseFieldDescriptor (TX0 k).2.2.1 = some (tyX0 k) := by decide +kernel
abbrev cX0_init : ByteArray := prog_2_method_1_code
def yX0_init : MethodName := ⟨RX0, "<init>", "(LConstantStarts$Plan;LConstantStarts$Trace;)V"⟩
abbrev cX0_clear : ByteArray := prog_2_method_2_code
def yX0_clear : MethodName := ⟨RX0, "clear", "()V"⟩
abbrev cX0_countEnded : ByteArray := prog_2_method_3_code
def yX0_countEnded : MethodName := ⟨RX0, "countEnded", "()I"⟩
abbrev cX0_tellKept : ByteArray := prog_2_method_4_code
def yX0_tellKept : MethodName := ⟨RX0, "tellKept", "(I)I"⟩
abbrev cX0_tellItem : ByteArray := prog_2_method_5_code
def yX0_tellItem : MethodName := ⟨RX0, "tellItem", "(II)I"⟩
abbrev cX0_obtain : ByteArray := prog_2_method_6_code
def yX0_obtain : MethodName := ⟨RX0, "obtain", "(II)Z"⟩
abbrev cX0_work : ByteArray := prog_2_method_7_code
def yX0_work : MethodName := ⟨RX0, "work", "(II)Z"⟩
abbrev cX0_reckon : ByteArray := prog_2_method_8_code
def yX0_reckon : MethodName := ⟨RX0, "reckon", "(II)Z"⟩
abbrev cX0_multiply : ByteArray := prog_2_method_9_code
def yX0_multiply : MethodName := ⟨RX0, "multiply", "(III)Z"⟩
abbrev cX0_divide : ByteArray := prog_2_method_10_code
def yX0_divide : MethodName := ⟨RX0, "divide", "(III)Z"⟩
abbrev cX0_readItem : ByteArray := prog_2_method_11_code
def yX0_readItem : MethodName := ⟨RX0, "readItem", "(II)Z"⟩
abbrev cX0_writeItem : ByteArray := prog_2_method_12_code
def yX0_writeItem : MethodName := ⟨RX0, "writeItem", "(III)Z"⟩
abbrev cX0_begin : ByteArray := prog_2_method_13_code
def yX0_begin : MethodName := ⟨RX0, "begin", "(II)Z"⟩
abbrev cX0_beginUsed : ByteArray := prog_2_method_14_code
def yX0_beginUsed : MethodName := ⟨RX0, "beginUsed", "(II)Z"⟩
abbrev cX0_doDeeds : ByteArray := prog_2_method_15_code
def yX0_doDeeds : MethodName := ⟨RX0, "doDeeds", "(II)Z"⟩
abbrev cX0_doDeed : ByteArray := prog_2_method_16_code
def yX0_doDeed : MethodName := ⟨RX0, "doDeed", "(III)Z"⟩
def RX1 : String := "ConstantStarts$Outcome"
def TX1 : u_T := fun k => match k with
  | 0 => ("ConstantStarts$Outcome", "value", "I", false)
  | 1 => ("ConstantStarts$Outcome", "fault", "I", false)
  | 2 => ("ConstantStarts$Outcome", "number", "I", false)
  | 3 => ("ConstantStarts$Outcome", "cause", "I", false)
  | _ => ("ConstantStarts$Outcome", "causeNumber", "I", false)
def tyX1 : Nat → FieldType := fun k => match k with
  | 0 => .int
  | 1 => .int
  | 2 => .int
  | 3 => .int
  | _ => .int
abbrev wsX10 : List Cond := u_ws RX1 TX1 5
theorem nmX1 : ∀ a, a < 5 → ∀ b, b < 5 → a ≠ b → (TX1 a).2.1 ≠ (TX1 b).2.1 := by decide +kernel
theorem tyX1_ok : ∀ k, k < 5 → parseFieldDescriptor (TX1 k).2.2.1 = some (tyX1 k) := by decide +kernel
abbrev cX1_init : ByteArray := prog_3_method_1_code
def yX1_init : MethodName := ⟨RX1, "<init>", "()V"⟩
abbrev cX1_succeed : ByteArray := prog_3_method_2_code
def yX1_succeed : MethodName := ⟨RX1, "succeed", "(I)Z"⟩
abbrev cX1_fail : ByteArray := prog_3_method_3_code
def yX1_fail : MethodName := ⟨RX1, "fail", "(II)Z"⟩
abbrev cX1_failStart : ByteArray := prog_3_method_4_code
def yX1_failStart : MethodName := ⟨RX1, "failStart", "(I)Z"⟩
abbrev cX1_copy : ByteArray := prog_3_method_5_code
def yX1_copy : MethodName := ⟨RX1, "copy", "(LConstantStarts$Outcome;)V"⟩
def RX2 : String := "ConstantStarts$Plan"
def TX2 : u_T := fun k => match k with
  | 0 => ("ConstantStarts$Plan", "moduleCount", "I", false)
  | 1 => ("ConstantStarts$Plan", "rowLengths", "[I", true)
  | 2 => ("ConstantStarts$Plan", "firstRows", "[[I", true)
  | 3 => ("ConstantStarts$Plan", "usedCounts", "[I", true)
  | 4 => ("ConstantStarts$Plan", "used", "[[I", true)
  | 5 => ("ConstantStarts$Plan", "deedCounts", "[I", true)
  | 6 => ("ConstantStarts$Plan", "deedKinds", "[[I", true)
  | 7 => ("ConstantStarts$Plan", "deedNumbers", "[[I", true)
  | 8 => ("ConstantStarts$Plan", "constantCount", "I", false)
  | 9 => ("ConstantStarts$Plan", "owners", "[I", true)
  | 10 => ("ConstantStarts$Plan", "kinds", "[I", true)
  | 11 => ("ConstantStarts$Plan", "as", "[I", true)
  | 12 => ("ConstantStarts$Plan", "bs", "[I", true)
  | _ => ("ConstantStarts$Plan", "cs", "[I", true)
def tyX2 : Nat → FieldType := fun k => match k with
  | 0 => .int
  | 1 => .array .int
  | 2 => .array (.array .int)
  | 3 => .array .int
  | 4 => .array (.array .int)
  | 5 => .array .int
  | 6 => .array (.array .int)
  | 7 => .array (.array .int)
  | 8 => .int
  | 9 => .array .int
  | 10 => .array .int
  | 11 => .array .int
  | 12 => .array .int
  | _ => .array .int
abbrev wsX20 : List Cond := u_ws RX2 TX2 14
theorem nmX2 : ∀ a, a < 14 → ∀ b, b < 14 → a ≠ b → (TX2 a).2.1 ≠ (TX2 b).2.1 := by decide +kernel
theorem tyX2_ok : ∀ k, k < 14 → parseFieldDescriptor (TX2 k).2.2.1 = some (tyX2 k) := by decide +kernel
abbrev cX2_init : ByteArray := prog_4_method_1_code
def yX2_init : MethodName := ⟨RX2, "<init>", "()V"⟩
abbrev cX2_hasModule : ByteArray := prog_4_method_2_code
def yX2_hasModule : MethodName := ⟨RX2, "hasModule", "(I)Z"⟩
abbrev cX2_hasItem : ByteArray := prog_4_method_3_code
def yX2_hasItem : MethodName := ⟨RX2, "hasItem", "(II)Z"⟩
abbrev cX2_hasConstant : ByteArray := prog_4_method_4_code
def yX2_hasConstant : MethodName := ⟨RX2, "hasConstant", "(I)Z"⟩
abbrev cX2_addModule : ByteArray := prog_4_method_5_code
def yX2_addModule : MethodName := ⟨RX2, "addModule", "(I)I"⟩
abbrev cX2_setItem : ByteArray := prog_4_method_6_code
def yX2_setItem : MethodName := ⟨RX2, "setItem", "(III)I"⟩
abbrev cX2_addUsed : ByteArray := prog_4_method_7_code
def yX2_addUsed : MethodName := ⟨RX2, "addUsed", "(II)I"⟩
abbrev cX2_addDeed : ByteArray := prog_4_method_8_code
def yX2_addDeed : MethodName := ⟨RX2, "addDeed", "(III)I"⟩
abbrev cX2_isDeed : ByteArray := prog_4_method_9_code
def yX2_isDeed : MethodName := ⟨RX2, "isDeed", "(II)Z"⟩
abbrev cX2_addConstant : ByteArray := prog_4_method_10_code
def yX2_addConstant : MethodName := ⟨RX2, "addConstant", "(IIIII)I"⟩
abbrev cX2_isFormula : ByteArray := prog_4_method_11_code
def yX2_isFormula : MethodName := ⟨RX2, "isFormula", "(IIII)Z"⟩
abbrev cX2_mayBeConstant : ByteArray := prog_4_method_12_code
def yX2_mayBeConstant : MethodName := ⟨RX2, "mayBeConstant", "(I)Z"⟩
abbrev cX2_countConstants : ByteArray := prog_4_method_13_code
def yX2_countConstants : MethodName := ⟨RX2, "countConstants", "(I)I"⟩
def RX3 : String := "ConstantStarts$Trace"
def TX3 : u_T := fun k => match k with
  | 0 => ("ConstantStarts$Trace", "kinds", "[I", true)
  | 1 => ("ConstantStarts$Trace", "numbers", "[I", true)
  | _ => ("ConstantStarts$Trace", "count", "I", false)
def tyX3 : Nat → FieldType := fun k => match k with
  | 0 => .array .int
  | 1 => .array .int
  | _ => .int
abbrev wsX30 : List Cond := u_ws RX3 TX3 3
theorem nmX3 : ∀ a, a < 3 → ∀ b, b < 3 → a ≠ b → (TX3 a).2.1 ≠ (TX3 b).2.1 := by decide +kernel
theorem tyX3_ok : ∀ k, k < 3 → parseFieldDescriptor (TX3 k).2.2.1 = some (tyX3 k) := by decide +kernel
abbrev cX3_init : ByteArray := prog_5_method_1_code
def yX3_init : MethodName := ⟨RX3, "<init>", "()V"⟩
abbrev cX3_clear : ByteArray := prog_5_method_2_code
def yX3_clear : MethodName := ⟨RX3, "clear", "()V"⟩
abbrev cX3_note : ByteArray := prog_5_method_3_code
def yX3_note : MethodName := ⟨RX3, "note", "(II)V"⟩
def RX4 : String := "ConstantStarts"
def TX4 : u_T := fun k => match k with
  | 0 => ("ConstantStarts", "plan", "LConstantStarts$Plan;", true)
  | 1 => ("ConstantStarts", "events", "LConstantStarts$Trace;", true)
  | 2 => ("ConstantStarts", "loaders", "[LConstantStarts$Loader;", true)
  | 3 => ("ConstantStarts", "latest", "LConstantStarts$Outcome;", true)
  | 4 => ("ConstantStarts", "latestValue", "I", false)
  | 5 => ("ConstantStarts", "aside", "LConstantStarts$Loader;", true)
  | 6 => ("ConstantStarts", "order", "[I", true)
  | 7 => ("ConstantStarts", "plainFaults", "[I", true)
  | 8 => ("ConstantStarts", "plainValues", "[I", true)
  | _ => ("ConstantStarts", "alikeCalls", "I", false)
def tyX4 : Nat → FieldType := fun k => match k with
  | 0 => .object "ConstantStarts$Plan"
  | 1 => .object "ConstantStarts$Trace"
  | 2 => .array (.object "ConstantStarts$Loader")
  | 3 => .object "ConstantStarts$Outcome"
  | 4 => .int
  | 5 => .object "ConstantStarts$Loader"
  | 6 => .array .int
  | 7 => .array .int
  | 8 => .array .int
  | _ => .int
abbrev wsX40 : List Cond := u_ws RX4 TX4 10
theorem nmX4 : ∀ a, a < 10 → ∀ b, b < 10 → a ≠ b → (TX4 a).2.1 ≠ (TX4 b).2.1 := by decide +kernel
theorem tyX4_ok : ∀ k, k < 10 → parseFieldDescriptor (TX4 k).2.2.1 = some (tyX4 k) := by decide +kernel
abbrev cX4_init : ByteArray := prog_1_method_1_code
def yX4_init : MethodName := ⟨RX4, "<init>", "()V"⟩
abbrev cX4_module : ByteArray := prog_1_method_2_code
def yX4_module : MethodName := ⟨RX4, "module", "(I)I"⟩
abbrev cX4_item : ByteArray := prog_1_method_3_code
def yX4_item : MethodName := ⟨RX4, "item", "(III)I"⟩
abbrev cX4_uses : ByteArray := prog_1_method_4_code
def yX4_uses : MethodName := ⟨RX4, "uses", "(II)I"⟩
abbrev cX4_deed : ByteArray := prog_1_method_5_code
def yX4_deed : MethodName := ⟨RX4, "deed", "(III)I"⟩
abbrev cX4_constant : ByteArray := prog_1_method_6_code
def yX4_constant : MethodName := ⟨RX4, "constant", "(IIIII)I"⟩
abbrev cX4_need : ByteArray := prog_1_method_7_code
def yX4_need : MethodName := ⟨RX4, "need", "(II)I"⟩
abbrev cX4_value : ByteArray := prog_1_method_8_code
def yX4_value : MethodName := ⟨RX4, "value", "()I"⟩
abbrev cX4_start : ByteArray := prog_1_method_9_code
def yX4_start : MethodName := ⟨RX4, "start", "(II)I"⟩
abbrev cX4_fault : ByteArray := prog_1_method_10_code
def yX4_fault : MethodName := ⟨RX4, "fault", "(I)I"⟩
abbrev cX4_state : ByteArray := prog_1_method_11_code
def yX4_state : MethodName := ⟨RX4, "state", "(II)I"⟩
abbrev cX4_kept : ByteArray := prog_1_method_12_code
def yX4_kept : MethodName := ⟨RX4, "kept", "(II)I"⟩
abbrev cX4_row : ByteArray := prog_1_method_13_code
def yX4_row : MethodName := ⟨RX4, "row", "(III)I"⟩
abbrev cX4_trace : ByteArray := prog_1_method_14_code
def yX4_trace : MethodName := ⟨RX4, "trace", "(II)I"⟩
abbrev cX4_forget : ByteArray := prog_1_method_15_code
def yX4_forget : MethodName := ⟨RX4, "forget", "(I)I"⟩
abbrev cX4_alike : ByteArray := prog_1_method_16_code
def yX4_alike : MethodName := ⟨RX4, "alike", "(I)I"⟩
abbrev cX4_told : ByteArray := prog_1_method_17_code
def yX4_told : MethodName := ⟨RX4, "told", "(I)I"⟩
abbrev cX4_loaderAt : ByteArray := prog_1_method_18_code
def yX4_loaderAt : MethodName := ⟨RX4, "loaderAt", "(I)LConstantStarts$Loader;"⟩
abbrev cX4_answer : ByteArray := prog_1_method_19_code
def yX4_answer : MethodName := ⟨RX4, "answer", "(LConstantStarts$Loader;Z)I"⟩
abbrev cX4_countWorked : ByteArray := prog_1_method_20_code
def yX4_countWorked : MethodName := ⟨RX4, "countWorked", "()I"⟩
abbrev cX4_needByNumbers : ByteArray := prog_1_method_21_code
def yX4_needByNumbers : MethodName := ⟨RX4, "needByNumbers", "()V"⟩
abbrev cX4_mixOrder : ByteArray := prog_1_method_22_code
def yX4_mixOrder : MethodName := ⟨RX4, "mixOrder", "(I)V"⟩
abbrev cX4_countUnlike : ByteArray := prog_1_method_23_code
def yX4_countUnlike : MethodName := ⟨RX4, "countUnlike", "()I"⟩
def RX5 : String := "ConstantStartsModel"
def TX5 : u_T := fun k => match k with
  | 0 => ("ConstantStartsModel", "modules", "I", false)
  | 1 => ("ConstantStartsModel", "size", "[I", true)
  | 2 => ("ConstantStartsModel", "told", "[I", true)
  | 3 => ("ConstantStartsModel", "usesMany", "[I", true)
  | 4 => ("ConstantStartsModel", "usesRow", "[I", true)
  | 5 => ("ConstantStartsModel", "deedMany", "[I", true)
  | 6 => ("ConstantStartsModel", "deedKind", "[I", true)
  | 7 => ("ConstantStartsModel", "deedNumber", "[I", true)
  | 8 => ("ConstantStartsModel", "constants", "I", false)
  | 9 => ("ConstantStartsModel", "home", "[I", true)
  | 10 => ("ConstantStartsModel", "kind", "[I", true)
  | 11 => ("ConstantStartsModel", "partA", "[I", true)
  | 12 => ("ConstantStartsModel", "partB", "[I", true)
  | 13 => ("ConstantStartsModel", "partC", "[I", true)
  | 14 => ("ConstantStartsModel", "state", "[I", true)
  | 15 => ("ConstantStartsModel", "items", "[I", true)
  | 16 => ("ConstantStartsModel", "how", "[I", true)
  | 17 => ("ConstantStartsModel", "outcome", "[I", true)
  | 18 => ("ConstantStartsModel", "keptNumber", "[I", true)
  | 19 => ("ConstantStartsModel", "keptCause", "[I", true)
  | 20 => ("ConstantStartsModel", "keptCauseNumber", "[I", true)
  | 21 => ("ConstantStartsModel", "trace", "[I", true)
  | 22 => ("ConstantStartsModel", "traced", "I", false)
  | 23 => ("ConstantStartsModel", "traces", "Z", false)
  | 24 => ("ConstantStartsModel", "worked", "I", false)
  | 25 => ("ConstantStartsModel", "asides", "I", false)
  | 26 => ("ConstantStartsModel", "latestValue", "I", false)
  | 27 => ("ConstantStartsModel", "latest", "[I", true)
  | 28 => ("ConstantStartsModel", "frameIs", "[I", true)
  | 29 => ("ConstantStartsModel", "frameOf", "[I", true)
  | 30 => ("ConstantStartsModel", "phase", "[I", true)
  | 31 => ("ConstantStartsModel", "had", "[I", true)
  | 32 => ("ConstantStartsModel", "depth", "I", false)
  | 33 => ("ConstantStartsModel", "value", "I", false)
  | 34 => ("ConstantStartsModel", "fault", "I", false)
  | 35 => ("ConstantStartsModel", "number", "I", false)
  | 36 => ("ConstantStartsModel", "cause", "I", false)
  | 37 => ("ConstantStartsModel", "causeNumber", "I", false)
  | 38 => ("ConstantStartsModel", "order", "[I", true)
  | 39 => ("ConstantStartsModel", "came", "[I", true)
  | _ => ("ConstantStartsModel", "cameValue", "[I", true)
def tyX5 : Nat → FieldType := fun k => match k with
  | 0 => .int
  | 1 => .array .int
  | 2 => .array .int
  | 3 => .array .int
  | 4 => .array .int
  | 5 => .array .int
  | 6 => .array .int
  | 7 => .array .int
  | 8 => .int
  | 9 => .array .int
  | 10 => .array .int
  | 11 => .array .int
  | 12 => .array .int
  | 13 => .array .int
  | 14 => .array .int
  | 15 => .array .int
  | 16 => .array .int
  | 17 => .array .int
  | 18 => .array .int
  | 19 => .array .int
  | 20 => .array .int
  | 21 => .array .int
  | 22 => .int
  | 23 => .boolean
  | 24 => .int
  | 25 => .int
  | 26 => .int
  | 27 => .array .int
  | 28 => .array .int
  | 29 => .array .int
  | 30 => .array .int
  | 31 => .array .int
  | 32 => .int
  | 33 => .int
  | 34 => .int
  | 35 => .int
  | 36 => .int
  | 37 => .int
  | 38 => .array .int
  | 39 => .array .int
  | _ => .array .int
abbrev wsX50 : List Cond := u_ws RX5 TX5 41
theorem nmX5 : ∀ a, a < 41 → ∀ b, b < 41 → a ≠ b → (TX5 a).2.1 ≠ (TX5 b).2.1 := by decide +kernel
theorem tyX5_ok : ∀ k, k < 41 → parseFieldDescriptor (TX5 k).2.2.1 = some (tyX5 k) := by decide +kernel
abbrev cX5_init : ByteArray := prog_7_method_1_code
def yX5_init : MethodName := ⟨RX5, "<init>", "()V"⟩
abbrev cX5_in : ByteArray := prog_7_method_2_code
def yX5_in : MethodName := ⟨RX5, "in", "(III)Z"⟩
abbrev cX5_isModule : ByteArray := prog_7_method_3_code
def yX5_isModule : MethodName := ⟨RX5, "isModule", "(I)Z"⟩
abbrev cX5_isLoader : ByteArray := prog_7_method_4_code
def yX5_isLoader : MethodName := ⟨RX5, "isLoader", "(I)Z"⟩
abbrev cX5_module : ByteArray := prog_7_method_5_code
def yX5_module : MethodName := ⟨RX5, "module", "(I)I"⟩
abbrev cX5_item : ByteArray := prog_7_method_6_code
def yX5_item : MethodName := ⟨RX5, "item", "(III)I"⟩
abbrev cX5_uses : ByteArray := prog_7_method_7_code
def yX5_uses : MethodName := ⟨RX5, "uses", "(II)I"⟩
abbrev cX5_deed : ByteArray := prog_7_method_8_code
def yX5_deed : MethodName := ⟨RX5, "deed", "(III)I"⟩
abbrev cX5_constant : ByteArray := prog_7_method_9_code
def yX5_constant : MethodName := ⟨RX5, "constant", "(IIIII)I"⟩
abbrev cX5_push : ByteArray := prog_7_method_10_code
def yX5_push : MethodName := ⟨RX5, "push", "(II)V"⟩
abbrev cX5_mark : ByteArray := prog_7_method_11_code
def yX5_mark : MethodName := ⟨RX5, "mark", "(II)V"⟩
abbrev cX5_fails : ByteArray := prog_7_method_12_code
def yX5_fails : MethodName := ⟨RX5, "fails", "(II)V"⟩
abbrev cX5_gives : ByteArray := prog_7_method_13_code
def yX5_gives : MethodName := ⟨RX5, "gives", "(I)V"⟩
abbrev cX5_runs : ByteArray := prog_7_method_14_code
def yX5_runs : MethodName := ⟨RX5, "runs", "(I)V"⟩
abbrev cX5_needs : ByteArray := prog_7_method_15_code
def yX5_needs : MethodName := ⟨RX5, "needs", "(II)V"⟩
abbrev cX5_looks : ByteArray := prog_7_method_16_code
def yX5_looks : MethodName := ⟨RX5, "looks", "(III)V"⟩
abbrev cX5_begins : ByteArray := prog_7_method_17_code
def yX5_begins : MethodName := ⟨RX5, "begins", "(II)V"⟩
abbrev cX5_ends : ByteArray := prog_7_method_18_code
def yX5_ends : MethodName := ⟨RX5, "ends", "(II)V"⟩
abbrev cX5_first : ByteArray := prog_7_method_19_code
def yX5_first : MethodName := ⟨RX5, "first", "(III)V"⟩
abbrev cX5_second : ByteArray := prog_7_method_20_code
def yX5_second : MethodName := ⟨RX5, "second", "(III)V"⟩
abbrev cX5_starts : ByteArray := prog_7_method_21_code
def yX5_starts : MethodName := ⟨RX5, "starts", "(II)V"⟩
abbrev cX5_deeds : ByteArray := prog_7_method_22_code
def yX5_deeds : MethodName := ⟨RX5, "deeds", "(III)V"⟩
abbrev cX5_breaks : ByteArray := prog_7_method_23_code
def yX5_breaks : MethodName := ⟨RX5, "breaks", "(II)V"⟩
abbrev cX5_answers : ByteArray := prog_7_method_24_code
def yX5_answers : MethodName := ⟨RX5, "answers", "()I"⟩
abbrev cX5_need : ByteArray := prog_7_method_25_code
def yX5_need : MethodName := ⟨RX5, "need", "(II)I"⟩
abbrev cX5_value : ByteArray := prog_7_method_26_code
def yX5_value : MethodName := ⟨RX5, "value", "()I"⟩
abbrev cX5_start : ByteArray := prog_7_method_27_code
def yX5_start : MethodName := ⟨RX5, "start", "(II)I"⟩
abbrev cX5_fault : ByteArray := prog_7_method_28_code
def yX5_fault : MethodName := ⟨RX5, "fault", "(I)I"⟩
abbrev cX5_state : ByteArray := prog_7_method_29_code
def yX5_state : MethodName := ⟨RX5, "state", "(II)I"⟩
abbrev cX5_kept : ByteArray := prog_7_method_30_code
def yX5_kept : MethodName := ⟨RX5, "kept", "(II)I"⟩
abbrev cX5_row : ByteArray := prog_7_method_31_code
def yX5_row : MethodName := ⟨RX5, "row", "(III)I"⟩
abbrev cX5_trace : ByteArray := prog_7_method_32_code
def yX5_trace : MethodName := ⟨RX5, "trace", "(II)I"⟩
abbrev cX5_empties : ByteArray := prog_7_method_33_code
def yX5_empties : MethodName := ⟨RX5, "empties", "(I)I"⟩
abbrev cX5_forget : ByteArray := prog_7_method_34_code
def yX5_forget : MethodName := ⟨RX5, "forget", "(I)I"⟩
abbrev cX5_alike : ByteArray := prog_7_method_35_code
def yX5_alike : MethodName := ⟨RX5, "alike", "(I)I"⟩
abbrev cX5_told : ByteArray := prog_7_method_36_code
def yX5_told : MethodName := ⟨RX5, "told", "(I)I"⟩
def RJ10 : String := "java/lang/System"
def TJ10 : u_T := fun k => match k with
  | _ => ("", "", "", false)
def tyJ10 : Nat → FieldType := fun k => match k with
  | _ => .int
abbrev wsJ100 : List Cond := u_ws RJ10 TJ10 0
theorem nmJ10 : ∀ a, a < 0 → ∀ b, b < 0 → a ≠ b → (TJ10 a).2.1 ≠ (TJ10 b).2.1 := by decide +kernel
theorem tyJ10_ok : ∀ k, k < 0 → parseFieldDescriptor (TJ10 k).2.2.1 = some (tyJ10 k) := by decide +kernel
def RL : String := "ConstantStartsLaw"
abbrev cL_law : ByteArray := code
def yL_law : MethodName := ⟨RL, "law", "([I)Z"⟩
abbrev vwCl : List vw_C := [(RX0, TX0, 8), (RX1, TX1, 5), (RX2, TX2, 14), (RX3, TX3, 3), (RX4, TX4, 10), (RX5, TX5, 41)]
