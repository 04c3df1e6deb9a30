section
-- ===== PART A: goes FIRST, ahead of the names: the tables' words, and 'selects' of the private methods out of them =====
/-- a private method of a class that the tables say can be made, by its rows of tables_1 -/
def lw_okq (q : MethodName × Nat) : Prop := (q.1.cls ≠ "java/lang/invoke/MethodHandle" ∧ q.1.cls ≠ "java/lang/invoke/VarHandle") ∧ Cond.instantiable q.1.cls q.2 ∈ tables_1 ∧ Cond.privateMethod q.1 ∈ tables_1 ∧ Cond.instanceMethod q.1 ∈ tables_1
theorem lw_p0 : lw_okq (⟨"java/lang/Throwable", "fillInStackTrace", "(I)Ljava/lang/Throwable;"⟩, 6) := ⟨⟨by decide +kernel, by decide +kernel⟩, List.mem_of_getElem? (i := 201) (by decide +kernel), List.mem_of_getElem? (i := 199) (by decide +kernel), List.mem_of_getElem? (i := 200) (by decide +kernel)⟩
theorem lw_p1 : lw_okq (⟨"DispatchDesk", "genericAt", "(I)LDispatchDesk$Generic;"⟩, 10) := ⟨⟨by decide +kernel, by decide +kernel⟩, List.mem_of_getElem? (i := 24) (by decide +kernel), List.mem_of_getElem? (i := 376) (by decide +kernel), List.mem_of_getElem? (i := 377) (by decide +kernel)⟩
theorem lw_p2 : lw_okq (⟨"DispatchDesk", "methodAt", "(I)LDispatchDesk$Method;"⟩, 10) := ⟨⟨by decide +kernel, by decide +kernel⟩, List.mem_of_getElem? (i := 24) (by decide +kernel), List.mem_of_getElem? (i := 447) (by decide +kernel), List.mem_of_getElem? (i := 448) (by decide +kernel)⟩
theorem lw_p3 : lw_okq (⟨"DispatchDesk", "isAtom", "(IIII)Z"⟩, 10) := ⟨⟨by decide +kernel, by decide +kernel⟩, List.mem_of_getElem? (i := 24) (by decide +kernel), List.mem_of_getElem? (i := 452) (by decide +kernel), List.mem_of_getElem? (i := 453) (by decide +kernel)⟩
theorem lw_p4 : lw_okq (⟨"DispatchDesk", "isOperation", "(III)Z"⟩, 10) := ⟨⟨by decide +kernel, by decide +kernel⟩, List.mem_of_getElem? (i := 24) (by decide +kernel), List.mem_of_getElem? (i := 497) (by decide +kernel), List.mem_of_getElem? (i := 498) (by decide +kernel)⟩
theorem lw_p5 : lw_okq (⟨"DispatchDesk$Facts", "note", "(LDispatchDesk$Atom;J)V"⟩, 7) := ⟨⟨by decide +kernel, by decide +kernel⟩, List.mem_of_getElem? (i := 297) (by decide +kernel), List.mem_of_getElem? (i := 548) (by decide +kernel), List.mem_of_getElem? (i := 549) (by decide +kernel)⟩
theorem lw_p6 : lw_okq (⟨"DispatchDesk$Generic", "findImplied", "()V"⟩, 11) := ⟨⟨by decide +kernel, by decide +kernel⟩, List.mem_of_getElem? (i := 271) (by decide +kernel), List.mem_of_getElem? (i := 582) (by decide +kernel), List.mem_of_getElem? (i := 583) (by decide +kernel)⟩
theorem lw_p7 : lw_okq (⟨"DispatchDesk$Generic", "applicable", "(J)I"⟩, 11) := ⟨⟨by decide +kernel, by decide +kernel⟩, List.mem_of_getElem? (i := 271) (by decide +kernel), List.mem_of_getElem? (i := 602) (by decide +kernel), List.mem_of_getElem? (i := 603) (by decide +kernel)⟩
theorem lw_p8 : lw_okq (⟨"DispatchDesk$Generic", "noteTogether", "(I)V"⟩, 11) := ⟨⟨by decide +kernel, by decide +kernel⟩, List.mem_of_getElem? (i := 271) (by decide +kernel), List.mem_of_getElem? (i := 610) (by decide +kernel), List.mem_of_getElem? (i := 611) (by decide +kernel)⟩
theorem lw_p9 : lw_okq (⟨"DispatchDesk$Generic", "findBeyond", "()V"⟩, 11) := ⟨⟨by decide +kernel, by decide +kernel⟩, List.mem_of_getElem? (i := 271) (by decide +kernel), List.mem_of_getElem? (i := 614) (by decide +kernel), List.mem_of_getElem? (i := 615) (by decide +kernel)⟩
theorem lw_p10 : lw_okq (⟨"DispatchDesk", "isRow", "(LDispatchDesk$Generic;II)Z"⟩, 10) := ⟨⟨by decide +kernel, by decide +kernel⟩, List.mem_of_getElem? (i := 24) (by decide +kernel), List.mem_of_getElem? (i := 626) (by decide +kernel), List.mem_of_getElem? (i := 627) (by decide +kernel)⟩
theorem lw_p11 : lw_okq (⟨"DispatchDesk$Generic", "pick", "(I)I"⟩, 11) := ⟨⟨by decide +kernel, by decide +kernel⟩, List.mem_of_getElem? (i := 271) (by decide +kernel), List.mem_of_getElem? (i := 645) (by decide +kernel), List.mem_of_getElem? (i := 646) (by decide +kernel)⟩
theorem lw_p12 : lw_okq (⟨"DispatchDesk$GraphBuilder", "gather", "(LDispatchDesk$Generic;)I"⟩, 1) := ⟨⟨by decide +kernel, by decide +kernel⟩, List.mem_of_getElem? (i := 50) (by decide +kernel), List.mem_of_getElem? (i := 703) (by decide +kernel), List.mem_of_getElem? (i := 704) (by decide +kernel)⟩
theorem lw_p13 : lw_okq (⟨"DispatchDesk$GraphBuilder", "treeFor", "(LDispatchDesk$Graph;III)I"⟩, 1) := ⟨⟨by decide +kernel, by decide +kernel⟩, List.mem_of_getElem? (i := 50) (by decide +kernel), List.mem_of_getElem? (i := 711) (by decide +kernel), List.mem_of_getElem? (i := 712) (by decide +kernel)⟩
theorem lw_p14 : lw_okq (⟨"DispatchDesk$GraphBuilder", "differing", "(II)J"⟩, 1) := ⟨⟨by decide +kernel, by decide +kernel⟩, List.mem_of_getElem? (i := 50) (by decide +kernel), List.mem_of_getElem? (i := 715) (by decide +kernel), List.mem_of_getElem? (i := 716) (by decide +kernel)⟩
theorem lw_p15 : lw_okq (⟨"DispatchDesk$GraphBuilder", "bringForward", "(IIJ)I"⟩, 1) := ⟨⟨by decide +kernel, by decide +kernel⟩, List.mem_of_getElem? (i := 50) (by decide +kernel), List.mem_of_getElem? (i := 735) (by decide +kernel), List.mem_of_getElem? (i := 736) (by decide +kernel)⟩
def lw_privs_1 : List (MethodName × Nat) := [(⟨"java/lang/Throwable", "fillInStackTrace", "(I)Ljava/lang/Throwable;"⟩, 6), (⟨"DispatchDesk", "genericAt", "(I)LDispatchDesk$Generic;"⟩, 10), (⟨"DispatchDesk", "methodAt", "(I)LDispatchDesk$Method;"⟩, 10), (⟨"DispatchDesk", "isAtom", "(IIII)Z"⟩, 10), (⟨"DispatchDesk", "isOperation", "(III)Z"⟩, 10), (⟨"DispatchDesk$Facts", "note", "(LDispatchDesk$Atom;J)V"⟩, 7), (⟨"DispatchDesk$Generic", "findImplied", "()V"⟩, 11), (⟨"DispatchDesk$Generic", "applicable", "(J)I"⟩, 11), (⟨"DispatchDesk$Generic", "noteTogether", "(I)V"⟩, 11), (⟨"DispatchDesk$Generic", "findBeyond", "()V"⟩, 11), (⟨"DispatchDesk", "isRow", "(LDispatchDesk$Generic;II)Z"⟩, 10), (⟨"DispatchDesk$Generic", "pick", "(I)I"⟩, 11), (⟨"DispatchDesk$GraphBuilder", "gather", "(LDispatchDesk$Generic;)I"⟩, 1), (⟨"DispatchDesk$GraphBuilder", "treeFor", "(LDispatchDesk$Graph;III)I"⟩, 1), (⟨"DispatchDesk$GraphBuilder", "differing", "(II)J"⟩, 1), (⟨"DispatchDesk$GraphBuilder", "bringForward", "(IIJ)I"⟩, 1)]
theorem lw_r1 : ∀ q ∈ lw_privs_1, lw_okq q := List.forall_mem_cons.mpr ⟨lw_p0, List.forall_mem_cons.mpr ⟨lw_p1, List.forall_mem_cons.mpr ⟨lw_p2, List.forall_mem_cons.mpr ⟨lw_p3, List.forall_mem_cons.mpr ⟨lw_p4, List.forall_mem_cons.mpr ⟨lw_p5, List.forall_mem_cons.mpr ⟨lw_p6, List.forall_mem_cons.mpr ⟨lw_p7, List.forall_mem_cons.mpr ⟨lw_p8, List.forall_mem_cons.mpr ⟨lw_p9, List.forall_mem_cons.mpr ⟨lw_p10, List.forall_mem_cons.mpr ⟨lw_p11, List.forall_mem_cons.mpr ⟨lw_p12, List.forall_mem_cons.mpr ⟨lw_p13, List.forall_mem_cons.mpr ⟨lw_p14, List.forall_mem_cons.mpr ⟨lw_p15, fun _ h => absurd h List.not_mem_nil⟩⟩⟩⟩⟩⟩⟩⟩⟩⟩⟩⟩⟩⟩⟩⟩
theorem lw_p16 : lw_okq (⟨"DispatchDesk", "compiledAt", "(II)LDispatchDesk$Generic;"⟩, 10) := ⟨⟨by decide +kernel, by decide +kernel⟩, List.mem_of_getElem? (i := 24) (by decide +kernel), List.mem_of_getElem? (i := 752) (by decide +kernel), List.mem_of_getElem? (i := 753) (by decide +kernel)⟩
theorem lw_p17 : lw_okq (⟨"DispatchDesk$Machine", "enter", "(I)I"⟩, 5) := ⟨⟨by decide +kernel, by decide +kernel⟩, List.mem_of_getElem? (i := 61) (by decide +kernel), List.mem_of_getElem? (i := 803) (by decide +kernel), List.mem_of_getElem? (i := 804) (by decide +kernel)⟩
theorem lw_p18 : lw_okq (⟨"DispatchDesk$Machine", "spend", "()I"⟩, 5) := ⟨⟨by decide +kernel, by decide +kernel⟩, List.mem_of_getElem? (i := 61) (by decide +kernel), List.mem_of_getElem? (i := 807) (by decide +kernel), List.mem_of_getElem? (i := 808) (by decide +kernel)⟩
theorem lw_p19 : lw_okq (⟨"DispatchDesk$Machine", "walk", "(LDispatchDesk$Graph;J)I"⟩, 5) := ⟨⟨by decide +kernel, by decide +kernel⟩, List.mem_of_getElem? (i := 61) (by decide +kernel), List.mem_of_getElem? (i := 814) (by decide +kernel), List.mem_of_getElem? (i := 815) (by decide +kernel)⟩
theorem lw_p20 : lw_okq (⟨"DispatchDesk$Machine", "perform", "(LDispatchDesk$Method;III)I"⟩, 5) := ⟨⟨by decide +kernel, by decide +kernel⟩, List.mem_of_getElem? (i := 61) (by decide +kernel), List.mem_of_getElem? (i := 834) (by decide +kernel), List.mem_of_getElem? (i := 835) (by decide +kernel)⟩
theorem lw_p21 : lw_okq (⟨"DispatchDesk$Machine", "step", "(LDispatchDesk$Operation;LDispatchDesk$Frame;I)I"⟩, 5) := ⟨⟨by decide +kernel, by decide +kernel⟩, List.mem_of_getElem? (i := 61) (by decide +kernel), List.mem_of_getElem? (i := 842) (by decide +kernel), List.mem_of_getElem? (i := 843) (by decide +kernel)⟩
theorem lw_p22 : lw_okq (⟨"DispatchDesk$Machine", "callOnTop", "(LDispatchDesk$Generic;LDispatchDesk$Frame;I)I"⟩, 5) := ⟨⟨by decide +kernel, by decide +kernel⟩, List.mem_of_getElem? (i := 61) (by decide +kernel), List.mem_of_getElem? (i := 877) (by decide +kernel), List.mem_of_getElem? (i := 878) (by decide +kernel)⟩
theorem lw_p23 : lw_okq (⟨"DispatchDesk$Machine", "callNext", "(LDispatchDesk$Frame;I)I"⟩, 5) := ⟨⟨by decide +kernel, by decide +kernel⟩, List.mem_of_getElem? (i := 61) (by decide +kernel), List.mem_of_getElem? (i := 885) (by decide +kernel), List.mem_of_getElem? (i := 886) (by decide +kernel)⟩
theorem lw_p24 : lw_okq (⟨"DispatchDeskModel", "forget", "(I)V"⟩, 46) := ⟨⟨by decide +kernel, by decide +kernel⟩, List.mem_of_getElem? (i := 897) (by decide +kernel), List.mem_of_getElem? (i := 1054) (by decide +kernel), List.mem_of_getElem? (i := 1055) (by decide +kernel)⟩
theorem lw_p25 : lw_okq (⟨"DispatchDeskModel", "know", "(I)V"⟩, 46) := ⟨⟨by decide +kernel, by decide +kernel⟩, List.mem_of_getElem? (i := 897) (by decide +kernel), List.mem_of_getElem? (i := 1078) (by decide +kernel), List.mem_of_getElem? (i := 1079) (by decide +kernel)⟩
theorem lw_p26 : lw_okq (⟨"DispatchDeskModel", "rows", "(I)I"⟩, 46) := ⟨⟨by decide +kernel, by decide +kernel⟩, List.mem_of_getElem? (i := 897) (by decide +kernel), List.mem_of_getElem? (i := 1082) (by decide +kernel), List.mem_of_getElem? (i := 1083) (by decide +kernel)⟩
theorem lw_p27 : lw_okq (⟨"DispatchDeskModel", "values", "()I"⟩, 46) := ⟨⟨by decide +kernel, by decide +kernel⟩, List.mem_of_getElem? (i := 897) (by decide +kernel), List.mem_of_getElem? (i := 1086) (by decide +kernel), List.mem_of_getElem? (i := 1087) (by decide +kernel)⟩
theorem lw_p28 : lw_okq (⟨"DispatchDeskModel", "firstOf", "(II)I"⟩, 46) := ⟨⟨by decide +kernel, by decide +kernel⟩, List.mem_of_getElem? (i := 897) (by decide +kernel), List.mem_of_getElem? (i := 1090) (by decide +kernel), List.mem_of_getElem? (i := 1091) (by decide +kernel)⟩
theorem lw_p29 : lw_okq (⟨"DispatchDeskModel", "secondOf", "(II)I"⟩, 46) := ⟨⟨by decide +kernel, by decide +kernel⟩, List.mem_of_getElem? (i := 897) (by decide +kernel), List.mem_of_getElem? (i := 1094) (by decide +kernel), List.mem_of_getElem? (i := 1095) (by decide +kernel)⟩
theorem lw_p30 : lw_okq (⟨"DispatchDeskModel", "applies", "(III)Z"⟩, 46) := ⟨⟨by decide +kernel, by decide +kernel⟩, List.mem_of_getElem? (i := 897) (by decide +kernel), List.mem_of_getElem? (i := 1098) (by decide +kernel), List.mem_of_getElem? (i := 1099) (by decide +kernel)⟩
theorem lw_p31 : lw_okq (⟨"DispatchDeskModel", "holds", "(IIIII)Z"⟩, 46) := ⟨⟨by decide +kernel, by decide +kernel⟩, List.mem_of_getElem? (i := 897) (by decide +kernel), List.mem_of_getElem? (i := 1102) (by decide +kernel), List.mem_of_getElem? (i := 1103) (by decide +kernel)⟩
def lw_privs_2 : List (MethodName × Nat) := [(⟨"DispatchDesk", "compiledAt", "(II)LDispatchDesk$Generic;"⟩, 10), (⟨"DispatchDesk$Machine", "enter", "(I)I"⟩, 5), (⟨"DispatchDesk$Machine", "spend", "()I"⟩, 5), (⟨"DispatchDesk$Machine", "walk", "(LDispatchDesk$Graph;J)I"⟩, 5), (⟨"DispatchDesk$Machine", "perform", "(LDispatchDesk$Method;III)I"⟩, 5), (⟨"DispatchDesk$Machine", "step", "(LDispatchDesk$Operation;LDispatchDesk$Frame;I)I"⟩, 5), (⟨"DispatchDesk$Machine", "callOnTop", "(LDispatchDesk$Generic;LDispatchDesk$Frame;I)I"⟩, 5), (⟨"DispatchDesk$Machine", "callNext", "(LDispatchDesk$Frame;I)I"⟩, 5), (⟨"DispatchDeskModel", "forget", "(I)V"⟩, 46), (⟨"DispatchDeskModel", "know", "(I)V"⟩, 46), (⟨"DispatchDeskModel", "rows", "(I)I"⟩, 46), (⟨"DispatchDeskModel", "values", "()I"⟩, 46), (⟨"DispatchDeskModel", "firstOf", "(II)I"⟩, 46), (⟨"DispatchDeskModel", "secondOf", "(II)I"⟩, 46), (⟨"DispatchDeskModel", "applies", "(III)Z"⟩, 46), (⟨"DispatchDeskModel", "holds", "(IIIII)Z"⟩, 46)]
theorem lw_r2 : ∀ q ∈ lw_privs_2, lw_okq q := List.forall_mem_cons.mpr ⟨lw_p16, List.forall_mem_cons.mpr ⟨lw_p17, List.forall_mem_cons.mpr ⟨lw_p18, List.forall_mem_cons.mpr ⟨lw_p19, List.forall_mem_cons.mpr ⟨lw_p20, List.forall_mem_cons.mpr ⟨lw_p21, List.forall_mem_cons.mpr ⟨lw_p22, List.forall_mem_cons.mpr ⟨lw_p23, List.forall_mem_cons.mpr ⟨lw_p24, List.forall_mem_cons.mpr ⟨lw_p25, List.forall_mem_cons.mpr ⟨lw_p26, List.forall_mem_cons.mpr ⟨lw_p27, List.forall_mem_cons.mpr ⟨lw_p28, List.forall_mem_cons.mpr ⟨lw_p29, List.forall_mem_cons.mpr ⟨lw_p30, List.forall_mem_cons.mpr ⟨lw_p31, fun _ h => absurd h List.not_mem_nil⟩⟩⟩⟩⟩⟩⟩⟩⟩⟩⟩⟩⟩⟩⟩⟩
theorem lw_p32 : lw_okq (⟨"DispatchDeskModel", "isClass", "(II)Z"⟩, 46) := ⟨⟨by decide +kernel, by decide +kernel⟩, List.mem_of_getElem? (i := 897) (by decide +kernel), List.mem_of_getElem? (i := 1106) (by decide +kernel), List.mem_of_getElem? (i := 1107) (by decide +kernel)⟩
theorem lw_p33 : lw_okq (⟨"DispatchDeskModel", "parts", "(III)Z"⟩, 46) := ⟨⟨by decide +kernel, by decide +kernel⟩, List.mem_of_getElem? (i := 897) (by decide +kernel), List.mem_of_getElem? (i := 1110) (by decide +kernel), List.mem_of_getElem? (i := 1111) (by decide +kernel)⟩
theorem lw_p34 : lw_okq (⟨"DispatchDeskModel", "isRow", "(III)Z"⟩, 46) := ⟨⟨by decide +kernel, by decide +kernel⟩, List.mem_of_getElem? (i := 897) (by decide +kernel), List.mem_of_getElem? (i := 1118) (by decide +kernel), List.mem_of_getElem? (i := 1119) (by decide +kernel)⟩
theorem lw_p35 : lw_okq (⟨"DispatchDeskModel", "row", "(III)I"⟩, 46) := ⟨⟨by decide +kernel, by decide +kernel⟩, List.mem_of_getElem? (i := 897) (by decide +kernel), List.mem_of_getElem? (i := 1122) (by decide +kernel), List.mem_of_getElem? (i := 1123) (by decide +kernel)⟩
theorem lw_p36 : lw_okq (⟨"DispatchDeskModel", "bestAt", "(II)I"⟩, 46) := ⟨⟨by decide +kernel, by decide +kernel⟩, List.mem_of_getElem? (i := 897) (by decide +kernel), List.mem_of_getElem? (i := 1126) (by decide +kernel), List.mem_of_getElem? (i := 1127) (by decide +kernel)⟩
theorem lw_p37 : lw_okq (⟨"DispatchDeskModel", "firstMethod", "(I)I"⟩, 46) := ⟨⟨by decide +kernel, by decide +kernel⟩, List.mem_of_getElem? (i := 897) (by decide +kernel), List.mem_of_getElem? (i := 1130) (by decide +kernel), List.mem_of_getElem? (i := 1131) (by decide +kernel)⟩
theorem lw_p38 : lw_okq (⟨"DispatchDeskModel", "gather", "(I)V"⟩, 46) := ⟨⟨by decide +kernel, by decide +kernel⟩, List.mem_of_getElem? (i := 897) (by decide +kernel), List.mem_of_getElem? (i := 1146) (by decide +kernel), List.mem_of_getElem? (i := 1147) (by decide +kernel)⟩
theorem lw_p39 : lw_okq (⟨"DispatchDeskModel", "hasTest", "(II)Z"⟩, 46) := ⟨⟨by decide +kernel, by decide +kernel⟩, List.mem_of_getElem? (i := 897) (by decide +kernel), List.mem_of_getElem? (i := 1150) (by decide +kernel), List.mem_of_getElem? (i := 1151) (by decide +kernel)⟩
theorem lw_p40 : lw_okq (⟨"DispatchDeskModel", "build", "(I)Z"⟩, 46) := ⟨⟨by decide +kernel, by decide +kernel⟩, List.mem_of_getElem? (i := 897) (by decide +kernel), List.mem_of_getElem? (i := 1154) (by decide +kernel), List.mem_of_getElem? (i := 1155) (by decide +kernel)⟩
theorem lw_p41 : lw_okq (⟨"DispatchDeskModel", "begin", "(IJJI)V"⟩, 46) := ⟨⟨by decide +kernel, by decide +kernel⟩, List.mem_of_getElem? (i := 897) (by decide +kernel), List.mem_of_getElem? (i := 1158) (by decide +kernel), List.mem_of_getElem? (i := 1159) (by decide +kernel)⟩
theorem lw_p42 : lw_okq (⟨"DispatchDeskModel", "common", "(II)I"⟩, 46) := ⟨⟨by decide +kernel, by decide +kernel⟩, List.mem_of_getElem? (i := 897) (by decide +kernel), List.mem_of_getElem? (i := 1162) (by decide +kernel), List.mem_of_getElem? (i := 1163) (by decide +kernel)⟩
theorem lw_p43 : lw_okq (⟨"DispatchDeskModel", "inTree", "(II)Z"⟩, 46) := ⟨⟨by decide +kernel, by decide +kernel⟩, List.mem_of_getElem? (i := 897) (by decide +kernel), List.mem_of_getElem? (i := 1166) (by decide +kernel), List.mem_of_getElem? (i := 1167) (by decide +kernel)⟩
theorem lw_p44 : lw_okq (⟨"DispatchDeskModel", "made", "(IIII)I"⟩, 46) := ⟨⟨by decide +kernel, by decide +kernel⟩, List.mem_of_getElem? (i := 897) (by decide +kernel), List.mem_of_getElem? (i := 1170) (by decide +kernel), List.mem_of_getElem? (i := 1171) (by decide +kernel)⟩
theorem lw_p45 : lw_okq (⟨"DispatchDeskModel", "partingTest", "(II)I"⟩, 46) := ⟨⟨by decide +kernel, by decide +kernel⟩, List.mem_of_getElem? (i := 897) (by decide +kernel), List.mem_of_getElem? (i := 1174) (by decide +kernel), List.mem_of_getElem? (i := 1175) (by decide +kernel)⟩
theorem lw_p46 : lw_okq (⟨"DispatchDeskModel", "fail", "(I)I"⟩, 46) := ⟨⟨by decide +kernel, by decide +kernel⟩, List.mem_of_getElem? (i := 897) (by decide +kernel), List.mem_of_getElem? (i := 1178) (by decide +kernel), List.mem_of_getElem? (i := 1179) (by decide +kernel)⟩
theorem lw_p47 : lw_okq (⟨"DispatchDeskModel", "call", "(IIII)V"⟩, 46) := ⟨⟨by decide +kernel, by decide +kernel⟩, List.mem_of_getElem? (i := 897) (by decide +kernel), List.mem_of_getElem? (i := 1194) (by decide +kernel), List.mem_of_getElem? (i := 1195) (by decide +kernel)⟩
def lw_privs_3 : List (MethodName × Nat) := [(⟨"DispatchDeskModel", "isClass", "(II)Z"⟩, 46), (⟨"DispatchDeskModel", "parts", "(III)Z"⟩, 46), (⟨"DispatchDeskModel", "isRow", "(III)Z"⟩, 46), (⟨"DispatchDeskModel", "row", "(III)I"⟩, 46), (⟨"DispatchDeskModel", "bestAt", "(II)I"⟩, 46), (⟨"DispatchDeskModel", "firstMethod", "(I)I"⟩, 46), (⟨"DispatchDeskModel", "gather", "(I)V"⟩, 46), (⟨"DispatchDeskModel", "hasTest", "(II)Z"⟩, 46), (⟨"DispatchDeskModel", "build", "(I)Z"⟩, 46), (⟨"DispatchDeskModel", "begin", "(IJJI)V"⟩, 46), (⟨"DispatchDeskModel", "common", "(II)I"⟩, 46), (⟨"DispatchDeskModel", "inTree", "(II)Z"⟩, 46), (⟨"DispatchDeskModel", "made", "(IIII)I"⟩, 46), (⟨"DispatchDeskModel", "partingTest", "(II)I"⟩, 46), (⟨"DispatchDeskModel", "fail", "(I)I"⟩, 46), (⟨"DispatchDeskModel", "call", "(IIII)V"⟩, 46)]
theorem lw_r3 : ∀ q ∈ lw_privs_3, lw_okq q := List.forall_mem_cons.mpr ⟨lw_p32, List.forall_mem_cons.mpr ⟨lw_p33, List.forall_mem_cons.mpr ⟨lw_p34, List.forall_mem_cons.mpr ⟨lw_p35, List.forall_mem_cons.mpr ⟨lw_p36, List.forall_mem_cons.mpr ⟨lw_p37, List.forall_mem_cons.mpr ⟨lw_p38, List.forall_mem_cons.mpr ⟨lw_p39, List.forall_mem_cons.mpr ⟨lw_p40, List.forall_mem_cons.mpr ⟨lw_p41, List.forall_mem_cons.mpr ⟨lw_p42, List.forall_mem_cons.mpr ⟨lw_p43, List.forall_mem_cons.mpr ⟨lw_p44, List.forall_mem_cons.mpr ⟨lw_p45, List.forall_mem_cons.mpr ⟨lw_p46, List.forall_mem_cons.mpr ⟨lw_p47, fun _ h => absurd h List.not_mem_nil⟩⟩⟩⟩⟩⟩⟩⟩⟩⟩⟩⟩⟩⟩⟩⟩
theorem lw_p48 : lw_okq (⟨"DispatchDeskModel", "spends", "()Z"⟩, 46) := ⟨⟨by decide +kernel, by decide +kernel⟩, List.mem_of_getElem? (i := 897) (by decide +kernel), List.mem_of_getElem? (i := 1198) (by decide +kernel), List.mem_of_getElem? (i := 1199) (by decide +kernel)⟩
theorem lw_p49 : lw_okq (⟨"DispatchDeskModel", "choose", "(III)I"⟩, 46) := ⟨⟨by decide +kernel, by decide +kernel⟩, List.mem_of_getElem? (i := 897) (by decide +kernel), List.mem_of_getElem? (i := 1202) (by decide +kernel), List.mem_of_getElem? (i := 1203) (by decide +kernel)⟩
theorem lw_p50 : lw_okq (⟨"DispatchDeskModel", "perform", "()V"⟩, 46) := ⟨⟨by decide +kernel, by decide +kernel⟩, List.mem_of_getElem? (i := 897) (by decide +kernel), List.mem_of_getElem? (i := 1206) (by decide +kernel), List.mem_of_getElem? (i := 1207) (by decide +kernel)⟩
theorem lw_p51 : lw_okq (⟨"DispatchDeskModel", "push", "(II)V"⟩, 46) := ⟨⟨by decide +kernel, by decide +kernel⟩, List.mem_of_getElem? (i := 897) (by decide +kernel), List.mem_of_getElem? (i := 1210) (by decide +kernel), List.mem_of_getElem? (i := 1211) (by decide +kernel)⟩
def lw_privs_4 : List (MethodName × Nat) := [(⟨"DispatchDeskModel", "spends", "()Z"⟩, 46), (⟨"DispatchDeskModel", "choose", "(III)I"⟩, 46), (⟨"DispatchDeskModel", "perform", "()V"⟩, 46), (⟨"DispatchDeskModel", "push", "(II)V"⟩, 46)]
theorem lw_r4 : ∀ q ∈ lw_privs_4, lw_okq q := List.forall_mem_cons.mpr ⟨lw_p48, List.forall_mem_cons.mpr ⟨lw_p49, List.forall_mem_cons.mpr ⟨lw_p50, List.forall_mem_cons.mpr ⟨lw_p51, fun _ h => absurd h List.not_mem_nil⟩⟩⟩⟩
def lw_privs : List (MethodName × Nat) := lw_privs_1 ++ (lw_privs_2 ++ (lw_privs_3 ++ (lw_privs_4)))
def lw_tbl : List Cond := k2_sels lw_privs ++ tables_1
theorem lw_privs_ok : ∀ q ∈ lw_privs, lw_okq q := by
  show ∀ q ∈ lw_privs_1 ++ (lw_privs_2 ++ (lw_privs_3 ++ (lw_privs_4))), lw_okq q
  exact List.forall_mem_append.mpr ⟨lw_r1, List.forall_mem_append.mpr ⟨lw_r2, List.forall_mem_append.mpr ⟨lw_r3, lw_r4⟩⟩⟩
-- ===== end of PART A; then your names; then what follows =====
end
section
/-! ===== BEGIN words of one list among another's, by their places ===== -/
theorem goodIn_r {big : List Cond} (ws : List Cond) (ps : List Nat) (hp : ws = ps.filterMap (fun i => big[i]?)) (h : ws.all goodWord = true) : GoodIn big ws := by
  intro w hw
  have h1 := List.all_eq_true.mp h w hw
  rw [hp] at hw
  obtain ⟨i, -, hi⟩ := List.mem_filterMap.mp hw
  have hm : w ∈ big := by first | exact List.mem_of_getElem? hi | exact List.getElem?_mem hi
  exact ⟨hm, good_of_word h1⟩
theorem goodIn_app {big a b : List Cond} (ha : GoodIn big a) (hb : GoodIn big b) : GoodIn big (a ++ b) := fun w h => (List.mem_append.mp h).elim (ha w) (hb w)
theorem goodIn_ca {big a b : List Cond} {c : Cond} (ha : GoodIn big (c :: a)) (hb : GoodIn big b) : GoodIn big (c :: (a ++ b)) := fun w h => (List.mem_cons.mp h).elim (fun e => ha w (List.mem_cons.mpr (Or.inl e))) (fun h => (List.mem_append.mp h).elim (fun h => ha w (List.mem_cons.mpr (Or.inr h))) (hb w))
theorem goodIn_sub {big ws : List Cond} (hm : ∀ w ∈ ws, w ∈ big) (h : ws.all goodWord = true) : GoodIn big ws := fun w hw => ⟨hm w hw, good_of_word (List.all_eq_true.mp h w hw)⟩
/-! ===== END ===== -/

/-! ===== BEGIN exceptions that leave a method, and their catching by the caller (launches without stack traces) ===== -/
section VXA
/-! The laws vx_back, vx_callV, vx_callS, vx_callSW, vx_throw0, vx_throwS follow proofs of the library, with one case more: JvmDerived/Free/Laws.lean (Back.of_free), Shelf42/LK1.lean (callV, callS), Shelf/KitTraced.lean (throwNew0V, throwNewS). -/
/-- where a method has thrown q: the class by its name, the cell, what was written, the world -/
def vx_T (XC : String → State → State → Prop) (st : State) (q : Addr) (t : State) (mc ms : Nat) (free : Addr → Prop) : Prop :=
  ∃ (E : String) (ce : Cell) (L : List Loc), XC E st t ∧ t.heap[q]? = some ce ∧ ce.vm = .none ∧ st.vm.findClass E = some ce.cls ∧ st.WarmedH t.vm ∧ st.sameButNew ({ t with vm := st.vm } : State) L mc ms ∧ ∀ z ∈ L, free z.base
def vx_Q (Qc : Array Value → State → Outcome → State → Prop) (XC : String → State → State → Prop) (mc ms : Nat) (free : Addr → Prop) : Array Value → State → Outcome → State → Prop := fun a st o t =>
  (Qc a st o t ∧ ∃ L, FrameEnd st o t L mc ms ∧ ∀ q ∈ L, free q.base) ∨ ∃ q, o = .threw q ∧ vx_T XC st q t mc ms free
/-- a callee that returns or throws -/
def vx_Met (l : Launch) (y : MethodName) (ws : List Cond) (rm : Room) (Pc : Array Value → State → Prop) (Qc : Array Value → State → Outcome → State → Prop) (XC : String → State → State → Prop) (mc ms : Nat) (free : Addr → Prop) : Prop :=
  MetFree l y (headSpec ws rm) Pc (fun _ _ _ _ _ => True) (vx_Q Qc XC mc ms free)
def vx_Post (XC : String → State → State → Prop) (mc ms : Nat) (free : Addr → Prop) : Pt → Array Value → Addr → Pt → Prop := fun A a q B =>
  ∃ (g : JFrame) (mk : MethodId) (t : State) (L : List Loc) (E : String) (ce : Cell), B.U.heap = t.heap ∧ B.U.vm = t.vm ∧ XC E (A.U.calling g mk a) t ∧ t.heap[q]? = some ce ∧ ce.vm = .none ∧ A.U.vm.findClass E = some ce.cls ∧ B.locs = A.locs ++ L ∧ (∀ z ∈ L, free z.base) ∧ B.cells = A.cells + mc ∧ B.slots = A.slots + ms
def vx_Back (l : Launch) (R : Room) (p : Program) (e : Env) (below : List Frame) (s : State) (sargs : Array Value) (y : MethodName) (len W9 : Nat)
    (Pre : Pt → Array Value → Prop) (Post : Pt → Array Value → Option Value → Pt → Prop) (PostX : Pt → Array Value → Addr → Pt → Prop) : Prop :=
  ∀ (m : MethodId) (meth : Method) (c : Code) (A : Pt) (g : JFrame) (ig : Instr) (mk : MethodId) (a : Array Value),
    Stand p l e R s m sargs below meth c A.U A.locs A.cells A.slots → g.method = m → g.locals.size = c.maxLocals → decode c.code g.pc = .ok (ig, len) →
    2 * g.monitorRoom + (g.stack.map fun v => v.category).sum ≤ W9 → A.U.methodNamed? y = some mk → Pre A a →
    (∃ (v : Option Value) (B : Pt), Stand p l e R s m sargs below meth c B.U B.locs B.cells B.slots ∧ Post A a v B ∧
      Steps p.tables e below (doInvoke e (A.U.setTop g) [] mk a).1 (B.U.setTop { g with pc := g.pc + len, stack := v.toList ++ g.stack })) ∨
    (∃ (q : Addr) (B : Pt), Stand p l e R s m sargs below meth c B.U B.locs B.cells B.slots ∧ PostX A a q B ∧
      Steps p.tables e below (doInvoke e (A.U.setTop g) [] mk a).1 ((B.U.setTop g).pushFrame (.throwing q)))
section Payer
variable {l : Launch} {R : Room} {p : Program} {e : Env} {below : List Frame} {s : State} {sargs : Array Value} {y : MethodName} {len W9 : Nat}
theorem vx_back {ws : List Cond} {rm : Room} {Pc : Array Value → State → Prop} {Qc : Array Value → State → Outcome → State → Prop} {XC : String → State → State → Prop} {mc ms : Nat} {free : Addr → Prop} {bytes : ByteArray} {maxL : Nat} {ret : Option FieldType}
    (hM : vx_Met l y ws rm Pc Qc XC mc ms free) (hblind : FrameBlind Pc) (hrc : rm.cells = mc) (hrs : rm.slots = ms)
    (hframes : rm.frames + 1 ≤ R.frames) (hlocals : W9 + (maxL + 11) + rm.locals ≤ R.locals)
    (hws : ∀ w ∈ ws, ∀ a' U, s.WarmedH U.vm → w.before a' U = true) (hcode : Cond.code y bytes maxL ret ∈ ws) (hinit : ∀ a' U, s.WarmedH U.vm → (Cond.initialized y.cls).before a' U = true) :
    vx_Back l R p e below s sargs y len W9 (PreOf R mc ms Pc) (PostOf Qc mc ms free) (vx_Post XC mc ms free) := by
  intro m meth c A g ig mk a X hg hsize hdg hW hn hp
  have h1 : (headSpec ws rm).pre.before a A.U = true := atoms_intro fun w hw => hws w hw _ _ X.warmed
  have h2 : (Cond.code y bytes maxL ret).before a A.U = true := hws _ hcode _ _ X.warmed
  have h3 : (Cond.initialized y.cls).before a A.U = true := hinit _ _ X.warmed
  have h4 : A.cells + (headSpec ws rm).room.cells ≤ R.cells := by rw [show (headSpec ws rm).room.cells = mc from hrc]; exact hp.1
  have h5 : A.slots + (headSpec ws rm).room.slots ≤ R.slots := by rw [show (headSpec ws rm).room.slots = ms from hrs]; exact hp.2.1
  have hPc : Pc a (A.U.calling g mk a) := hblind _ _ _ _ hp.2.2
  obtain ⟨U, Ls, c0, s0⟩ := A
  dsimp only [Pt.U, Pt.locs, Pt.cells, Pt.slots] at h1 h2 h3 h4 h5 X hn hPc ⊢
  obtain ⟨methY, cY, hmY, hcY, -, hlY, -, -, -, -⟩ := Cond.code_spec hn h2
  obtain ⟨kY, hkY, -⟩ := className_of_methodNamed hn
  have hinitY : kY.init = .initialized := Cond.initialized_spec (findClass_of_methodNamed hn) hkY h3
  have h : At U g.method c below := by rw [hg]; exact X.here
  have hlocals9 : W9 + (maxL + 11) + (headSpec ws rm).room.locals ≤ R.locals := hlocals
  have happ : (headSpec ws rm).appliesLoose y e.platform (U.calling g mk a) = true :=
    Spec.appliesLoose_calling (g := g) h hdg hn hkY hinitY
      (X.room_calling (g := g) (R' := (headSpec ws rm).room) hsize hmY hcY hframes (by rw [hlY]; omega) h4 h5) h1
  obtain ⟨mid, hmid⟩ := h.above
  have hfr : (U.setTop g).frames = (.java g :: mid) ++ below := by rw [State.frames_setTop' g h.top, hmid]; rfl
  obtain ⟨o, s₂, hsteps, -, hend, hq⟩ := Steps.callFree hM p X.admits X.cas X.clock (acts := []) hfr happ hPc trivial
  have hq' : vx_Q Qc XC mc ms free a (U.calling g mk a) o s₂ := hq
  rw [State.frames_setTop' g h.top] at hend
  obtain ⟨g₀, hg0⟩ := Option.isSome_iff_exists.mp h.top
  obtain ⟨r, hr⟩ := State.topJava?_eq_some.mp hg0
  have hr' : (({ U with heap := s₂.heap, slotsUsed := s₂.slotsUsed } : State).setVm s₂.vm).frames = .java g₀ :: r := hr
  rcases hq' with ⟨hqc, L, hfe, hL⟩ | ⟨q, rfl, E, ce, L, hx, hce, hcv, hcl, hW₂, hsm, hL⟩
  · obtain ⟨⟨v, rfl⟩, hW₂, e2, q2, q3, q4, q5, q6⟩ := id hfe
    have e3 : s₂ = ({ (U.calling g mk a).setFrames s₂.frames with heap := s₂.heap, slotsUsed := s₂.slotsUsed } : State).setVm s₂.vm := by
      have : s₂ = ({ s₂ with vm := (U.calling g mk a).vm } : State).setVm s₂.vm := rfl
      rw [e2] at this
      exact this
    obtain ⟨c₂, i₂, len₂, hc₂, hd₂, hf₂⟩ := hend
    have hW' : U.WarmedH s₂.vm := hW₂
    have hcc : c₂ = c := by
      have h1 : s₂.code? g.method = U.code? g.method := by
        rw [State.code?_eq, State.code?_eq, hW'.alike.method?]
      exact Option.some.inj (hc₂.symm.trans (h1.trans h.code))
    subst hcc
    have hlen : len₂ = len := by rw [hdg] at hd₂; cases hd₂; rfl
    subst hlen
    have hs₂ : s₂ = (({ U with heap := s₂.heap, slotsUsed := s₂.slotsUsed } : State).setVm s₂.vm).setTop { g with pc := g.pc + len₂, stack := v.toList ++ g.stack } := by
      refine e3.trans ?_
      rw [hf₂, State.calling_eq h.top, State.setFrames_setFrames, State.setTop_of_frames _ hr', hr]
      rfl
    have hsame : U.sameButNew ({ U with heap := s₂.heap, slotsUsed := s₂.slotsUsed } : State) L mc ms := by
      refine ⟨?_, q2, q3, q4, q5, q6⟩
      obtain ⟨t, ht, -⟩ := State.frames_cons hr
      show ({ U with heap := s₂.heap, slotsUsed := s₂.slotsUsed } : State) = { U.setFrames U.frames with heap := s₂.heap, slotsUsed := s₂.slotsUsed }
      rw [State.setFrames_self ht]
    subst hg
    refine Or.inl ⟨v, ⟨(({ U with heap := s₂.heap, slotsUsed := s₂.slotsUsed } : State).setVm s₂.vm), Ls ++ L, c0 + mc, s0 + ms⟩,
      ⟨X.admits, X.cas, X.clock, X.frames, X.room, X.hears, X.method, X.code, (X.here.setHeapUsed s₂.heap s₂.slotsUsed).setVm hW'.alike, X.tail, State.WarmedH.trans X.warmed hW', X.limits, X.bytes, X.same.trans (hsame.setVm s.vm)⟩,
      ⟨g, mk, s₂, L, rfl, rfl, hqc, rfl, hL, rfl, rfl⟩, ?_⟩
    show Steps p.tables e below _ ((({ U with heap := s₂.heap, slotsUsed := s₂.slotsUsed } : State).setVm s₂.vm).setTop { g with pc := g.pc + len₂, stack := v.toList ++ g.stack })
    rw [← hs₂]
    exact hsteps
  · obtain ⟨e2, q2, q3, q4, q5, q6⟩ := id hsm
    have e3 : s₂ = ({ (U.calling g mk a).setFrames s₂.frames with heap := s₂.heap, slotsUsed := s₂.slotsUsed } : State).setVm s₂.vm := by
      have : s₂ = ({ s₂ with vm := (U.calling g mk a).vm } : State).setVm s₂.vm := rfl
      rw [e2] at this
      exact this
    have hf₂ : s₂.frames = .throwing q :: .java g :: U.frames.tail := hend
    have hW' : U.WarmedH s₂.vm := hW₂
    have hs₂ : s₂ = ((({ U with heap := s₂.heap, slotsUsed := s₂.slotsUsed } : State).setVm s₂.vm).setTop g).pushFrame (.throwing q) := by
      refine e3.trans ?_
      rw [hf₂, State.calling_eq h.top, State.setFrames_setFrames, State.pushFrame, State.frames_setTop _ hr', State.setTop_of_frames _ hr', State.setFrames_setFrames, hr]
      rfl
    have hsame : U.sameButNew ({ U with heap := s₂.heap, slotsUsed := s₂.slotsUsed } : State) L mc ms := by
      refine ⟨?_, q2, q3, q4, q5, q6⟩
      obtain ⟨t, ht, -⟩ := State.frames_cons hr
      show ({ U with heap := s₂.heap, slotsUsed := s₂.slotsUsed } : State) = { U.setFrames U.frames with heap := s₂.heap, slotsUsed := s₂.slotsUsed }
      rw [State.setFrames_self ht]
    subst hg
    refine Or.inr ⟨q, ⟨(({ U with heap := s₂.heap, slotsUsed := s₂.slotsUsed } : State).setVm s₂.vm), Ls ++ L, c0 + mc, s0 + ms⟩,
      ⟨X.admits, X.cas, X.clock, X.frames, X.room, X.hears, X.method, X.code, (X.here.setHeapUsed s₂.heap s₂.slotsUsed).setVm hW'.alike, X.tail, State.WarmedH.trans X.warmed hW', X.limits, X.bytes, X.same.trans (hsame.setVm s.vm)⟩,
      ⟨g, mk, s₂, L, E, ce, rfl, rfl, hx, hce, hcv, hcl, rfl, hL, rfl, rfl⟩, ?_⟩
    show Steps p.tables e below _ (((({ U with heap := s₂.heap, slotsUsed := s₂.slotsUsed } : State).setVm s₂.vm).setTop g).pushFrame (.throwing q))
    rw [← hs₂]
    exact hsteps
end Payer
section Calls
variable {p : Program} {l : Launch} {e : Env} {R : Room} {s : State} {m : MethodId} {args : Array Value} {below : List Frame} {meth : Method} {c : Code} {T : State} {locs : List Loc} {cells slots : Nat}
theorem vx_callV (X : Stand p l e R s m args below meth c T locs cells slots) (hexec : p.tables.exec = Jvm.exec) {own C : String} {index : Nat} {y : MethodName} {bytes : ByteArray} {maxL : Nat} {ret : Option FieldType}
    (hown : s.vm.findClass own = some m.cls) (hlink : (Cond.methodLink own index y).before args s = true) (hinst : (Cond.instanceMethod y).before args s = true) (hsel : (Cond.selects C y y).before args s = true)
    (hcode : (Cond.code y bytes maxL ret).before args s = true) (hy : y.cls ≠ "java/lang/invoke/MethodHandle" ∧ y.cls ≠ "java/lang/invoke/VarHandle")
    {W9 : Nat} {Pre : Pt → Array Value → Prop} {Post : Pt → Array Value → Option Value → Pt → Prop} {PostX : Pt → Array Value → Addr → Pt → Prop} (hK : vx_Back l R p e below s args y 3 W9 Pre Post PostX)
    {b : Addr} {cellB : Cell} (hcell : T.heap[b]? = some cellB) (hobj : cellB.vm.isStatics = false) (hcls : s.vm.findClass C = some cellB.cls)
    {g : JFrame} (hg : g.method = m) (hsize : g.locals.size = c.maxLocals) {argsL rest : List Value} (hlen : ∀ sig, parseMethodDescriptor y.desc = some sig → argsL.length = sig.parameters.length)
    (hstack : g.stack = argsL.reverse ++ .ref b :: rest) (hW : 2 * g.monitorRoom + (rest.map fun v => v.category).sum ≤ W9) (hdg : decode c.code g.pc = .ok (.invokevirtual index, 3))
    (hpre : ∀ vm₁, s.WarmedH vm₁ → Pre ⟨T.setVm vm₁, locs, cells, slots⟩ (Value.ref b :: argsL).toArray) :
    (∃ (v : Option Value) (vm₁ : Vm) (B : Pt), s.WarmedH vm₁ ∧ Stand p l e R s m args below meth c B.U B.locs B.cells B.slots ∧ Post ⟨T.setVm vm₁, locs, cells, slots⟩ (Value.ref b :: argsL).toArray v B ∧
      ∀ target, Steps p.tables e below (B.U.setTop { g with pc := g.pc + 3, stack := v.toList ++ rest }) target → Steps p.tables e below (T.setTop g) target) ∨
    (∃ (q : Addr) (vm₁ : Vm) (B : Pt), s.WarmedH vm₁ ∧ Stand p l e R s m args below meth c B.U B.locs B.cells B.slots ∧ PostX ⟨T.setVm vm₁, locs, cells, slots⟩ (Value.ref b :: argsL).toArray q B ∧
      Steps p.tables e below (T.setTop g) ((B.U.setTop { g with stack := rest }).pushFrame (.throwing q))) := by
  obtain ⟨mk, methM, hnamed, hmethM, hstM, habM⟩ := Cond.instanceMethod_spec hinst
  obtain ⟨methM', cM, hmethM', -, -, -, -, -, -, hsigM⟩ := Cond.code_spec hnamed hcode
  cases hmethM.symm.trans hmethM'
  obtain ⟨c2, r2, m2, q1, q2, q3, q4, kP, hkP, hkPi⟩ := Cond.selects_spec hsel
  cases hcls.symm.trans q1
  cases (State.methodFound?_of_named hnamed hy).symm.trans q2
  cases hnamed.symm.trans q3
  have hselP : selectMethod e.platform s.vm cellB.cls mk = .method mk := by rw [Launch.admits_selectMethod X.admits]; exact q4
  obtain ⟨vm₁, X₁, hstep₁⟩ := X.invokevirtual hexec hown hlink hnamed hmethM hstM hkP hkPi hy (a := b) (cell := cellB) hcell
    (fun z h => by rw [h] at hobj; cases hobj) hselP hmethM habM hkP hkPi (g := g) hg (argsL := argsL) (rest := rest) (hlen _ hsigM) hstack hdg
  rcases hK m meth c ⟨T.setVm vm₁, locs, cells, slots⟩ { g with stack := rest } (.invokevirtual index) mk (Value.ref b :: argsL).toArray X₁ hg hsize hdg hW (X₁.named hnamed) (hpre vm₁ X₁.warmed) with ⟨v, B, X', hpost, hsteps⟩ | ⟨q, B, X', hpost, hsteps⟩
  · exact Or.inl ⟨v, vm₁, B, X₁.warmed, X', hpost, fun target h => hstep₁ _ fun acts => by rw [doInvoke_state]; exact hsteps.trans h⟩
  · exact Or.inr ⟨q, vm₁, B, X₁.warmed, X', hpost, hstep₁ _ fun acts => by rw [doInvoke_state]; exact hsteps⟩
theorem vx_callS (X : Stand p l e R s m args below meth c T locs cells slots) (hexec : p.tables.exec = Jvm.exec) {own : String} {index : Nat} {y : MethodName} {bytes : ByteArray} {maxL : Nat} {ret : Option FieldType}
    (hown : s.vm.findClass own = some m.cls) (hlink : (Cond.methodLink own index y).before args s = true) (hstat : (Cond.static y).before args s = true) (hinit : (Cond.initialized y.cls).before args s = true)
    (hcode : (Cond.code y bytes maxL ret).before args s = true) (hy : y.cls ≠ "java/lang/invoke/MethodHandle" ∧ y.cls ≠ "java/lang/invoke/VarHandle")
    {W9 : Nat} {Pre : Pt → Array Value → Prop} {Post : Pt → Array Value → Option Value → Pt → Prop} {PostX : Pt → Array Value → Addr → Pt → Prop} (hK : vx_Back l R p e below s args y 3 W9 Pre Post PostX)
    {g : JFrame} (hg : g.method = m) (hsize : g.locals.size = c.maxLocals) {argsL rest : List Value} (hlen : ∀ sig, parseMethodDescriptor y.desc = some sig → argsL.length = sig.parameters.length)
    (hstack : g.stack = argsL.reverse ++ rest) (hW : 2 * g.monitorRoom + (rest.map fun v => v.category).sum ≤ W9) (hdg : decode c.code g.pc = .ok (.invokestatic index, 3))
    (hpre : ∀ vm₁, s.WarmedH vm₁ → Pre ⟨T.setVm vm₁, locs, cells, slots⟩ argsL.toArray) :
    (∃ (v : Option Value) (vm₁ : Vm) (B : Pt), s.WarmedH vm₁ ∧ Stand p l e R s m args below meth c B.U B.locs B.cells B.slots ∧ Post ⟨T.setVm vm₁, locs, cells, slots⟩ argsL.toArray v B ∧
      ∀ target, Steps p.tables e below (B.U.setTop { g with pc := g.pc + 3, stack := v.toList ++ rest }) target → Steps p.tables e below (T.setTop g) target) ∨
    (∃ (q : Addr) (vm₁ : Vm) (B : Pt), s.WarmedH vm₁ ∧ Stand p l e R s m args below meth c B.U B.locs B.cells B.slots ∧ PostX ⟨T.setVm vm₁, locs, cells, slots⟩ argsL.toArray q B ∧
      Steps p.tables e below (T.setTop g) ((B.U.setTop { g with stack := rest }).pushFrame (.throwing q))) := by
  obtain ⟨mk, hnamed⟩ := Cond.code_named hcode
  obtain ⟨methM, cM, hmethM, -, -, -, -, -, -, hsigM⟩ := Cond.code_spec hnamed hcode
  have hstatic : methM.isStatic = true := Cond.static_spec hnamed hmethM hstat
  obtain ⟨kP, hkP, -⟩ := className_of_methodNamed hnamed
  have hinitP : kP.init = .initialized := Cond.initialized_spec (findClass_of_methodNamed hnamed) hkP hinit
  obtain ⟨vm₁, X₁, hstep₁⟩ := X.invokestatic hexec hown hlink hnamed hmethM hstatic hkP hinitP hy (g := g) hg (argsL := argsL) (rest := rest) (hlen _ hsigM) hstack hdg
  rcases hK m meth c ⟨T.setVm vm₁, locs, cells, slots⟩ { g with stack := rest } (.invokestatic index) mk argsL.toArray X₁ hg hsize hdg hW (X₁.named hnamed) (hpre vm₁ X₁.warmed) with ⟨v, B, X', hpost, hsteps⟩ | ⟨q, B, X', hpost, hsteps⟩
  · exact Or.inl ⟨v, vm₁, B, X₁.warmed, X', hpost, fun target h => hstep₁ _ fun acts => by rw [doInvoke_state]; exact hsteps.trans h⟩
  · exact Or.inr ⟨q, vm₁, B, X₁.warmed, X', hpost, hstep₁ _ fun acts => by rw [doInvoke_state]; exact hsteps⟩
end Calls
theorem vx_cls {s : State} {T : State} {vm₁ : Vm} {E : String} {k : ClassId} (hW : s.WarmedH vm₁) (h : (T.setVm vm₁).vm.findClass E = some k) : s.vm.findClass E = some k := by
  have h1 : vm₁.findClass E = some k := h
  rw [hW.alike.findClass] at h1
  exact h1
/-- the method's frame g, with q thrown over it -/
def vx_W (p : Program) (l : Launch) (e : Env) (R : Room) (s : State) (m : MethodId) (args : Array Value) (below : List Frame) (meth : Method) (c : Code) (H : Heap) (locs : List Loc) (cells slots : Nat) (Q : State → Prop) (g : JFrame) (q : Addr) : Prop :=
  ∀ T : State, T.heap = H → Stand p l e R s m args below meth c T locs cells slots → ∃ t, Steps p.tables e below ((T.setTop g).pushFrame (.throwing q)) t ∧ Q t
def vx_Run (p : Program) (l : Launch) (e : Env) (R : Room) (s : State) (m : MethodId) (args : Array Value) (below : List Frame) (meth : Method) (c : Code) (H : Heap) (locs : List Loc) (cells slots mc ms : Nat) (g : JFrame) (rest : List Value) (Qa : State → Outcome → State → Prop) (XC : String → State → State → Prop) (free : Addr → Prop) : Prop :=
  ∀ T : State, T.heap = H → Stand p l e R s m args below meth c T locs cells slots →
    (∃ (v : Option Value) (st₀ t T' : State) (L : List Loc), st₀.heap = H ∧ Stand p l e R s m args below meth c T' (locs ++ L) (cells + mc) (slots + ms) ∧ (∀ q ∈ L, free q.base) ∧ T'.heap = t.heap ∧ T'.vm = t.vm ∧ Qa st₀ (.returned v) t ∧
      Goes p e below T g T' { g with pc := g.pc + 3, stack := v.toList ++ rest }) ∨
    (∃ (q : Addr) (st₀ t T' : State) (L : List Loc) (E : String) (ce : Cell), st₀.heap = H ∧ Stand p l e R s m args below meth c T' (locs ++ L) (cells + mc) (slots + ms) ∧ (∀ z ∈ L, free z.base) ∧ T'.heap = t.heap ∧ T'.vm = t.vm ∧ XC E st₀ t ∧ t.heap[q]? = some ce ∧ ce.vm = .none ∧ s.vm.findClass E = some ce.cls ∧
      Steps p.tables e below (T.setTop g) ((T'.setTop { g with stack := rest }).pushFrame (.throwing q)))
def vx_X {S : Type} (px : S → Prop) (B : String → S → State → Prop) (A : Nat → Prop) : String → State → State → Prop := fun E st t => ∃ u : S, px u ∧ B E u t ∧ va_F A st t
section Runs
variable {p : Program} {l : Launch} {e : Env} {R : Room} {s : State} {m : MethodId} {args : Array Value} {below : List Frame} {meth : Method} {c : Code} {H : Heap} {locs : List Loc} {cells slots : Nat}
variable {y : MethodName} {bytes cc : ByteArray} {maxL nL mc ms n index : Nat} {ret : Option FieldType} {ws : List Cond} {rm : Room} {Pc : Array Value → State → Prop} {Qc : Array Value → State → Outcome → State → Prop} {XC : String → State → State → Prop} {free : Addr → Prop} {Ts : List Cond} {own C : String} {b : Addr} {As rest : List Value} {g : JFrame}
theorem vx_callBack (cb : CallB R s args own index y bytes maxL ret ws rm mc ms n) (hM : vx_Met l y ws rm Pc Qc XC mc ms free) (hbl : FrameBlind Pc) : vx_Back l R p e below s args y 3 8 (PreOf R mc ms Pc) (PostOf Qc mc ms free) (vx_Post XC mc ms free) := by
  obtain ⟨hrc, hrs, hfr, hlo, hws, hcw, -, hini, -⟩ := cb
  exact vx_back (bytes := bytes) (maxL := maxL) (ret := ret) hM hbl hrc hrs hfr hlo hws hcw (fun a' U hW => word_at hW (Or.inl (by first | rfl | simp [Cond.onTables, Cond.keeps, Cond.steady])) hini)
theorem vx_runV (S : CallFix p m c cc nL s args Ts own) (hM : vx_Met l y ws rm Pc Qc XC mc ms free) (cw : CallW R s args own C index y bytes maxL ret ws rm mc ms n) (hp : PreV s H C b Pc As)
    (hg : g.method = m) (hn : As.length = n) (hsize : g.locals.size = nL) (hstack : g.stack = As.reverse ++ .ref b :: rest) (hW : 2 * g.monitorRoom + (rest.map fun v => v.category).sum ≤ 8) (hdg : decode cc g.pc = .ok (.invokevirtual index, 3)) (hf : cells + mc ≤ R.cells ∧ slots + ms ≤ R.slots) :
    vx_Run p l e R s m args below meth c H locs cells slots mc ms g rest (Qc (Value.ref b :: As).toArray) XC free := by
  have hK : vx_Back l R p e below s args y 3 8 (PreOf R mc ms Pc) (PostOf Qc mc ms free) (vx_Post XC mc ms free) := vx_callBack cw.1 hM hp.1
  obtain ⟨⟨-, -, -, -, -, -, hcode, -, hy, hlen, hl⟩, hin, hse⟩ := cw
  obtain ⟨hx, hb, hml, ho, -⟩ := S
  obtain ⟨-, ⟨cellB, hcB, hoB, hclB⟩, hPc⟩ := hp
  intro T hT X
  rcases vx_callV X hx (C := C) (bytes := bytes) (maxL := maxL) (ret := ret) ho hl hin hse hcode hy hK (by rw [hT]; exact hcB) hoB hclB hg (hsize.trans hml.symm) (argsL := As) (rest := rest) (fun sig h => hn.trans (hlen sig h)) hstack hW (by rw [hb]; exact hdg)
    (fun vm₁ hW₁ => ⟨hf.1, hf.2, hPc (T.setVm vm₁) hT hW₁⟩) with ⟨v, vm₁, ⟨U', l2, c2, s2⟩, hW₁, X', ⟨g', mk, t, L, e1, e2, hq, h1, hL, h2, h3⟩, st⟩ | ⟨q, vm₁, ⟨U', l2, c2, s2⟩, hW₁, X', ⟨g', mk, t, L, E, ce, e1, e2, hq, hce, hcv, hcl, h1, hL, h2, h3⟩, st⟩
  · dsimp only [Pt.U, Pt.locs, Pt.cells, Pt.slots] at X' e1 e2 h1 h2 h3 st
    subst h1; subst h2; subst h3
    exact Or.inl ⟨v, (T.setVm vm₁).calling g' mk (Value.ref b :: As).toArray, t, U', L, hT, X', hL, e1, e2, hq, st⟩
  · dsimp only [Pt.U, Pt.locs, Pt.cells, Pt.slots] at X' e1 e2 h1 h2 h3 st hcl
    subst h1; subst h2; subst h3
    exact Or.inr ⟨q, (T.setVm vm₁).calling g' mk (Value.ref b :: As).toArray, t, U', L, E, ce, hT, X', hL, e1, e2, hq, hce, hcv, vx_cls hW₁ hcl, st⟩
theorem vx_runS (S : CallFix p m c cc nL s args Ts own) (hM : vx_Met l y ws rm Pc Qc XC mc ms free) (cw : CallB R s args own index y bytes maxL ret ws rm mc ms n ∧ (Cond.static y).before args s = true) (hp : PreS s H Pc As)
    (hg : g.method = m) (hn : As.length = n) (hsize : g.locals.size = nL) (hstack : g.stack = As.reverse ++ rest) (hW : 2 * g.monitorRoom + (rest.map fun v => v.category).sum ≤ 8) (hdg : decode cc g.pc = .ok (.invokestatic index, 3)) (hf : cells + mc ≤ R.cells ∧ slots + ms ≤ R.slots) :
    vx_Run p l e R s m args below meth c H locs cells slots mc ms g rest (Qc As.toArray) XC free := by
  have hK : vx_Back l R p e below s args y 3 8 (PreOf R mc ms Pc) (PostOf Qc mc ms free) (vx_Post XC mc ms free) := vx_callBack cw.1 hM hp.1
  obtain ⟨⟨-, -, -, -, -, -, hcode, hini, hy, hlen, hl⟩, hstt⟩ := cw
  obtain ⟨hx, hb, hml, ho, -⟩ := S
  intro T hT X
  rcases vx_callS X hx (bytes := bytes) (maxL := maxL) (ret := ret) ho hl hstt hini hcode hy hK hg (hsize.trans hml.symm) (argsL := As) (rest := rest) (fun sig h => hn.trans (hlen sig h)) hstack hW (by rw [hb]; exact hdg)
    (fun vm₁ hW₁ => ⟨hf.1, hf.2, hp.2 (T.setVm vm₁) hT hW₁⟩) with ⟨v, vm₁, ⟨U', l2, c2, s2⟩, hW₁, X', ⟨g', mk, t, L, e1, e2, hq, h1, hL, h2, h3⟩, st⟩ | ⟨q, vm₁, ⟨U', l2, c2, s2⟩, hW₁, X', ⟨g', mk, t, L, E, ce, e1, e2, hq, hce, hcv, hcl, h1, hL, h2, h3⟩, st⟩
  · dsimp only [Pt.U, Pt.locs, Pt.cells, Pt.slots] at X' e1 e2 h1 h2 h3 st
    subst h1; subst h2; subst h3
    exact Or.inl ⟨v, (T.setVm vm₁).calling g' mk As.toArray, t, U', L, hT, X', hL, e1, e2, hq, st⟩
  · dsimp only [Pt.U, Pt.locs, Pt.cells, Pt.slots] at X' e1 e2 h1 h2 h3 st hcl
    subst h1; subst h2; subst h3
    exact Or.inr ⟨q, (T.setVm vm₁).calling g' mk As.toArray, t, U', L, E, ce, hT, X', hL, e1, e2, hq, hce, hcv, vx_cls hW₁ hcl, st⟩
end Runs
section Rows
variable {p : Program} {l : Launch} {e : Env} {R : Room} {s : State} {m : MethodId} {args : Array Value} {below : List Frame} {meth : Method} {c : Code} {H : Heap} {locs : List Loc} {cells slots : Nat} {Q : State → Prop}
variable {mc ms : Nat} {free : Addr → Prop} {A0 A1 : Nat → Prop} {H0 : Heap} {a : Array Value} {pc : Nat} {ls : Array Slot} {st0 rest : List Value}
theorem vx_keep {st₀ t T' : State} {L : List Loc} (h0 : st₀.heap = H) (e1 : T'.heap = t.heap) (hS : va_S A0 H0 H locs) (hA : ∀ q, q < H.size → A1 q → A0 q) (hf : ∀ q, free q → A0 q) (hL : ∀ q ∈ L, free q.base) (hF : va_F A1 st₀ t) :
    H.size ≤ T'.heap.size ∧ (∀ q : Nat, q < H.size → ¬ A1 q → T'.heap[q]? = H[q]?) ∧ va_S A0 H0 T'.heap (locs ++ L) := by
  obtain ⟨hz, hk⟩ := hF
  rw [h0] at hz hk
  exact ⟨by rw [e1]; exact hz, fun q h1 h2 => by rw [e1]; exact hk q h1 h2,
    ⟨Nat.le_trans hS.1 (by rw [e1]; exact hz), fun q h1 h2 => by rw [e1, hk q (Nat.lt_of_lt_of_le h1 hS.1) (fun z => h2 (hA q (Nat.lt_of_lt_of_le h1 hS.1) z))]; exact hS.2.1 q h1 h2, fun q hq => by
      rcases List.mem_append.mp hq with h | h
      · exact hS.2.2 q h
      · exact hf _ (hL q h)⟩⟩
theorem vx_calli {S SX : Type} {post : Int32 → S → Prop} {px : SX → Prop} {B : S → State → Prop} {BX : String → SX → State → Prop} {AX : Nat → Prop} (hr : vx_Run p l e R s m args below meth c H locs cells slots mc ms (F0 m pc ls st0) rest (va_Qi post B A1 a) (vx_X px BX AX) free) (hS : va_S A0 H0 H locs) (hA : ∀ q, q < H.size → A1 q → A0 q) (hf : ∀ q, free q → A0 q) (hAX : ∀ q, q < H.size → AX q → A0 q)
    (kx : ∀ (E : String) (ce : Cell) (q9 : Addr) (u : SX) (t : State) (H1 : Heap) (locs1 : List Loc), t.heap = H1 → s.vm.Alike t.vm → px u → BX E u t → H.size ≤ H1.size → (∀ q : Nat, q < H.size → ¬ AX q → H1[q]? = H[q]?) → va_S A0 H0 H1 locs1 → H1[q9]? = some ce → ce.vm = .none → s.vm.findClass E = some ce.cls → vx_W p l e R s m args below meth c H1 locs1 (cells + mc) (slots + ms) Q (F0 m pc ls rest) q9)
    (kk : ∀ (r : Int32) (u : S) (t : State) (H1 : Heap) (locs1 : List Loc), t.heap = H1 → s.vm.Alike t.vm → post r u → B u t → H.size ≤ H1.size → (∀ q : Nat, q < H.size → ¬ A1 q → H1[q]? = H[q]?) → va_S A0 H0 H1 locs1 → W p l e R s m args below meth c H1 locs1 (cells + mc) (slots + ms) Q (F0 m (pc + 3) ls (.int r :: rest))) : W p l e R s m args below meth c H locs cells slots Q (F0 m pc ls st0) := by
  intro T hT X
  rcases hr T hT X with ⟨v, st₀, t, T', L, h0, X', hL, e1, e2, ⟨⟨r, u, hv, hp, hb⟩, hF⟩, st⟩ | ⟨q, st₀, t, T', L, E, ce, h0, X', hL, e1, e2, ⟨u, hp, hb, hF⟩, hce, hcv, hcl, st⟩
  · cases hv
    obtain ⟨k1, k2, k3⟩ := vx_keep h0 e1 hS hA hf hL hF
    obtain ⟨t2, a1, b1⟩ := kk r u t T'.heap (locs ++ L) e1.symm (by rw [← e2]; exact X'.warmed.alike) hp hb k1 k2 k3 T' rfl X'
    exact ⟨t2, st t2 a1, b1⟩
  · obtain ⟨k1, k2, k3⟩ := vx_keep h0 e1 hS hAX hf hL hF
    obtain ⟨t2, a1, b1⟩ := kx E ce q u t T'.heap (locs ++ L) e1.symm (by rw [← e2]; exact X'.warmed.alike) hp hb k1 k2 k3 (by rw [e1]; exact hce) hcv hcl T' rfl X'
    exact ⟨t2, st.trans a1, b1⟩
theorem vx_calll {S SX : Type} {post : Int64 → S → Prop} {px : SX → Prop} {B : S → State → Prop} {BX : String → SX → State → Prop} {AX : Nat → Prop} (hr : vx_Run p l e R s m args below meth c H locs cells slots mc ms (F0 m pc ls st0) rest (va_Ql post B A1 a) (vx_X px BX AX) free) (hS : va_S A0 H0 H locs) (hA : ∀ q, q < H.size → A1 q → A0 q) (hf : ∀ q, free q → A0 q) (hAX : ∀ q, q < H.size → AX q → A0 q)
    (kx : ∀ (E : String) (ce : Cell) (q9 : Addr) (u : SX) (t : State) (H1 : Heap) (locs1 : List Loc), t.heap = H1 → s.vm.Alike t.vm → px u → BX E u t → H.size ≤ H1.size → (∀ q : Nat, q < H.size → ¬ AX q → H1[q]? = H[q]?) → va_S A0 H0 H1 locs1 → H1[q9]? = some ce → ce.vm = .none → s.vm.findClass E = some ce.cls → vx_W p l e R s m args below meth c H1 locs1 (cells + mc) (slots + ms) Q (F0 m pc ls rest) q9)
    (kk : ∀ (r : Int64) (u : S) (t : State) (H1 : Heap) (locs1 : List Loc), t.heap = H1 → s.vm.Alike t.vm → post r u → B u t → H.size ≤ H1.size → (∀ q : Nat, q < H.size → ¬ A1 q → H1[q]? = H[q]?) → va_S A0 H0 H1 locs1 → W p l e R s m args below meth c H1 locs1 (cells + mc) (slots + ms) Q (F0 m (pc + 3) ls (.long r :: rest))) : W p l e R s m args below meth c H locs cells slots Q (F0 m pc ls st0) := by
  intro T hT X
  rcases hr T hT X with ⟨v, st₀, t, T', L, h0, X', hL, e1, e2, ⟨⟨r, u, hv, hp, hb⟩, hF⟩, st⟩ | ⟨q, st₀, t, T', L, E, ce, h0, X', hL, e1, e2, ⟨u, hp, hb, hF⟩, hce, hcv, hcl, st⟩
  · cases hv
    obtain ⟨k1, k2, k3⟩ := vx_keep h0 e1 hS hA hf hL hF
    obtain ⟨t2, a1, b1⟩ := kk r u t T'.heap (locs ++ L) e1.symm (by rw [← e2]; exact X'.warmed.alike) hp hb k1 k2 k3 T' rfl X'
    exact ⟨t2, st t2 a1, b1⟩
  · obtain ⟨k1, k2, k3⟩ := vx_keep h0 e1 hS hAX hf hL hF
    obtain ⟨t2, a1, b1⟩ := kx E ce q u t T'.heap (locs ++ L) e1.symm (by rw [← e2]; exact X'.warmed.alike) hp hb k1 k2 k3 (by rw [e1]; exact hce) hcv hcl T' rfl X'
    exact ⟨t2, st.trans a1, b1⟩
theorem vx_callf {S SX : Type} {post : UInt32 → S → Prop} {px : SX → Prop} {B : S → State → Prop} {BX : String → SX → State → Prop} {AX : Nat → Prop} (hr : vx_Run p l e R s m args below meth c H locs cells slots mc ms (F0 m pc ls st0) rest (va_Qf post B A1 a) (vx_X px BX AX) free) (hS : va_S A0 H0 H locs) (hA : ∀ q, q < H.size → A1 q → A0 q) (hf : ∀ q, free q → A0 q) (hAX : ∀ q, q < H.size → AX q → A0 q)
    (kx : ∀ (E : String) (ce : Cell) (q9 : Addr) (u : SX) (t : State) (H1 : Heap) (locs1 : List Loc), t.heap = H1 → s.vm.Alike t.vm → px u → BX E u t → H.size ≤ H1.size → (∀ q : Nat, q < H.size → ¬ AX q → H1[q]? = H[q]?) → va_S A0 H0 H1 locs1 → H1[q9]? = some ce → ce.vm = .none → s.vm.findClass E = some ce.cls → vx_W p l e R s m args below meth c H1 locs1 (cells + mc) (slots + ms) Q (F0 m pc ls rest) q9)
    (kk : ∀ (r : UInt32) (u : S) (t : State) (H1 : Heap) (locs1 : List Loc), t.heap = H1 → s.vm.Alike t.vm → post r u → B u t → H.size ≤ H1.size → (∀ q : Nat, q < H.size → ¬ A1 q → H1[q]? = H[q]?) → va_S A0 H0 H1 locs1 → W p l e R s m args below meth c H1 locs1 (cells + mc) (slots + ms) Q (F0 m (pc + 3) ls (.float r :: rest))) : W p l e R s m args below meth c H locs cells slots Q (F0 m pc ls st0) := by
  intro T hT X
  rcases hr T hT X with ⟨v, st₀, t, T', L, h0, X', hL, e1, e2, ⟨⟨r, u, hv, hp, hb⟩, hF⟩, st⟩ | ⟨q, st₀, t, T', L, E, ce, h0, X', hL, e1, e2, ⟨u, hp, hb, hF⟩, hce, hcv, hcl, st⟩
  · cases hv
    obtain ⟨k1, k2, k3⟩ := vx_keep h0 e1 hS hA hf hL hF
    obtain ⟨t2, a1, b1⟩ := kk r u t T'.heap (locs ++ L) e1.symm (by rw [← e2]; exact X'.warmed.alike) hp hb k1 k2 k3 T' rfl X'
    exact ⟨t2, st t2 a1, b1⟩
  · obtain ⟨k1, k2, k3⟩ := vx_keep h0 e1 hS hAX hf hL hF
    obtain ⟨t2, a1, b1⟩ := kx E ce q u t T'.heap (locs ++ L) e1.symm (by rw [← e2]; exact X'.warmed.alike) hp hb k1 k2 k3 (by rw [e1]; exact hce) hcv hcl T' rfl X'
    exact ⟨t2, st.trans a1, b1⟩
theorem vx_calld {S SX : Type} {post : UInt64 → S → Prop} {px : SX → Prop} {B : S → State → Prop} {BX : String → SX → State → Prop} {AX : Nat → Prop} (hr : vx_Run p l e R s m args below meth c H locs cells slots mc ms (F0 m pc ls st0) rest (va_Qd post B A1 a) (vx_X px BX AX) free) (hS : va_S A0 H0 H locs) (hA : ∀ q, q < H.size → A1 q → A0 q) (hf : ∀ q, free q → A0 q) (hAX : ∀ q, q < H.size → AX q → A0 q)
    (kx : ∀ (E : String) (ce : Cell) (q9 : Addr) (u : SX) (t : State) (H1 : Heap) (locs1 : List Loc), t.heap = H1 → s.vm.Alike t.vm → px u → BX E u t → H.size ≤ H1.size → (∀ q : Nat, q < H.size → ¬ AX q → H1[q]? = H[q]?) → va_S A0 H0 H1 locs1 → H1[q9]? = some ce → ce.vm = .none → s.vm.findClass E = some ce.cls → vx_W p l e R s m args below meth c H1 locs1 (cells + mc) (slots + ms) Q (F0 m pc ls rest) q9)
    (kk : ∀ (r : UInt64) (u : S) (t : State) (H1 : Heap) (locs1 : List Loc), t.heap = H1 → s.vm.Alike t.vm → post r u → B u t → H.size ≤ H1.size → (∀ q : Nat, q < H.size → ¬ A1 q → H1[q]? = H[q]?) → va_S A0 H0 H1 locs1 → W p l e R s m args below meth c H1 locs1 (cells + mc) (slots + ms) Q (F0 m (pc + 3) ls (.double r :: rest))) : W p l e R s m args below meth c H locs cells slots Q (F0 m pc ls st0) := by
  intro T hT X
  rcases hr T hT X with ⟨v, st₀, t, T', L, h0, X', hL, e1, e2, ⟨⟨r, u, hv, hp, hb⟩, hF⟩, st⟩ | ⟨q, st₀, t, T', L, E, ce, h0, X', hL, e1, e2, ⟨u, hp, hb, hF⟩, hce, hcv, hcl, st⟩
  · cases hv
    obtain ⟨k1, k2, k3⟩ := vx_keep h0 e1 hS hA hf hL hF
    obtain ⟨t2, a1, b1⟩ := kk r u t T'.heap (locs ++ L) e1.symm (by rw [← e2]; exact X'.warmed.alike) hp hb k1 k2 k3 T' rfl X'
    exact ⟨t2, st t2 a1, b1⟩
  · obtain ⟨k1, k2, k3⟩ := vx_keep h0 e1 hS hAX hf hL hF
    obtain ⟨t2, a1, b1⟩ := kx E ce q u t T'.heap (locs ++ L) e1.symm (by rw [← e2]; exact X'.warmed.alike) hp hb k1 k2 k3 (by rw [e1]; exact hce) hcv hcl T' rfl X'
    exact ⟨t2, st.trans a1, b1⟩
theorem vx_callv {S SX : Type} {post : S → Prop} {px : SX → Prop} {B : S → State → Prop} {BX : String → SX → State → Prop} {AX : Nat → Prop} (hr : vx_Run p l e R s m args below meth c H locs cells slots mc ms (F0 m pc ls st0) rest (va_Qv post B A1 a) (vx_X px BX AX) free) (hS : va_S A0 H0 H locs) (hA : ∀ q, q < H.size → A1 q → A0 q) (hf : ∀ q, free q → A0 q) (hAX : ∀ q, q < H.size → AX q → A0 q)
    (kx : ∀ (E : String) (ce : Cell) (q9 : Addr) (u : SX) (t : State) (H1 : Heap) (locs1 : List Loc), t.heap = H1 → s.vm.Alike t.vm → px u → BX E u t → H.size ≤ H1.size → (∀ q : Nat, q < H.size → ¬ AX q → H1[q]? = H[q]?) → va_S A0 H0 H1 locs1 → H1[q9]? = some ce → ce.vm = .none → s.vm.findClass E = some ce.cls → vx_W p l e R s m args below meth c H1 locs1 (cells + mc) (slots + ms) Q (F0 m pc ls rest) q9)
    (kk : ∀ (u : S) (t : State) (H1 : Heap) (locs1 : List Loc), t.heap = H1 → s.vm.Alike t.vm → post u → B u t → H.size ≤ H1.size → (∀ q : Nat, q < H.size → ¬ A1 q → H1[q]? = H[q]?) → va_S A0 H0 H1 locs1 → W p l e R s m args below meth c H1 locs1 (cells + mc) (slots + ms) Q (F0 m (pc + 3) ls (rest))) : W p l e R s m args below meth c H locs cells slots Q (F0 m pc ls st0) := by
  intro T hT X
  rcases hr T hT X with ⟨v, st₀, t, T', L, h0, X', hL, e1, e2, ⟨⟨u, hv, hp, hb⟩, hF⟩, st⟩ | ⟨q, st₀, t, T', L, E, ce, h0, X', hL, e1, e2, ⟨u, hp, hb, hF⟩, hce, hcv, hcl, st⟩
  · cases hv
    obtain ⟨k1, k2, k3⟩ := vx_keep h0 e1 hS hA hf hL hF
    obtain ⟨t2, a1, b1⟩ := kk u t T'.heap (locs ++ L) e1.symm (by rw [← e2]; exact X'.warmed.alike) hp hb k1 k2 k3 T' rfl X'
    exact ⟨t2, st t2 a1, b1⟩
  · obtain ⟨k1, k2, k3⟩ := vx_keep h0 e1 hS hAX hf hL hF
    obtain ⟨t2, a1, b1⟩ := kx E ce q u t T'.heap (locs ++ L) e1.symm (by rw [← e2]; exact X'.warmed.alike) hp hb k1 k2 k3 (by rw [e1]; exact hce) hcv hcl T' rfl X'
    exact ⟨t2, st.trans a1, b1⟩
/-- caught by the row x of this method's table; the rows ahead don't take it -/
theorem vx_catch {own name : String} {E : String} {ce : Cell} {q : Addr} (hown : s.vm.findClass own = some m.cls) (pre : List ExceptionTableEntry) (x : ExceptionTableEntry) (suf : List ExceptionTableEntry) (hsplit : c.exceptionTable.toList = pre ++ x :: suf)
    (hpass : ∀ z ∈ pre, covers z pc = false ∨ (z.catchType ≠ 0 ∧ ∃ nm : String, (Cond.classLink own z.catchType nm).before args s = true ∧ va_Nc E nm s)) (hx : covers x pc = true) (h0 : x.catchType ≠ 0)
    (hlink : (Cond.classLink own x.catchType name).before args s = true) (hcast : (Cond.castable E name).before args s = true) (hcell : H[q]? = some ce) (hv : ce.vm = .none) (hcl : s.vm.findClass E = some ce.cls)
    (kk : W p l e R s m args below meth c H locs cells slots Q (F0 m x.handlerPc ls [.ref q])) : vx_W p l e R s m args below meth c H locs cells slots Q (F0 m pc ls rest) q := by
  intro T hT X
  have hpl : e.platform.magicAccessors = ({} : Platform).magicAccessors := by rw [X.admits.platform]
  obtain ⟨c3, c4, hc3, hc4, hasg⟩ := Cond.castable_spec hcast
  cases Option.some.inj (hc3.symm.trans hcl)
  obtain ⟨c5, hc5, hcl5⟩ := Cond.classLink_spec hown hlink e.platform hpl
  cases Option.some.inj (hc4.symm.trans hc5)
  obtain ⟨vm', X', st⟩ := X.thenCaughtThrough q (g := F0 m pc ls rest) rfl (Steps.refl _) (by rw [hT]; exact hcell) (by rw [hv]; rfl) (by obtain ⟨k9, h9, -⟩ := Vm.findClass_spec hcl; exact ⟨k9, h9⟩) pre x suf hsplit
    (fun z hz => by
      rcases hpass z hz with h | ⟨hz0, nm, hl1, hn1⟩
      · exact Or.inl h
      · obtain ⟨c6, hc6, hcl6⟩ := Cond.classLink_spec hown hl1 e.platform hpl
        obtain ⟨a8, b8, h1, h2, h3⟩ := hn1
        cases Option.some.inj (h1.symm.trans hcl)
        cases Option.some.inj (h2.symm.trans hc6)
        exact Or.inr ⟨hz0, _, hcl6, h3⟩) hx (Or.inr ⟨h0, c4, hcl5, hasg⟩)
  obtain ⟨t, a1, b1⟩ := kk (T.setVm vm') hT X'
  exact ⟨t, st.trans a1, b1⟩
end Rows
section Ends
variable {p : Program} {l : Launch} {e : Env} {R : Room} {s : State} {m : MethodId} {args : Array Value} {below : List Frame} {meth : Method} {c : Code} {H : Heap} {locs : List Loc} {cells slots : Nat} {Q : State → Prop}
variable {mc ms : Nat} {free : Addr → Prop} {A0 A1 : Nat → Prop} {H0 : Heap} {a : Array Value} {ls : Array Slot} {st0 rest : List Value}
variable {Qc : Array Value → State → Outcome → State → Prop} {XC : String → State → State → Prop}
/-- what a body that may throw owes at its end -/
def vx_MQ (below : List Frame) (Qc : Array Value → State → Outcome → State → Prop) (XC : String → State → State → Prop) (a : Array Value) (s : State) (mc ms : Nat) (free : Addr → Prop) : State → Prop := fun t =>
  ∃ o, t.status = .running ∧ Ended t below o ∧ vx_Q Qc XC mc ms free a s o t
theorem vx_ret {g : JFrame} {mc ms : Nat} (k : W p l e R s m args below meth c H locs cells slots (MQ below Qc args s mc ms free) g) : W p l e R s m args below meth c H locs cells slots (vx_MQ below Qc XC args s mc ms free) g := by
  intro T hT X
  obtain ⟨t, a1, o, b1, b2, b3, b4⟩ := k T hT X
  exact ⟨t, a1, o, b1, b2, Or.inl ⟨b3, b4⟩⟩
/-- not caught here: it goes on to the caller -/
theorem vx_widen {g : JFrame} {q : Addr} {k n : Nat} (h1 : cells ≤ k) (h2 : slots ≤ n) (kk : vx_W p l e R s m args below meth c H locs k n Q g q) : vx_W p l e R s m args below meth c H locs cells slots Q g q := fun T hT X => kk T hT (stand_widen X h1 h2)
theorem vx_out {pc : Nat} {E : String} {ce : Cell} {q : Addr} {mc ms : Nat} (hout : ∀ x ∈ c.exceptionTable.toList, covers x pc = false) (hlocks : meth.locks = false) (hcell : H[q]? = some ce) (hv : ce.vm = .none) (hcl : s.vm.findClass E = some ce.cls)
    (hx : ∀ t : State, t.heap = H → s.vm.Alike t.vm → XC E s t) (hf : ∀ z ∈ locs, free z.base) (hc : cells ≤ mc) (hs : slots ≤ ms) :
    vx_W p l e R s m args below meth c H locs cells slots (vx_MQ below Qc XC args s mc ms free) (F0 m pc ls rest) q := by
  intro T hT X
  obtain ⟨st1, hrun, hend, hW, hsm⟩ := X.leaveThrown q (g := F0 m pc ls rest) rfl rfl rfl hout hlocks
  have hcell9 : (T.setFrames (.throwing q :: below)).heap[q]? = some ce := by
    show T.heap[q]? = some ce
    rw [hT]; exact hcell
  exact ⟨_, st1, .threw q, hrun, hend, Or.inr ⟨q, rfl, E, ce, locs, hx _ hT hW.alike, hcell9, hv, hcl, hW, hsm.mono hc hs, hf⟩⟩
theorem vx_frame {U : State} {k n : Nat} (h : s.sameButNew ({ U with vm := s.vm } : State) locs k n) : s.heap.size ≤ U.heap.size ∧ ∀ q : Nat, q < s.heap.size → (∀ z ∈ locs, z.base ≠ q) → U.heap[q]? = s.heap[q]? := by
  obtain ⟨-, h2, -, -, -, h6⟩ := h
  refine ⟨h2, fun q hq hz => ?_⟩
  obtain ⟨c9, e1, e2, e3, e4⟩ := h6 q _ (Array.getElem?_eq_getElem hq)
  have hs : c9.slots = (s.heap[q]).slots := Array.ext_getElem? fun i => e4 i fun hm => hz _ hm rfl
  have h9 : c9 = s.heap[q] := by
    rw [hs] at e2
    exact e2
  have e5 : U.heap[q]? = some c9 := e1
  rw [e5, h9, Array.getElem?_eq_getElem hq]
/-- the words of a throw but the four that speak of the heap -/
def vx_no (w : Cond) : Bool := decide (w ≠ .isRef (.static Bundle.tN "UNASSIGNED_STACK" Bundle.steD)) && decide (w ≠ .isRef (.static Bundle.tN "SUPPRESSED_SENTINEL" Bundle.listD)) && decide (w ≠ .laysStatic Bundle.tN "UNASSIGNED_STACK" Bundle.steD) && decide (w ≠ .laysStatic Bundle.tN "SUPPRESSED_SENTINEL" Bundle.listD)
def vx_at0 (own : String) (ic : Nat) (X : String) (names : List String) : List Cond := (Bundle.ownAtoms0 own ic X names).filter vx_no
def vx_atS (own : String) (ic : Nat) (X : String) (names : List String) : List Cond := (Bundle.ownAtoms own ic X names).filter vx_no
/-- a word that the tables alone decide, or a good one -/
def vx_ot (w : Cond) : Bool := w.onTables || goodWord w
theorem vx_ot_at {args a' : Array Value} {s U : State} {w : Cond} (hW : s.WarmedH U.vm) (hvm : s.vm = U.vm) (hg : vx_ot w = true) (h : w.before args s = true) : w.before a' U = true := by
  simp only [vx_ot, Bool.or_eq_true] at hg
  rcases hg with hg | hg
  · exact va_tabs hg hvm h
  · exact word_at hW (good_of_word hg) h
/-- a list's words: the good ones out of the method's own list, the others by premises of their own -/
theorem vx_hat {args : Array Value} {s : State} {L B : List Cond} (h1 : ∀ w ∈ L.filter goodWord, w.before args s = true) (h2 : ∀ w ∈ L.filter (fun w => !goodWord w), w ∈ B) (h3 : ∀ w ∈ B, w.before args s = true) : ∀ w ∈ L, w.before args s = true := by
  intro w hw
  by_cases g : goodWord w = true
  · exact h1 w (List.mem_filter.mpr ⟨hw, g⟩)
  · refine h3 w (h2 w (List.mem_filter.mpr ⟨hw, ?_⟩))
    show (!goodWord w) = true
    cases hgw : goodWord w
    · rfl
    · exact absurd hgw g
theorem vx_c {args : Array Value} {s : State} {w : Cond} {B : List Cond} (h : w.before args s = true) (t : ∀ w ∈ B, w.before args s = true) : ∀ w' ∈ w :: B, w'.before args s = true := fun w' h' => (List.mem_cons.mp h').elim (fun e => by rw [e]; exact h) (t w')
theorem vx_n {args : Array Value} {s : State} : ∀ w ∈ ([] : List Cond), w.before args s = true := fun _ h => nomatch h
theorem vx_own {args : Array Value} {s : State} {L : List Cond} (h1 : ∀ w ∈ L.filter vx_no, w.before args s = true)
    (hU : (Cond.isRef (.static Bundle.tN "UNASSIGNED_STACK" Bundle.steD)).before args s = true) (hN : (Cond.isRef (.static Bundle.tN "SUPPRESSED_SENTINEL" Bundle.listD)).before args s = true)
    (lU : (Cond.laysStatic Bundle.tN "UNASSIGNED_STACK" Bundle.steD).before args s = true) (lN : (Cond.laysStatic Bundle.tN "SUPPRESSED_SENTINEL" Bundle.listD).before args s = true) : ∀ w ∈ L, w.before args s = true := by
  intro w hw
  by_cases e1 : w = .isRef (.static Bundle.tN "UNASSIGNED_STACK" Bundle.steD)
  · rw [e1]; exact hU
  · by_cases e2 : w = .isRef (.static Bundle.tN "SUPPRESSED_SENTINEL" Bundle.listD)
    · rw [e2]; exact hN
    · by_cases e3 : w = .laysStatic Bundle.tN "UNASSIGNED_STACK" Bundle.steD
      · rw [e3]; exact lU
      · by_cases e4 : w = .laysStatic Bundle.tN "SUPPRESSED_SENTINEL" Bundle.listD
        · rw [e4]; exact lN
        · exact h1 w (List.mem_filter.mpr ⟨hw, by unfold vx_no; rw [decide_eq_true e1, decide_eq_true e2, decide_eq_true e3, decide_eq_true e4]; rfl⟩)
/-- where a static field lies, its class's statics cell in H -/
def vx_L (C n d : String) (A : Nat → Prop) (U : State) (H : Heap) : Prop := ∃ (c : ClassId) (k : Class) (i : Nat) (f : Field) (a : Nat) (cell : Cell), U.vm.findClass C = some c ∧ U.fieldFound? C n d = some (c, k, i, f) ∧ f.isStatic = true ∧ k.statics = some a ∧ H[a]? = some cell ∧ cell.vm.isStatics = true ∧ cell.cls = c ∧ f.slot < cell.slots.size ∧ k.staticTypes[f.slot]? = some f.type ∧ ¬ A a
theorem vx_L.moved {C n d : String} {A : Nat → Prop} {u U : State} {H : Heap} (hvm : u.vm.Alike U.vm) (h : vx_L C n d A u H) : vx_L C n d A U H := by
  obtain ⟨c, k, i, f, a, cell, h1, h2, h3, h4, h5, h6, h7, h8, h9, h10⟩ := h
  obtain ⟨k', hi', he⟩ := State.fieldFound?_setVm hvm h2
  exact ⟨c, k', i, f, a, cell, by rw [hvm.findClass]; exact h1, hi', h3, by rw [he]; exact h4, h5, h6, h7, h8, by rw [he]; exact h9, h10⟩
theorem vx_L.kept {C n d : String} {A : Nat → Prop} {U : State} {H H1 : Heap} (h : vx_L C n d A U H) (hq : ∀ a : Nat, a < H.size → ¬ A a → H1[a]? = H[a]?) : vx_L C n d A U H1 := by
  obtain ⟨c, k, i, f, a, cell, h1, h2, h3, h4, h5, h6, h7, h8, h9, h10⟩ := h
  exact ⟨c, k, i, f, a, cell, h1, h2, h3, h4, by rw [hq a (Array.getElem?_eq_some_iff.mp h5).1 h10]; exact h5, h6, h7, h8, h9, h10⟩
theorem vx_L.narrow {C n d : String} {A B : Nat → Prop} {U : State} {H : Heap} (h : vx_L C n d A U H) (hAB : ∀ q, B q → A q) : vx_L C n d B U H := by
  obtain ⟨c, k, i, f, a, cell, h1, h2, h3, h4, h5, h6, h7, h8, h9, h10⟩ := h
  exact ⟨c, k, i, f, a, cell, h1, h2, h3, h4, h5, h6, h7, h8, h9, fun z => h10 (hAB _ z)⟩
theorem vx_L.word {C n d : String} {A : Nat → Prop} {s : State} {args : Array Value} (h : vx_L C n d A s s.heap) : (Cond.laysStatic C n d).before args s = true := by
  obtain ⟨c, k, i, f, a, cell, h1, h2, h3, h4, h5, h6, h7, h8, h9, -⟩ := h
  show (Cond.laysStatic C n d).holds args s none s [] = true
  exact Cond.laysStatic_of h1 h2 h3 h4 h5 h6 h7 h8 h9
/-- .. and what it holds: null or some reference -/
def vx_Zq (C n d : String) (A : Nat → Prop) (U : State) (H : Heap) : Prop := va_Zq C n d A U H ∧ vx_L C n d A U H
theorem vx_Zq.moved {C n d : String} {A : Nat → Prop} {u U : State} {H : Heap} (hvm : u.vm.Alike U.vm) (h : vx_Zq C n d A u H) : vx_Zq C n d A U H := ⟨va_Zq.moved hvm h.1, vx_L.moved hvm h.2⟩
theorem vx_Zq.kept {C n d : String} {A : Nat → Prop} {U : State} {H H1 : Heap} (h : vx_Zq C n d A U H) (hq : ∀ a : Nat, a < H.size → ¬ A a → H1[a]? = H[a]?) : vx_Zq C n d A U H1 := ⟨va_Zq.kept h.1 hq, vx_L.kept h.2 hq⟩
theorem vx_Zq.narrow {C n d : String} {A B : Nat → Prop} {U : State} {H : Heap} (h : vx_Zq C n d A U H) (hAB : ∀ q, B q → A q) : vx_Zq C n d B U H := ⟨va_Zq.narrow h.1 hAB, vx_L.narrow h.2 hAB⟩
theorem vx_Zqof {args : Array Value} {s : State} {C n d : String} {A : Nat → Prop} (hl : (Cond.laysStatic C n d).before args s = true) (hini : (Cond.initialized C).before args s = true) (h : (Cond.isRef (.static C n d)).before args s = true) (hA : ∀ a : Nat, a < s.heap.size → ¬ A a) : vx_Zq C n d A s s.heap := by
  refine ⟨va_Zqof hl hini h hA, ?_⟩
  obtain ⟨c, k, i, f, a, cell, h1, h2, h3, h4, h5, h6, h7, h8, h9⟩ := Cond.laysStatic_spec hl
  exact ⟨c, k, i, f, a, cell, h1, h2, h3, h4, h5, h6, h7, h8, h9, hA a (Array.getElem?_eq_some_iff.mp h5).1⟩
theorem vx_isRef {C n d : String} {v : Value} {A : Nat → Prop} {s : State} {args : Array Value} (h : va_Z C n d v A s s.heap) (hv : v.isRef = true) : (Cond.isRef (.static C n d)).before args s = true := by
  obtain ⟨cf, kf, fi, f, a, cell, h1, h2, h3, h4, h5, h6, h7, -⟩ := h
  have he : (Term.static C n d).eval args s none [] s = some v := by
    simp [Term.eval, State.fieldNamed?, h1, h2, h4, h5, h6, h7]
  simp only [Cond.before, Cond.holds, Cond.value, he]
  cases v <;> simp_all [Value.isRef]
theorem vx_isRefq {C n d : String} {A : Nat → Prop} {s : State} {args : Array Value} (h : va_Zq C n d A s s.heap) : (Cond.isRef (.static C n d)).before args s = true := by
  rcases h with h | ⟨t, h⟩
  · exact vx_isRef h rfl
  · exact vx_isRef h rfl
/-- the same frame, seen from here: as if the method were called anew in this heap -/
theorem vx_rebase {T : State} (X : Stand p l e R s m args below meth c T locs cells slots) {R' : Room} (hf : R'.frames ≤ R.frames) (hl : R'.locals ≤ R.locals) (hc : cells + R'.cells ≤ R.cells) (hs : slots + R'.slots ≤ R.slots) :
    Stand p l e R' ((T.setVm s.vm).setFrames (.invoking m args :: below)) m args below meth c T [] 0 0 := by
  have htop : (T.setVm s.vm).topJava?.isSome := X.here.top
  have hF : ((T.setVm s.vm).setFrames (.invoking m args :: below)).frames = .invoking m args :: below := State.frames_setFrames _ (State.cur_lt_of_top htop)
  obtain ⟨g₀, hg0⟩ := Option.isSome_iff_exists.mp htop
  obtain ⟨r, hr⟩ := State.topJava?_eq_some.mp hg0
  have hl9 : e.platform.stackLimits (T.setVm s.vm).me = e.platform.stackLimits s.me := X.limits
  have hb9 : (T.setVm s.vm).me.stackBytes = s.me.stackBytes := X.bytes
  refine ⟨X.admits, X.cas, X.clock, hF, ?_, X.hears, X.method, X.code, X.here, X.tail, X.warmed, ?_, ?_, ?_⟩
  · have h := X.room
    have hU : ((T.setVm s.vm).setFrames (.invoking m args :: below)).localsInUse = s.localsInUse := by
      rw [State.localsInUse_invoking hF (meth := meth) (c := c) X.method X.code, State.localsInUse_invoking X.frames X.method X.code]
    simp only [State.hasRoom, Bool.and_eq_true, decide_eq_true_eq] at h ⊢
    obtain ⟨⟨⟨⟨h1, h2, h3, h4, h5, h6⟩, h7⟩, h8⟩, h9⟩ := h
    rw [X.frames, List.length_cons] at h2 h3
    have q1 := X.heapSize
    have q2 := X.used
    simp only [hF, hU, List.length_cons, State.stackLimits_setFrames, State.stackBytes_setFrames, hl9, hb9]
    refine ⟨⟨⟨⟨by omega, by omega, by omega, by omega, by omega, h6⟩, ?_⟩, ?_⟩, X.book⟩
    · show T.heap.size + R'.cells ≤ e.platform.maxCells
      omega
    · show T.slotsUsed + R'.slots ≤ e.platform.maxSlots
      omega
  · rw [State.stackLimits_setFrames]; rfl
  · rw [State.stackBytes_setFrames]; rfl
  · refine ⟨?_, Nat.le_refl _, Nat.le_refl _, ?_, ?_, fun a c9 h9 => ⟨c9, h9, rfl, rfl, fun _ _ => rfl⟩⟩
    · obtain ⟨t, ht, -⟩ := State.frames_cons hr
      show T.setVm s.vm = { ((T.setVm s.vm).setFrames (.invoking m args :: below)).setFrames (T.setVm s.vm).frames with heap := T.heap, slotsUsed := T.slotsUsed }
      rw [State.setFrames_setFrames, State.setFrames_self ht]
      rfl
    · show T.slotsUsed = T.slotsUsed + ((T.heap.toList.drop T.heap.size).map (·.slots.size)).sum
      rw [List.drop_eq_nil_of_le (Nat.le_of_eq Array.length_toList)]
      rfl
    · show ((T.heap.toList.drop T.heap.size).map (·.slots.size)).sum ≤ 0
      rw [List.drop_eq_nil_of_le (Nat.le_of_eq Array.length_toList)]
      exact Nat.le_refl _
/-- 'throw new E()': new; dup; invokespecial; athrow -/
theorem vx_throw0 {cc : ByteArray} {pc : Nat} (hexec : p.tables.exec = Jvm.exec) (hb : c.code = cc) (hl : l.stackTraces = false) {own cls : String} {names : List String} {ik ic mc ms : Nat} {A : Nat → Prop}
    (hown : s.vm.findClass own = some m.cls) (hcls : Bundle.fit cls = true) (hnames : ∀ n ∈ names, Bundle.fit n = true)
    (hk : (Cond.classLink own ik cls).before args s = true) (hini : (Cond.initialized cls).before args s = true) (hat : ∀ w ∈ vx_at0 own ic cls names, w.before args s = true)
    (hgood : ∀ w ∈ Cond.classLink own ik cls :: Cond.initialized cls :: vx_at0 own ic cls names, vx_ot w = true)
    (hU : vx_Zq Bundle.tN "UNASSIGNED_STACK" Bundle.steD A s s.heap) (hN : vx_Zq Bundle.tN "SUPPRESSED_SENTINEL" Bundle.listD A s s.heap) (hS : va_S A s.heap H locs) (hsize : ls.size = c.maxLocals)
    (d0 : decode cc pc = .ok (.new ik, 3)) (d3 : decode cc (pc + 3) = .ok (.dup, 1)) (d4 : decode cc (pc + 4) = .ok (.invokespecial ic, 3)) (d7 : decode cc (pc + 7) = .ok (.athrow, 1))
    (hout : ∀ x ∈ c.exceptionTable.toList, covers x (pc + 7) = false)
    (hRframes : names.length + 3 < R.frames) (hRlocals : (rest.map fun v => v.category).sum + (13 * (names.length + 1) + 42) ≤ R.locals) (hRcells : cells + 1 ≤ R.cells) (hRslots : slots + 6 ≤ R.slots) (hlocks : meth.locks = false)
    (hx : ∀ t : State, s.vm.Alike t.vm → H.size ≤ t.heap.size → (∀ q : Nat, q < H.size → t.heap[q]? = H[q]?) → XC cls s t)
    (hf : ∀ z ∈ locs, free z.base) (hc : cells + 1 ≤ mc) (hs : slots + 6 ≤ ms) :
    W p l e R s m args below meth c H locs cells slots (vx_MQ below Qc XC args s mc ms free) (F0 m pc ls rest) := by
  intro T hT X
  have htr : e.platform.stackTraces = false := (show e.platform.stackTraces = l.stackTraces by rw [X.admits.platform]).trans hl
  have Y := vx_rebase X (R' := { frames := R.frames, locals := R.locals, cells := 1, slots := 6 }) (Nat.le_refl _) (Nat.le_refl _) hRcells hRslots
  obtain ⟨s', hA⟩ : ∃ z, z = (T.setVm s.vm).setFrames (.invoking m args :: below) := ⟨_, rfl⟩
  rw [← hA] at Y
  have hvm : s'.vm = s.vm := by rw [hA]; rfl
  have hhp : s'.heap = H := by rw [hA]; exact hT
  have hW0 : s.WarmedH s'.vm := by rw [hvm]; exact State.WarmedH.refl s
  have hat' : ∀ w ∈ vx_at0 own ic cls names, w.before args s' = true := fun w hw => vx_ot_at hW0 hvm.symm (hgood w (List.mem_cons_of_mem _ (List.mem_cons_of_mem _ hw))) (hat w hw)
  have hk' : (Cond.classLink own ik cls).before args s' = true := vx_ot_at hW0 hvm.symm (hgood _ List.mem_cons_self) hk
  have hini' : (Cond.initialized cls).before args s' = true := vx_ot_at hW0 hvm.symm (hgood _ (List.mem_cons_of_mem _ List.mem_cons_self)) hini
  have hU' : vx_Zq Bundle.tN "UNASSIGNED_STACK" Bundle.steD A s' s'.heap := by rw [hhp]; exact vx_Zq.moved hW0.alike (hU.kept hS.2.1)
  have hN' : vx_Zq Bundle.tN "SUPPRESSED_SENTINEL" Bundle.listD A s' s'.heap := by rw [hhp]; exact vx_Zq.moved hW0.alike (hN.kept hS.2.1)
  have h : ∀ w ∈ Bundle.ownAtoms0 own ic cls names, w.before args s' = true := vx_own hat' (vx_isRefq hU'.1) (vx_isRefq hN'.1) hU'.2.word hN'.2.word
  have hown' : s'.vm.findClass own = some m.cls := by rw [hvm]; exact hown
  have hins : (Cond.instantiable cls 6).before args s' = true := h _ (by simp [Bundle.ownAtoms0])
  obtain ⟨vm₁, cX, kX, hfX, hkX, -, -, X₁, st1⟩ := Y.newCold hexec (own := own) (C := cls) (index := ik) (n := 6) hown' hk' hins hini'
    (g := F0 m pc ls rest) rfl (by rw [hb]; exact d0) (Nat.le_refl _) (Nat.le_refl _)
  generalize hT1 : (T.setVm vm₁).pushCell { cls := cX, slots := kX.instanceTypes.map defaultValue, vm := .none } = T1 at X₁ st1
  have hcat : (Value.ref T.heap.size).category = 1 := rfl
  have hcellA : T1.heap[T.heap.size]? = some (freshCell cX kX) := by rw [← hT1]; exact State.heap_pushCell_size _ _
  have d3' : decode c.code (pc + 3) = .ok (.dup, 1) := by rw [hb]; exact d3
  obtain ⟨U, hsteps, hrun, hend, hW, hsame, ce, hce, hO⟩ := X₁.ctorThrow0 hexec htr (own := own) (cls := cls) (names := names) (ic := ic) hown' hcls hnames h (fun x hx => nomatch hx) hfX hkX hcellA (by rw [hhp, hT]; exact Nat.le_refl _)
    (g := { method := m, pc := pc + 4, locals := ls, stack := .ref T.heap.size :: .ref T.heap.size :: rest, locked := none }) rfl hsize rfl rfl (rest := rest) rfl
    (by rw [hb]; exact d4) (by rw [hb]; exact d7) hout hRframes (by simp only [List.map_cons, List.sum_cons, hcat]; omega) hlocks
  obtain ⟨f1, f2⟩ := vx_frame hsame
  rw [hhp] at f1 f2
  have hWs : s.WarmedH U.vm := State.WarmedH.trans hW0 hW
  have hcl : s.vm.findClass cls = some ce.cls := by
    have h9 := hO.cls
    rw [hvm] at h9
    exact h9
  have hall : s.sameButNew ({ U with vm := s.vm } : State) locs mc ms := by
    subst hA
    obtain ⟨e1, e2⟩ := hsame
    rw [State.setFrames_setFrames] at e1
    have h2 : (T.setVm s.vm).sameButNew ({ U with vm := s.vm } : State) [] (0 + 1) (0 + 6) := ⟨e1, e2⟩
    have h3 := X.same.trans h2
    rw [List.append_nil] at h3
    exact h3.mono hc hs
  refine ⟨U, ?_, .threw T.heap.size, hrun, hend, Or.inr ⟨T.heap.size, rfl, cls, ce, locs, hx U hWs.alike f1 (fun q hq => f2 q hq (fun z hz => nomatch hz)), hce, hO.vm, hcl, hWs, hall, hf⟩⟩
  refine st1 _ ?_
  show Steps p.tables e below (T1.setTop { method := m, pc := pc + 3, locals := ls, stack := .ref T.heap.size :: rest, locked := none }) _
  jvm_step X₁.here [X₁.here.top, hexec, d3', Value.category]
  exact hsteps
/-- 'throw new E("text")': new; dup; ldc; invokespecial; athrow -/
theorem vx_throwS {cc : ByteArray} {pc : Nat} (hexec : p.tables.exec = Jvm.exec) (hb : c.code = cc) (hl : l.stackTraces = false) {own cls text : String} {names : List String} {ik is ic mc ms sa : Nat} {A : Nat → Prop}
    (hown : s.vm.findClass own = some m.cls) (hcls : Bundle.fit cls = true) (hnames : ∀ n ∈ names, Bundle.fit n = true)
    (hk : (Cond.classLink own ik cls).before args s = true) (hini : (Cond.initialized cls).before args s = true) (hstr : vk_R own is text sa s) (hat : ∀ w ∈ vx_atS own ic cls names, w.before args s = true)
    (hgood : ∀ w ∈ Cond.classLink own ik cls :: Cond.initialized cls :: vx_atS own ic cls names, vx_ot w = true)
    (hU : vx_Zq Bundle.tN "UNASSIGNED_STACK" Bundle.steD A s s.heap) (hN : vx_Zq Bundle.tN "SUPPRESSED_SENTINEL" Bundle.listD A s s.heap) (hS : va_S A s.heap H locs) (hsize : ls.size = c.maxLocals)
    (d0 : decode cc pc = .ok (.new ik, 3)) (d3 : decode cc (pc + 3) = .ok (.dup, 1)) (d4 : decode cc (pc + 4) = .ok (.ldc is, 2)) (d6 : decode cc (pc + 6) = .ok (.invokespecial ic, 3)) (d9 : decode cc (pc + 9) = .ok (.athrow, 1))
    (hout : ∀ x ∈ c.exceptionTable.toList, covers x (pc + 9) = false)
    (hRframes : names.length + 3 < R.frames) (hRlocals : (rest.map fun v => v.category).sum + (13 * (names.length + 1) + 43) ≤ R.locals) (hRcells : cells + 1 ≤ R.cells) (hRslots : slots + 6 ≤ R.slots) (hlocks : meth.locks = false)
    (hx : ∀ t : State, s.vm.Alike t.vm → H.size ≤ t.heap.size → (∀ q : Nat, q < H.size → t.heap[q]? = H[q]?) → XC cls s t)
    (hf : ∀ z ∈ locs, free z.base) (hc : cells + 1 ≤ mc) (hs : slots + 6 ≤ ms) :
    W p l e R s m args below meth c H locs cells slots (vx_MQ below Qc XC args s mc ms free) (F0 m pc ls rest) := by
  intro T hT X
  have htr : e.platform.stackTraces = false := (show e.platform.stackTraces = l.stackTraces by rw [X.admits.platform]).trans hl
  have Y := vx_rebase X (R' := { frames := R.frames, locals := R.locals, cells := 1, slots := 6 }) (Nat.le_refl _) (Nat.le_refl _) hRcells hRslots
  obtain ⟨s', hA⟩ : ∃ z, z = (T.setVm s.vm).setFrames (.invoking m args :: below) := ⟨_, rfl⟩
  rw [← hA] at Y
  have hvm : s'.vm = s.vm := by rw [hA]; rfl
  have hhp : s'.heap = H := by rw [hA]; exact hT
  have hW0 : s.WarmedH s'.vm := by rw [hvm]; exact State.WarmedH.refl s
  have hat' : ∀ w ∈ vx_atS own ic cls names, w.before args s' = true := fun w hw => vx_ot_at hW0 hvm.symm (hgood w (List.mem_cons_of_mem _ (List.mem_cons_of_mem _ hw))) (hat w hw)
  have hk' : (Cond.classLink own ik cls).before args s' = true := vx_ot_at hW0 hvm.symm (hgood _ List.mem_cons_self) hk
  have hini' : (Cond.initialized cls).before args s' = true := vx_ot_at hW0 hvm.symm (hgood _ (List.mem_cons_of_mem _ List.mem_cons_self)) hini
  have hU' : vx_Zq Bundle.tN "UNASSIGNED_STACK" Bundle.steD A s' s'.heap := by rw [hhp]; exact vx_Zq.moved hW0.alike (hU.kept hS.2.1)
  have hN' : vx_Zq Bundle.tN "SUPPRESSED_SENTINEL" Bundle.listD A s' s'.heap := by rw [hhp]; exact vx_Zq.moved hW0.alike (hN.kept hS.2.1)
  have h : ∀ w ∈ Bundle.ownAtoms own ic cls names, w.before args s' = true := vx_own hat' (vx_isRefq hU'.1) (vx_isRefq hN'.1) hU'.2.word hN'.2.word
  have hown' : s'.vm.findClass own = some m.cls := by rw [hvm]; exact hown
  have hins : (Cond.instantiable cls 6).before args s' = true := h _ (by simp [Bundle.ownAtoms])
  obtain ⟨vm₁, cX, kX, hfX, hkX, -, -, X₁, st1⟩ := Y.newCold hexec (own := own) (C := cls) (index := ik) (n := 6) hown' hk' hins hini'
    (g := F0 m pc ls rest) rfl (by rw [hb]; exact d0) (Nat.le_refl _) (Nat.le_refl _)
  generalize hT1 : (T.setVm vm₁).pushCell { cls := cX, slots := kX.instanceTypes.map defaultValue, vm := .none } = T1 at X₁ st1
  have hcat : (Value.ref T.heap.size).category = 1 := rfl
  have hcellA : T1.heap[T.heap.size]? = some (freshCell cX kX) := by rw [← hT1]; exact State.heap_pushCell_size _ _
  have d3' : decode c.code (pc + 3) = .ok (.dup, 1) := by rw [hb]; exact d3
  have d4' : decode c.code (pc + 4) = .ok (.ldc is, 2) := by rw [hb]; exact d4
  have hstr' : vk_R own is text sa s' := vk_R.warm hW0 hstr
  obtain ⟨U, hsteps, hrun, hend, hW, hsame, ce, hce, hO⟩ := X₁.ctorThrowS hexec htr (own := own) (cls := cls) (names := names) (ic := ic) hown' hcls hnames h (fun x hx => nomatch hx) hfX hkX hcellA (by rw [hhp, hT]; exact Nat.le_refl _) (msg := .ref sa) rfl
    (g := { method := m, pc := pc + 6, locals := ls, stack := .ref sa :: .ref T.heap.size :: .ref T.heap.size :: rest, locked := none }) rfl hsize rfl rfl (rest := rest) rfl
    (by rw [hb]; exact d6) (by rw [hb]; exact d9) hout hRframes (by simp only [List.map_cons, List.sum_cons, hcat]; omega) hlocks
  obtain ⟨f1, f2⟩ := vx_frame hsame
  rw [hhp] at f1 f2
  have hWs : s.WarmedH U.vm := State.WarmedH.trans hW0 hW
  have hcl : s.vm.findClass cls = some ce.cls := by
    have h9 := hO.cls
    rw [hvm] at h9
    exact h9
  have hall : s.sameButNew ({ U with vm := s.vm } : State) locs mc ms := by
    subst hA
    obtain ⟨e1, e2⟩ := hsame
    rw [State.setFrames_setFrames] at e1
    have h2 : (T.setVm s.vm).sameButNew ({ U with vm := s.vm } : State) [] (0 + 1) (0 + 6) := ⟨e1, e2⟩
    have h3 := X.same.trans h2
    rw [List.append_nil] at h3
    exact h3.mono hc hs
  refine ⟨U, ?_, .threw T.heap.size, hrun, hend, Or.inr ⟨T.heap.size, rfl, cls, ce, locs, hx U hWs.alike f1 (fun q hq => f2 q hq (fun z hz => nomatch hz)), hce, hO.vm, hcl, hWs, hall, hf⟩⟩
  refine st1 _ ?_
  show Steps p.tables e below (T1.setTop { method := m, pc := pc + 3, locals := ls, stack := .ref T.heap.size :: rest, locked := none }) _
  jvm_step X₁.here [X₁.here.top, hexec, d3', Value.category]
  exact X₁.ldcString hexec (own := own) (text := text) (index := is) (a := sa) hown' hstr'.1 hstr'.2
    (g := { method := m, pc := pc + 4, locals := ls, stack := .ref T.heap.size :: .ref T.heap.size :: rest, locked := none }) rfl d4' _ hsteps
/-- 'throw new E("text")', the text by a wide index -/
theorem vx_throwSW {cc : ByteArray} {pc : Nat} (hexec : p.tables.exec = Jvm.exec) (hb : c.code = cc) (hl : l.stackTraces = false) {own cls text : String} {names : List String} {ik is ic mc ms sa : Nat} {A : Nat → Prop}
    (hown : s.vm.findClass own = some m.cls) (hcls : Bundle.fit cls = true) (hnames : ∀ n ∈ names, Bundle.fit n = true)
    (hk : (Cond.classLink own ik cls).before args s = true) (hini : (Cond.initialized cls).before args s = true) (hstr : vk_R own is text sa s) (hat : ∀ w ∈ vx_atS own ic cls names, w.before args s = true)
    (hgood : ∀ w ∈ Cond.classLink own ik cls :: Cond.initialized cls :: vx_atS own ic cls names, vx_ot w = true)
    (hU : vx_Zq Bundle.tN "UNASSIGNED_STACK" Bundle.steD A s s.heap) (hN : vx_Zq Bundle.tN "SUPPRESSED_SENTINEL" Bundle.listD A s s.heap) (hS : va_S A s.heap H locs) (hsize : ls.size = c.maxLocals)
    (d0 : decode cc pc = .ok (.new ik, 3)) (d3 : decode cc (pc + 3) = .ok (.dup, 1)) (d4 : decode cc (pc + 4) = .ok (.ldc_w is, 3)) (d7 : decode cc (pc + 7) = .ok (.invokespecial ic, 3)) (d10 : decode cc (pc + 10) = .ok (.athrow, 1))
    (hout : ∀ x ∈ c.exceptionTable.toList, covers x (pc + 10) = false)
    (hRframes : names.length + 3 < R.frames) (hRlocals : (rest.map fun v => v.category).sum + (13 * (names.length + 1) + 43) ≤ R.locals) (hRcells : cells + 1 ≤ R.cells) (hRslots : slots + 6 ≤ R.slots) (hlocks : meth.locks = false)
    (hx : ∀ t : State, s.vm.Alike t.vm → H.size ≤ t.heap.size → (∀ q : Nat, q < H.size → t.heap[q]? = H[q]?) → XC cls s t)
    (hf : ∀ z ∈ locs, free z.base) (hc : cells + 1 ≤ mc) (hs : slots + 6 ≤ ms) :
    W p l e R s m args below meth c H locs cells slots (vx_MQ below Qc XC args s mc ms free) (F0 m pc ls rest) := by
  intro T hT X
  have htr : e.platform.stackTraces = false := (show e.platform.stackTraces = l.stackTraces by rw [X.admits.platform]).trans hl
  have Y := vx_rebase X (R' := { frames := R.frames, locals := R.locals, cells := 1, slots := 6 }) (Nat.le_refl _) (Nat.le_refl _) hRcells hRslots
  obtain ⟨s', hA⟩ : ∃ z, z = (T.setVm s.vm).setFrames (.invoking m args :: below) := ⟨_, rfl⟩
  rw [← hA] at Y
  have hvm : s'.vm = s.vm := by rw [hA]; rfl
  have hhp : s'.heap = H := by rw [hA]; exact hT
  have hW0 : s.WarmedH s'.vm := by rw [hvm]; exact State.WarmedH.refl s
  have hat' : ∀ w ∈ vx_atS own ic cls names, w.before args s' = true := fun w hw => vx_ot_at hW0 hvm.symm (hgood w (List.mem_cons_of_mem _ (List.mem_cons_of_mem _ hw))) (hat w hw)
  have hk' : (Cond.classLink own ik cls).before args s' = true := vx_ot_at hW0 hvm.symm (hgood _ List.mem_cons_self) hk
  have hini' : (Cond.initialized cls).before args s' = true := vx_ot_at hW0 hvm.symm (hgood _ (List.mem_cons_of_mem _ List.mem_cons_self)) hini
  have hU' : vx_Zq Bundle.tN "UNASSIGNED_STACK" Bundle.steD A s' s'.heap := by rw [hhp]; exact vx_Zq.moved hW0.alike (hU.kept hS.2.1)
  have hN' : vx_Zq Bundle.tN "SUPPRESSED_SENTINEL" Bundle.listD A s' s'.heap := by rw [hhp]; exact vx_Zq.moved hW0.alike (hN.kept hS.2.1)
  have h : ∀ w ∈ Bundle.ownAtoms own ic cls names, w.before args s' = true := vx_own hat' (vx_isRefq hU'.1) (vx_isRefq hN'.1) hU'.2.word hN'.2.word
  have hown' : s'.vm.findClass own = some m.cls := by rw [hvm]; exact hown
  have hins : (Cond.instantiable cls 6).before args s' = true := h _ (by simp [Bundle.ownAtoms])
  obtain ⟨vm₁, cX, kX, hfX, hkX, -, -, X₁, st1⟩ := Y.newCold hexec (own := own) (C := cls) (index := ik) (n := 6) hown' hk' hins hini'
    (g := F0 m pc ls rest) rfl (by rw [hb]; exact d0) (Nat.le_refl _) (Nat.le_refl _)
  generalize hT1 : (T.setVm vm₁).pushCell { cls := cX, slots := kX.instanceTypes.map defaultValue, vm := .none } = T1 at X₁ st1
  have hcat : (Value.ref T.heap.size).category = 1 := rfl
  have hcellA : T1.heap[T.heap.size]? = some (freshCell cX kX) := by rw [← hT1]; exact State.heap_pushCell_size _ _
  have d3' : decode c.code (pc + 3) = .ok (.dup, 1) := by rw [hb]; exact d3
  have d4' : decode c.code (pc + 4) = .ok (.ldc_w is, 3) := by rw [hb]; exact d4
  have hstr' : vk_R own is text sa s' := vk_R.warm hW0 hstr
  obtain ⟨U, hsteps, hrun, hend, hW, hsame, ce, hce, hO⟩ := X₁.ctorThrowS hexec htr (own := own) (cls := cls) (names := names) (ic := ic) hown' hcls hnames h (fun x hx => nomatch hx) hfX hkX hcellA (by rw [hhp, hT]; exact Nat.le_refl _) (msg := .ref sa) rfl
    (g := { method := m, pc := pc + 7, locals := ls, stack := .ref sa :: .ref T.heap.size :: .ref T.heap.size :: rest, locked := none }) rfl hsize rfl rfl (rest := rest) rfl
    (by rw [hb]; exact d7) (by rw [hb]; exact d10) hout hRframes (by simp only [List.map_cons, List.sum_cons, hcat]; omega) hlocks
  obtain ⟨f1, f2⟩ := vx_frame hsame
  rw [hhp] at f1 f2
  have hWs : s.WarmedH U.vm := State.WarmedH.trans hW0 hW
  have hcl : s.vm.findClass cls = some ce.cls := by
    have h9 := hO.cls
    rw [hvm] at h9
    exact h9
  have hall : s.sameButNew ({ U with vm := s.vm } : State) locs mc ms := by
    subst hA
    obtain ⟨e1, e2⟩ := hsame
    rw [State.setFrames_setFrames] at e1
    have h2 : (T.setVm s.vm).sameButNew ({ U with vm := s.vm } : State) [] (0 + 1) (0 + 6) := ⟨e1, e2⟩
    have h3 := X.same.trans h2
    rw [List.append_nil] at h3
    exact h3.mono hc hs
  refine ⟨U, ?_, .threw T.heap.size, hrun, hend, Or.inr ⟨T.heap.size, rfl, cls, ce, locs, hx U hWs.alike f1 (fun q hq => f2 q hq (fun z hz => nomatch hz)), hce, hO.vm, hcl, hWs, hall, hf⟩⟩
  refine st1 _ ?_
  show Steps p.tables e below (T1.setTop { method := m, pc := pc + 3, locals := ls, stack := .ref T.heap.size :: rest, locked := none }) _
  jvm_step X₁.here [X₁.here.top, hexec, d3', Value.category]
  exact X₁.ldcStringW hexec (own := own) (text := text) (index := is) (a := sa) hown' hstr'.1 hstr'.2
    (g := { method := m, pc := pc + 4, locals := ls, stack := .ref T.heap.size :: .ref T.heap.size :: rest, locked := none }) rfl d4' _ hsteps
end Ends
section Bodies
variable {l : Launch}
theorem vx_ofW {y : MethodName} {ws ws' : List Cond} {rm : Room} {Pc : Array Value → State → Prop} {Qc : Array Value → State → Outcome → State → Prop} {XC : String → State → State → Prop} {mc ms : Nat} {free : Addr → Prop} {cc : ByteArray} {maxL : Nat} {ret : Option FieldType}
    (hy : plainName y.cls = true) (hw : ws = Cond.code y cc maxL ret :: ws')
    (body : ∀ p e s m args below meth c s₁, BodyLoose p l y (headSpec ws rm) cc maxL ret e s m args below meth c s₁ → c.maxLocals = maxL → (∀ x ∈ c.exceptionTable.toList, False) → Pc args s →
      W p l e (headSpec ws rm).room s m args below meth c s.heap [] 0 0 (vx_MQ below Qc XC args s mc ms free) (entryFrame m args maxL)) : vx_Met l y ws rm Pc Qc XC mc ms free := by
  refine MetFree.of_bodyS (code := cc) (maxLocals := maxL) (ret := ret) hy ?_ ?_
  · intro args s m h hn
    obtain ⟨meth, c, h1, h2, h3, h4, h5, h6, -, -⟩ := Cond.code_spec hn (atoms_spec (ws := ws) h _ (by rw [hw]; exact List.mem_cons_self))
    exact ⟨meth, c, h1, h2, h3, h4, h5, h6⟩
  · intro p e s m args below meth c s₁ B hml hP _
    have hh0 : s₁.heap = s.heap := by rw [B.state]; rfl
    have ht : ∀ x ∈ c.exceptionTable.toList, False := by
      obtain ⟨meth9, c9, h1, h2, -, -, -, -, h7, -⟩ := Cond.code_spec B.named (atoms_spec (ws := ws) B.pre _ (by rw [hw]; exact List.mem_cons_self))
      cases Option.some.inj (h1.symm.trans B.method)
      cases Option.some.inj (h2.symm.trans (Stand.of_body B).code)
      intro x hx
      rw [Array.isEmpty_iff.mp h7] at hx
      cases hx
    obtain ⟨t, a1, o, b1, b2, b3⟩ := body p e s m args below meth c s₁ B hml ht hP s₁ hh0 (Stand.of_body B)
    exact ⟨t, o, a1, b1, b2, b3⟩
/-- the table of a body with handlers -/
theorem vx_table {p : Program} {x y : MethodName} {S : Spec} {cc bytes : ByteArray} {maxL maxL' : Nat} {ret ret' : Option FieldType} {e : Env} {s s₁ : State} {m : MethodId} {args : Array Value} {below : List Frame} {meth : Method} {c : Code} {hh : List (Nat × Nat × Nat × Nat)}
    (B : BodyLoose p l y S cc maxL ret e s m args below meth c s₁) (h : (Cond.codeWith y bytes maxL' ret' hh).before args s = true) : c.exceptionTable.toList = tableOf hh := by
  obtain ⟨m9, meth9, c9, hn9, h1, h2, -, -, h6, -⟩ := Cond.codeWith_spec h
  cases Option.some.inj (hn9.symm.trans B.named)
  cases Option.some.inj (h1.symm.trans B.method)
  cases Option.some.inj (h2.symm.trans (Stand.of_body B).code)
  rw [← h6, table_eq]
end Bodies
end VXA
/-! ===== END ===== -/
/-! ===== BEGIN a static call of a method with an exception table ===== -/
section VXS
variable {p : Program} {l : Launch} {e : Env} {R : Room} {s : State} {m : MethodId} {args : Array Value} {below : List Frame} {meth : Method} {c : Code} {T : State} {H : Heap} {locs : List Loc} {cells slots : Nat}
abbrev vx_CSW (R : Room) (s : State) (args : Array Value) (own : String) (index : Nat) (y : MethodName) (bytes : ByteArray) (maxL : Nat) (ret : Option FieldType) (hh : List (Nat × Nat × Nat × Nat)) (ws : List Cond) (rm : Room) (mc ms n : Nat) : Prop :=
  (rm.cells = mc ∧ rm.slots = ms ∧ rm.frames + 1 ≤ R.frames ∧ 8 + (maxL + 11) + rm.locals ≤ R.locals ∧ (∀ w ∈ ws, ∀ (a' : Array Value) (U : State), s.WarmedH U.vm → w.before a' U = true) ∧ Cond.codeWith y bytes maxL ret hh ∈ ws) ∧
  (Cond.codeWith y bytes maxL ret hh).before args s = true ∧ (Cond.initialized y.cls).before args s = true ∧ (y.cls ≠ "java/lang/invoke/MethodHandle" ∧ y.cls ≠ "java/lang/invoke/VarHandle") ∧
  (∀ sig, parseMethodDescriptor y.desc = some sig → n = sig.parameters.length) ∧ (Cond.methodLink own index y).before args s = true ∧ (Cond.static y).before args s = true
theorem vx_cwSW {own : String} {index maxL mc ms : Nat} {y : MethodName} {bytes : ByteArray} {ret : Option FieldType} {hh : List (Nat × Nat × Nat × Nat)} {Ts ws ws' : List Cond} {rm : Room} (n : Nat) (ht : ∀ w ∈ Ts, w.before args s = true) (hT : GoodIn Ts (va_wsS own index y ws)) (hw : ws = Cond.codeWith y bytes maxL ret hh :: ws') (hrc : rm.cells = mc) (hrs : rm.slots = ms)
    (hd : y.cls ≠ "java/lang/invoke/MethodHandle" ∧ y.cls ≠ "java/lang/invoke/VarHandle" ∧ (parseMethodDescriptor y.desc).map (fun d => d.parameters.length) = some n) (hR : rm.frames + 1 ≤ R.frames ∧ 8 + (maxL + 11) + rm.locals ≤ R.locals) :
    vx_CSW R s args own index y bytes maxL ret hh ws rm mc ms n := by
  have ok : ∀ w ∈ va_wsS own index y ws, w.before args s = true := fun w h => ht w (hT w h).1
  have hG : GoodIn Ts ws := fun w h => hT w (by unfold va_wsS; exact List.mem_append_right _ h)
  have hc : Cond.codeWith y bytes maxL ret hh ∈ ws := by rw [hw]; exact List.mem_cons_self
  refine ⟨⟨hrc, hrs, hR.1, hR.2, pay_in ht hG, hc⟩, ht _ (hG _ hc).1, ok _ (by simp [va_wsS]), ⟨hd.1, hd.2.1⟩, fun sig h => ?_, ok _ (by simp [va_wsS]), ok _ (by simp [va_wsS])⟩
  have h2 := hd.2.2
  rw [h] at h2
  exact (Option.some.inj h2).symm
theorem vx_callSW (X : Stand p l e R s m args below meth c T locs cells slots) (hexec : p.tables.exec = Jvm.exec) {own : String} {index : Nat} {y : MethodName} {bytes : ByteArray} {maxL : Nat} {ret : Option FieldType} {hh : List (Nat × Nat × Nat × Nat)}
    (hown : s.vm.findClass own = some m.cls) (hlink : (Cond.methodLink own index y).before args s = true) (hstat : (Cond.static y).before args s = true) (hinit : (Cond.initialized y.cls).before args s = true)
    (hcode : (Cond.codeWith y bytes maxL ret hh).before args s = true) (hy : y.cls ≠ "java/lang/invoke/MethodHandle" ∧ y.cls ≠ "java/lang/invoke/VarHandle")
    {W9 : Nat} {Pre : Pt → Array Value → Prop} {Post : Pt → Array Value → Option Value → Pt → Prop} (hK : Back l R p e below s args y 3 W9 Pre Post)
    {g : JFrame} (hg : g.method = m) (hsize : g.locals.size = c.maxLocals) {argsL rest : List Value} (hlen : ∀ sig, parseMethodDescriptor y.desc = some sig → argsL.length = sig.parameters.length)
    (hstack : g.stack = argsL.reverse ++ rest) (hW : 2 * g.monitorRoom + (rest.map fun v => v.category).sum ≤ W9) (hdg : decode c.code g.pc = .ok (.invokestatic index, 3))
    (hpre : ∀ vm₁, s.WarmedH vm₁ → Pre ⟨T.setVm vm₁, locs, cells, slots⟩ argsL.toArray) :
    ∃ (v : Option Value) (vm₁ : Vm) (B : Pt), s.WarmedH vm₁ ∧ Stand p l e R s m args below meth c B.U B.locs B.cells B.slots ∧ Post ⟨T.setVm vm₁, locs, cells, slots⟩ argsL.toArray v B ∧
      ∀ target, Steps p.tables e below (B.U.setTop { g with pc := g.pc + 3, stack := v.toList ++ rest }) target → Steps p.tables e below (T.setTop g) target := by
  obtain ⟨mk, methM, cM, hnamed, hmethM, -, -, -, -, -, -, hsigM⟩ := Cond.codeWith_spec hcode
  have hstatic : methM.isStatic = true := Cond.static_spec hnamed hmethM hstat
  obtain ⟨kP, hkP, -⟩ := className_of_methodNamed hnamed
  have hinitP : kP.init = .initialized := Cond.initialized_spec (findClass_of_methodNamed hnamed) hkP hinit
  obtain ⟨vm₁, X₁, hstep₁⟩ := X.invokestatic hexec hown hlink hnamed hmethM hstatic hkP hinitP hy (g := g) hg (argsL := argsL) (rest := rest) (hlen _ hsigM) hstack hdg
  obtain ⟨v, B, X', hpost, hsteps⟩ := hK m meth c ⟨T.setVm vm₁, locs, cells, slots⟩ { g with stack := rest } (.invokestatic index) mk argsL.toArray X₁ hg hsize hdg hW (X₁.named hnamed) (hpre vm₁ X₁.warmed)
  exact ⟨v, vm₁, B, X₁.warmed, X', hpost, fun target h => hstep₁ _ fun acts => by rw [doInvoke_state]; exact hsteps.trans h⟩
theorem vx_runSW {y : MethodName} {bytes cc : ByteArray} {maxL nL mc ms n index : Nat} {ret : Option FieldType} {hh : List (Nat × Nat × Nat × Nat)} {ws : List Cond} {rm : Room} {Pc : Array Value → State → Prop} {Qc : Array Value → State → Outcome → State → Prop} {free : Addr → Prop} {Ts : List Cond} {own : String} {As rest : List Value} {g : JFrame}
    (S : CallFix p m c cc nL s args Ts own) (hM : Met l y ws rm Pc Qc mc ms free) (cw : vx_CSW R s args own index y bytes maxL ret hh ws rm mc ms n) (hp : PreS s H Pc As)
    (hg : g.method = m) (hn : As.length = n) (hsize : g.locals.size = nL) (hstack : g.stack = As.reverse ++ rest) (hW : 2 * g.monitorRoom + (rest.map fun v => v.category).sum ≤ 8) (hdg : decode cc g.pc = .ok (.invokestatic index, 3)) (hf : cells + mc ≤ R.cells ∧ slots + ms ≤ R.slots) :
    va_Run p l e R s m args below meth c H locs cells slots mc ms g rest (Qc As.toArray) (free) := by
  obtain ⟨⟨hrc, hrs, hfr, hlo, hws, hcw⟩, hcode, hini, hy, hlen, hl, hstt⟩ := cw
  have hK : Back l R p e below s args y 3 8 (PreOf R mc ms Pc) (PostOf Qc mc ms free) := va_backW (hh := hh) (bytes := bytes) (maxL := maxL) (ret := ret) hM hp.1 hrc hrs hfr hlo hws hcw (fun a' U hW => word_at hW (Or.inl (by first | rfl | simp [Cond.onTables, Cond.keeps, Cond.steady])) hini)
  obtain ⟨hx, hb, hml, ho, -⟩ := S
  intro T hT X
  obtain ⟨v, vm₁, ⟨U', l2, c2, s2⟩, hW₁, X', ⟨g', mk, t, L, e1, e2, hq, h1, hL, h2, h3⟩, st⟩ := vx_callSW X hx (hh := hh) (bytes := bytes) (maxL := maxL) (ret := ret) ho hl hstt hini hcode hy hK hg (hsize.trans hml.symm) (argsL := As) (rest := rest) (fun sig h => hn.trans (hlen sig h)) hstack hW (by rw [hb]; exact hdg)
    (fun vm₁ hW₁ => ⟨hf.1, hf.2, hp.2 (T.setVm vm₁) hT hW₁⟩)
  dsimp only [Pt.U, Pt.locs, Pt.cells, Pt.slots] at X' e1 e2 h1 h2 h3 st
  subst h1; subst h2; subst h3
  exact ⟨v, (T.setVm vm₁).calling g' mk As.toArray, t, U', L, hT, X', hL, e1, e2, hq, st⟩
/-- not caught here, past rows that name other classes: it goes on to the caller -/
theorem vx_outP {p : Program} {l : Launch} {e : Env} {R : Room} {s : State} {m : MethodId} {args : Array Value} {below : List Frame} {meth : Method} {c : Code} {H : Heap} {locs : List Loc} {cells slots : Nat} {free : Addr → Prop} {ls : Array Slot} {rest : List Value} {Qc : Array Value → State → Outcome → State → Prop} {XC : String → State → State → Prop}
    {pc : Nat} {own E : String} {ce : Cell} {q : Addr} {mc ms : Nat} (hown : s.vm.findClass own = some m.cls) (hlocks : meth.locks = false)
    (hpass : ∀ z ∈ c.exceptionTable.toList, covers z pc = false ∨ (z.catchType ≠ 0 ∧ ∃ nm : String, (Cond.classLink own z.catchType nm).before args s = true ∧ va_Nc E nm s)) (hcell : H[q]? = some ce) (hv : ce.vm = .none) (hcl : s.vm.findClass E = some ce.cls)
    (hx : ∀ t : State, t.heap = H → s.vm.Alike t.vm → XC E s t) (hf : ∀ z ∈ locs, free z.base) (hc : cells ≤ mc) (hs : slots ≤ ms) :
    vx_W p l e R s m args below meth c H locs cells slots (vx_MQ below Qc XC args s mc ms free) (F0 m pc ls rest) q := by
  intro T hT X
  have hpl : e.platform.magicAccessors = ({} : Platform).magicAccessors := by rw [X.admits.platform]
  obtain ⟨vm', hW', X', st⟩ := X.outThrough hlocks q (g := F0 m pc ls rest) rfl rfl rfl (cell := ce) (by rw [hT]; exact hcell) (by rw [hv]; rfl)
    (by obtain ⟨k9, h9, -⟩ := Vm.findClass_spec hcl; exact ⟨k9, h9⟩) (fun z hz => by
      rcases hpass z hz with h | ⟨hz0, nm, hl1, hn1⟩
      · exact Or.inl h
      · obtain ⟨c6, hc6, hcl6⟩ := Cond.classLink_spec hown hl1 e.platform hpl
        obtain ⟨a8, b8, h1, h2, h3⟩ := hn1
        cases Option.some.inj (h1.symm.trans hcl)
        cases Option.some.inj (h2.symm.trans hc6)
        exact Or.inr ⟨hz0, _, hcl6, h3⟩)
  obtain ⟨g₀, hfr⟩ := X'.frames_eq
  have hcell9 : ((T.setVm vm').setFrames (.throwing q :: below)).heap[q]? = some ce := by
    show T.heap[q]? = some ce
    rw [hT]; exact hcell
  have hend : Ended ((T.setVm vm').setFrames (.throwing q :: below)) below (.threw q) := State.frames_setFrames _ (State.cur_lt_of_frames hfr)
  refine ⟨(T.setVm vm').setFrames (.throwing q :: below), ?_, .threw q, X'.here.running, hend, Or.inr ⟨q, rfl, E, ce, locs, hx _ hT (X'.ends _).1.alike, hcell9, hv, hcl, (X'.ends _).1, (X'.ends _).2.mono hc hs, hf⟩⟩
  rw [X.pushThrowing_eq]
  exact st
/-- a thing of a world lies in the heap -/
theorem vx_lt {D : va_G} {cl : List vw_C} {ws : va_W} {H1 : Heap} (h : va_P D cl ws H1) {k : Nat} {q : Nat × va_E} (hk : ws[k]? = some q) : q.1 < H1.size := (h k q hk).lt
end VXS
/-! ===== END ===== -/
/-! ===== BEGIN methods with a table of their own: called by a name, returning or throwing ===== -/
section VXH
/-! vx_backW, vx_callVX, vx_callSX, vx_callVW, vx_runVW, vx_runVX, vx_runSX, vx_ofWH follow the same proofs as their sisters above (Free/Laws.lean, Shelf42/LK1.lean); vx_outP calls Shelf42/NT130.lean (outThrough). -/
section
variable {l : Launch} {R : Room} {p : Program} {e : Env} {below : List Frame} {s : State} {sargs : Array Value} {y : MethodName} {len W9 : Nat}
theorem vx_backW {ws : List Cond} {rm : Room} {Pc : Array Value → State → Prop} {Qc : Array Value → State → Outcome → State → Prop} {XC : String → State → State → Prop} {mc ms : Nat} {free : Addr → Prop} {bytes : ByteArray} {maxL : Nat} {ret : Option FieldType} {hh : List (Nat × Nat × Nat × Nat)}
    (hM : vx_Met l y ws rm Pc Qc XC mc ms free) (hblind : FrameBlind Pc) (hrc : rm.cells = mc) (hrs : rm.slots = ms)
    (hframes : rm.frames + 1 ≤ R.frames) (hlocals : W9 + (maxL + 11) + rm.locals ≤ R.locals)
    (hws : ∀ w ∈ ws, ∀ a' U, s.WarmedH U.vm → w.before a' U = true) (hcode : Cond.codeWith y bytes maxL ret hh ∈ ws) (hinit : ∀ a' U, s.WarmedH U.vm → (Cond.initialized y.cls).before a' U = true) :
    vx_Back l R p e below s sargs y len W9 (PreOf R mc ms Pc) (PostOf Qc mc ms free) (vx_Post XC mc ms free) := by
  intro m meth c A g ig mk a X hg hsize hdg hW hn hp
  have h1 : (headSpec ws rm).pre.before a A.U = true := atoms_intro fun w hw => hws w hw _ _ X.warmed
  have h2 : (Cond.codeWith y bytes maxL ret hh).before a A.U = true := hws _ hcode _ _ X.warmed
  have h3 : (Cond.initialized y.cls).before a A.U = true := hinit _ _ X.warmed
  have h4 : A.cells + (headSpec ws rm).room.cells ≤ R.cells := by rw [show (headSpec ws rm).room.cells = mc from hrc]; exact hp.1
  have h5 : A.slots + (headSpec ws rm).room.slots ≤ R.slots := by rw [show (headSpec ws rm).room.slots = ms from hrs]; exact hp.2.1
  have hPc : Pc a (A.U.calling g mk a) := hblind _ _ _ _ hp.2.2
  obtain ⟨U, Ls, c0, s0⟩ := A
  dsimp only [Pt.U, Pt.locs, Pt.cells, Pt.slots] at h1 h2 h3 h4 h5 X hn hPc ⊢
  obtain ⟨m9, methY, cY, hn9, hmY, hcY, -, hlY, -⟩ := Cond.codeWith_spec h2
  cases Option.some.inj (hn9.symm.trans hn)
  obtain ⟨kY, hkY, -⟩ := className_of_methodNamed hn
  have hinitY : kY.init = .initialized := Cond.initialized_spec (findClass_of_methodNamed hn) hkY h3
  have h : At U g.method c below := by rw [hg]; exact X.here
  have hlocals9 : W9 + (maxL + 11) + (headSpec ws rm).room.locals ≤ R.locals := hlocals
  have happ : (headSpec ws rm).appliesLoose y e.platform (U.calling g mk a) = true :=
    Spec.appliesLoose_calling (g := g) h hdg hn hkY hinitY
      (X.room_calling (g := g) (R' := (headSpec ws rm).room) hsize hmY hcY hframes (by rw [hlY]; omega) h4 h5) h1
  obtain ⟨mid, hmid⟩ := h.above
  have hfr : (U.setTop g).frames = (.java g :: mid) ++ below := by rw [State.frames_setTop' g h.top, hmid]; rfl
  obtain ⟨o, s₂, hsteps, -, hend, hq⟩ := Steps.callFree hM p X.admits X.cas X.clock (acts := []) hfr happ hPc trivial
  have hq' : vx_Q Qc XC mc ms free a (U.calling g mk a) o s₂ := hq
  rw [State.frames_setTop' g h.top] at hend
  obtain ⟨g₀, hg0⟩ := Option.isSome_iff_exists.mp h.top
  obtain ⟨r, hr⟩ := State.topJava?_eq_some.mp hg0
  have hr' : (({ U with heap := s₂.heap, slotsUsed := s₂.slotsUsed } : State).setVm s₂.vm).frames = .java g₀ :: r := hr
  rcases hq' with ⟨hqc, L, hfe, hL⟩ | ⟨q, rfl, E, ce, L, hx, hce, hcv, hcl, hW₂, hsm, hL⟩
  · obtain ⟨⟨v, rfl⟩, hW₂, e2, q2, q3, q4, q5, q6⟩ := id hfe
    have e3 : s₂ = ({ (U.calling g mk a).setFrames s₂.frames with heap := s₂.heap, slotsUsed := s₂.slotsUsed } : State).setVm s₂.vm := by
      have : s₂ = ({ s₂ with vm := (U.calling g mk a).vm } : State).setVm s₂.vm := rfl
      rw [e2] at this
      exact this
    obtain ⟨c₂, i₂, len₂, hc₂, hd₂, hf₂⟩ := hend
    have hW' : U.WarmedH s₂.vm := hW₂
    have hcc : c₂ = c := by
      have h1 : s₂.code? g.method = U.code? g.method := by
        rw [State.code?_eq, State.code?_eq, hW'.alike.method?]
      exact Option.some.inj (hc₂.symm.trans (h1.trans h.code))
    subst hcc
    have hlen : len₂ = len := by rw [hdg] at hd₂; cases hd₂; rfl
    subst hlen
    have hs₂ : s₂ = (({ U with heap := s₂.heap, slotsUsed := s₂.slotsUsed } : State).setVm s₂.vm).setTop { g with pc := g.pc + len₂, stack := v.toList ++ g.stack } := by
      refine e3.trans ?_
      rw [hf₂, State.calling_eq h.top, State.setFrames_setFrames, State.setTop_of_frames _ hr', hr]
      rfl
    have hsame : U.sameButNew ({ U with heap := s₂.heap, slotsUsed := s₂.slotsUsed } : State) L mc ms := by
      refine ⟨?_, q2, q3, q4, q5, q6⟩
      obtain ⟨t, ht, -⟩ := State.frames_cons hr
      show ({ U with heap := s₂.heap, slotsUsed := s₂.slotsUsed } : State) = { U.setFrames U.frames with heap := s₂.heap, slotsUsed := s₂.slotsUsed }
      rw [State.setFrames_self ht]
    subst hg
    refine Or.inl ⟨v, ⟨(({ U with heap := s₂.heap, slotsUsed := s₂.slotsUsed } : State).setVm s₂.vm), Ls ++ L, c0 + mc, s0 + ms⟩,
      ⟨X.admits, X.cas, X.clock, X.frames, X.room, X.hears, X.method, X.code, (X.here.setHeapUsed s₂.heap s₂.slotsUsed).setVm hW'.alike, X.tail, State.WarmedH.trans X.warmed hW', X.limits, X.bytes, X.same.trans (hsame.setVm s.vm)⟩,
      ⟨g, mk, s₂, L, rfl, rfl, hqc, rfl, hL, rfl, rfl⟩, ?_⟩
    show Steps p.tables e below _ ((({ U with heap := s₂.heap, slotsUsed := s₂.slotsUsed } : State).setVm s₂.vm).setTop { g with pc := g.pc + len₂, stack := v.toList ++ g.stack })
    rw [← hs₂]
    exact hsteps
  · obtain ⟨e2, q2, q3, q4, q5, q6⟩ := id hsm
    have e3 : s₂ = ({ (U.calling g mk a).setFrames s₂.frames with heap := s₂.heap, slotsUsed := s₂.slotsUsed } : State).setVm s₂.vm := by
      have : s₂ = ({ s₂ with vm := (U.calling g mk a).vm } : State).setVm s₂.vm := rfl
      rw [e2] at this
      exact this
    have hf₂ : s₂.frames = .throwing q :: .java g :: U.frames.tail := hend
    have hW' : U.WarmedH s₂.vm := hW₂
    have hs₂ : s₂ = ((({ U with heap := s₂.heap, slotsUsed := s₂.slotsUsed } : State).setVm s₂.vm).setTop g).pushFrame (.throwing q) := by
      refine e3.trans ?_
      rw [hf₂, State.calling_eq h.top, State.setFrames_setFrames, State.pushFrame, State.frames_setTop _ hr', State.setTop_of_frames _ hr', State.setFrames_setFrames, hr]
      rfl
    have hsame : U.sameButNew ({ U with heap := s₂.heap, slotsUsed := s₂.slotsUsed } : State) L mc ms := by
      refine ⟨?_, q2, q3, q4, q5, q6⟩
      obtain ⟨t, ht, -⟩ := State.frames_cons hr
      show ({ U with heap := s₂.heap, slotsUsed := s₂.slotsUsed } : State) = { U.setFrames U.frames with heap := s₂.heap, slotsUsed := s₂.slotsUsed }
      rw [State.setFrames_self ht]
    subst hg
    refine Or.inr ⟨q, ⟨(({ U with heap := s₂.heap, slotsUsed := s₂.slotsUsed } : State).setVm s₂.vm), Ls ++ L, c0 + mc, s0 + ms⟩,
      ⟨X.admits, X.cas, X.clock, X.frames, X.room, X.hears, X.method, X.code, (X.here.setHeapUsed s₂.heap s₂.slotsUsed).setVm hW'.alike, X.tail, State.WarmedH.trans X.warmed hW', X.limits, X.bytes, X.same.trans (hsame.setVm s.vm)⟩,
      ⟨g, mk, s₂, L, E, ce, rfl, rfl, hx, hce, hcv, hcl, rfl, hL, rfl, rfl⟩, ?_⟩
    show Steps p.tables e below _ (((({ U with heap := s₂.heap, slotsUsed := s₂.slotsUsed } : State).setVm s₂.vm).setTop g).pushFrame (.throwing q))
    rw [← hs₂]
    exact hsteps
end
variable {p : Program} {l : Launch} {e : Env} {R : Room} {s : State} {m : MethodId} {args : Array Value} {below : List Frame} {meth : Method} {c : Code} {T : State} {H : Heap} {locs : List Loc} {cells slots : Nat}
theorem vx_callVX (X : Stand p l e R s m args below meth c T locs cells slots) (hexec : p.tables.exec = Jvm.exec) {own C : String} {index : Nat} {y : MethodName} {bytes : ByteArray} {maxL : Nat} {ret : Option FieldType} {hh : List (Nat × Nat × Nat × Nat)}
    (hown : s.vm.findClass own = some m.cls) (hlink : (Cond.methodLink own index y).before args s = true) (hinst : (Cond.instanceMethod y).before args s = true) (hsel : (Cond.selects C y y).before args s = true)
    (hcode : (Cond.codeWith y bytes maxL ret hh).before args s = true) (hy : y.cls ≠ "java/lang/invoke/MethodHandle" ∧ y.cls ≠ "java/lang/invoke/VarHandle")
    {W9 : Nat} {Pre : Pt → Array Value → Prop} {Post : Pt → Array Value → Option Value → Pt → Prop} {PostX : Pt → Array Value → Addr → Pt → Prop} (hK : vx_Back l R p e below s args y 3 W9 Pre Post PostX)
    {b : Addr} {cellB : Cell} (hcell : T.heap[b]? = some cellB) (hobj : cellB.vm.isStatics = false) (hcls : s.vm.findClass C = some cellB.cls)
    {g : JFrame} (hg : g.method = m) (hsize : g.locals.size = c.maxLocals) {argsL rest : List Value} (hlen : ∀ sig, parseMethodDescriptor y.desc = some sig → argsL.length = sig.parameters.length)
    (hstack : g.stack = argsL.reverse ++ .ref b :: rest) (hW : 2 * g.monitorRoom + (rest.map fun v => v.category).sum ≤ W9) (hdg : decode c.code g.pc = .ok (.invokevirtual index, 3))
    (hpre : ∀ vm₁, s.WarmedH vm₁ → Pre ⟨T.setVm vm₁, locs, cells, slots⟩ (Value.ref b :: argsL).toArray) :
    (∃ (v : Option Value) (vm₁ : Vm) (B : Pt), s.WarmedH vm₁ ∧ Stand p l e R s m args below meth c B.U B.locs B.cells B.slots ∧ Post ⟨T.setVm vm₁, locs, cells, slots⟩ (Value.ref b :: argsL).toArray v B ∧
      ∀ target, Steps p.tables e below (B.U.setTop { g with pc := g.pc + 3, stack := v.toList ++ rest }) target → Steps p.tables e below (T.setTop g) target) ∨
    (∃ (q : Addr) (vm₁ : Vm) (B : Pt), s.WarmedH vm₁ ∧ Stand p l e R s m args below meth c B.U B.locs B.cells B.slots ∧ PostX ⟨T.setVm vm₁, locs, cells, slots⟩ (Value.ref b :: argsL).toArray q B ∧
      Steps p.tables e below (T.setTop g) ((B.U.setTop { g with stack := rest }).pushFrame (.throwing q))) := by
  obtain ⟨mk, methM, hnamed, hmethM, hstM, habM⟩ := Cond.instanceMethod_spec hinst
  obtain ⟨m8, methM', cM, hn8, hmethM', -, -, -, -, -, -, hsigM⟩ := Cond.codeWith_spec hcode
  cases Option.some.inj (hn8.symm.trans hnamed)
  cases hmethM.symm.trans hmethM'
  obtain ⟨c2, r2, m2, q1, q2, q3, q4, kP, hkP, hkPi⟩ := Cond.selects_spec hsel
  cases hcls.symm.trans q1
  cases (State.methodFound?_of_named hnamed hy).symm.trans q2
  cases hnamed.symm.trans q3
  have hselP : selectMethod e.platform s.vm cellB.cls mk = .method mk := by rw [Launch.admits_selectMethod X.admits]; exact q4
  obtain ⟨vm₁, X₁, hstep₁⟩ := X.invokevirtual hexec hown hlink hnamed hmethM hstM hkP hkPi hy (a := b) (cell := cellB) hcell
    (fun z h => by rw [h] at hobj; cases hobj) hselP hmethM habM hkP hkPi (g := g) hg (argsL := argsL) (rest := rest) (hlen _ hsigM) hstack hdg
  rcases hK m meth c ⟨T.setVm vm₁, locs, cells, slots⟩ { g with stack := rest } (.invokevirtual index) mk (Value.ref b :: argsL).toArray X₁ hg hsize hdg hW (X₁.named hnamed) (hpre vm₁ X₁.warmed) with ⟨v, B, X', hpost, hsteps⟩ | ⟨q, B, X', hpost, hsteps⟩
  · exact Or.inl ⟨v, vm₁, B, X₁.warmed, X', hpost, fun target h => hstep₁ _ fun acts => by rw [doInvoke_state]; exact hsteps.trans h⟩
  · exact Or.inr ⟨q, vm₁, B, X₁.warmed, X', hpost, hstep₁ _ fun acts => by rw [doInvoke_state]; exact hsteps⟩
theorem vx_callSX (X : Stand p l e R s m args below meth c T locs cells slots) (hexec : p.tables.exec = Jvm.exec) {own : String} {index : Nat} {y : MethodName} {bytes : ByteArray} {maxL : Nat} {ret : Option FieldType} {hh : List (Nat × Nat × Nat × Nat)}
    (hown : s.vm.findClass own = some m.cls) (hlink : (Cond.methodLink own index y).before args s = true) (hstat : (Cond.static y).before args s = true) (hinit : (Cond.initialized y.cls).before args s = true)
    (hcode : (Cond.codeWith y bytes maxL ret hh).before args s = true) (hy : y.cls ≠ "java/lang/invoke/MethodHandle" ∧ y.cls ≠ "java/lang/invoke/VarHandle")
    {W9 : Nat} {Pre : Pt → Array Value → Prop} {Post : Pt → Array Value → Option Value → Pt → Prop} {PostX : Pt → Array Value → Addr → Pt → Prop} (hK : vx_Back l R p e below s args y 3 W9 Pre Post PostX)
    {g : JFrame} (hg : g.method = m) (hsize : g.locals.size = c.maxLocals) {argsL rest : List Value} (hlen : ∀ sig, parseMethodDescriptor y.desc = some sig → argsL.length = sig.parameters.length)
    (hstack : g.stack = argsL.reverse ++ rest) (hW : 2 * g.monitorRoom + (rest.map fun v => v.category).sum ≤ W9) (hdg : decode c.code g.pc = .ok (.invokestatic index, 3))
    (hpre : ∀ vm₁, s.WarmedH vm₁ → Pre ⟨T.setVm vm₁, locs, cells, slots⟩ argsL.toArray) :
    (∃ (v : Option Value) (vm₁ : Vm) (B : Pt), s.WarmedH vm₁ ∧ Stand p l e R s m args below meth c B.U B.locs B.cells B.slots ∧ Post ⟨T.setVm vm₁, locs, cells, slots⟩ argsL.toArray v B ∧
      ∀ target, Steps p.tables e below (B.U.setTop { g with pc := g.pc + 3, stack := v.toList ++ rest }) target → Steps p.tables e below (T.setTop g) target) ∨
    (∃ (q : Addr) (vm₁ : Vm) (B : Pt), s.WarmedH vm₁ ∧ Stand p l e R s m args below meth c B.U B.locs B.cells B.slots ∧ PostX ⟨T.setVm vm₁, locs, cells, slots⟩ argsL.toArray q B ∧
      Steps p.tables e below (T.setTop g) ((B.U.setTop { g with stack := rest }).pushFrame (.throwing q))) := by
  obtain ⟨mk, methM, cM, hnamed, hmethM, -, -, -, -, -, -, hsigM⟩ := Cond.codeWith_spec hcode
  have hstatic : methM.isStatic = true := Cond.static_spec hnamed hmethM hstat
  obtain ⟨kP, hkP, -⟩ := className_of_methodNamed hnamed
  have hinitP : kP.init = .initialized := Cond.initialized_spec (findClass_of_methodNamed hnamed) hkP hinit
  obtain ⟨vm₁, X₁, hstep₁⟩ := X.invokestatic hexec hown hlink hnamed hmethM hstatic hkP hinitP hy (g := g) hg (argsL := argsL) (rest := rest) (hlen _ hsigM) hstack hdg
  rcases hK m meth c ⟨T.setVm vm₁, locs, cells, slots⟩ { g with stack := rest } (.invokestatic index) mk argsL.toArray X₁ hg hsize hdg hW (X₁.named hnamed) (hpre vm₁ X₁.warmed) with ⟨v, B, X', hpost, hsteps⟩ | ⟨q, B, X', hpost, hsteps⟩
  · exact Or.inl ⟨v, vm₁, B, X₁.warmed, X', hpost, fun target h => hstep₁ _ fun acts => by rw [doInvoke_state]; exact hsteps.trans h⟩
  · exact Or.inr ⟨q, vm₁, B, X₁.warmed, X', hpost, hstep₁ _ fun acts => by rw [doInvoke_state]; exact hsteps⟩
theorem vx_callVW (X : Stand p l e R s m args below meth c T locs cells slots) (hexec : p.tables.exec = Jvm.exec) {own C : String} {index : Nat} {y : MethodName} {bytes : ByteArray} {maxL : Nat} {ret : Option FieldType} {hh : List (Nat × Nat × Nat × Nat)}
    (hown : s.vm.findClass own = some m.cls) (hlink : (Cond.methodLink own index y).before args s = true) (hinst : (Cond.instanceMethod y).before args s = true) (hsel : (Cond.selects C y y).before args s = true)
    (hcode : (Cond.codeWith y bytes maxL ret hh).before args s = true) (hy : y.cls ≠ "java/lang/invoke/MethodHandle" ∧ y.cls ≠ "java/lang/invoke/VarHandle")
    {W9 : Nat} {Pre : Pt → Array Value → Prop} {Post : Pt → Array Value → Option Value → Pt → Prop} (hK : Back l R p e below s args y 3 W9 Pre Post)
    {b : Addr} {cellB : Cell} (hcell : T.heap[b]? = some cellB) (hobj : cellB.vm.isStatics = false) (hcls : s.vm.findClass C = some cellB.cls)
    {g : JFrame} (hg : g.method = m) (hsize : g.locals.size = c.maxLocals) {argsL rest : List Value} (hlen : ∀ sig, parseMethodDescriptor y.desc = some sig → argsL.length = sig.parameters.length)
    (hstack : g.stack = argsL.reverse ++ .ref b :: rest) (hW : 2 * g.monitorRoom + (rest.map fun v => v.category).sum ≤ W9) (hdg : decode c.code g.pc = .ok (.invokevirtual index, 3))
    (hpre : ∀ vm₁, s.WarmedH vm₁ → Pre ⟨T.setVm vm₁, locs, cells, slots⟩ (Value.ref b :: argsL).toArray) :
    ∃ (v : Option Value) (vm₁ : Vm) (B : Pt), s.WarmedH vm₁ ∧ Stand p l e R s m args below meth c B.U B.locs B.cells B.slots ∧ Post ⟨T.setVm vm₁, locs, cells, slots⟩ (Value.ref b :: argsL).toArray v B ∧
      ∀ target, Steps p.tables e below (B.U.setTop { g with pc := g.pc + 3, stack := v.toList ++ rest }) target → Steps p.tables e below (T.setTop g) target := by
  obtain ⟨mk, methM, hnamed, hmethM, hstM, habM⟩ := Cond.instanceMethod_spec hinst
  obtain ⟨m8, methM', cM, hn8, hmethM', -, -, -, -, -, -, hsigM⟩ := Cond.codeWith_spec hcode
  cases Option.some.inj (hn8.symm.trans hnamed)
  cases hmethM.symm.trans hmethM'
  obtain ⟨c2, r2, m2, q1, q2, q3, q4, kP, hkP, hkPi⟩ := Cond.selects_spec hsel
  cases hcls.symm.trans q1
  cases (State.methodFound?_of_named hnamed hy).symm.trans q2
  cases hnamed.symm.trans q3
  have hselP : selectMethod e.platform s.vm cellB.cls mk = .method mk := by rw [Launch.admits_selectMethod X.admits]; exact q4
  obtain ⟨vm₁, X₁, hstep₁⟩ := X.invokevirtual hexec hown hlink hnamed hmethM hstM hkP hkPi hy (a := b) (cell := cellB) hcell
    (fun z h => by rw [h] at hobj; cases hobj) hselP hmethM habM hkP hkPi (g := g) hg (argsL := argsL) (rest := rest) (hlen _ hsigM) hstack hdg
  obtain ⟨v, B, X', hpost, hsteps⟩ := hK m meth c ⟨T.setVm vm₁, locs, cells, slots⟩ { g with stack := rest } (.invokevirtual index) mk (Value.ref b :: argsL).toArray X₁ hg hsize hdg hW (X₁.named hnamed) (hpre vm₁ X₁.warmed)
  exact ⟨v, vm₁, B, X₁.warmed, X', hpost, fun target h => hstep₁ _ fun acts => by rw [doInvoke_state]; exact hsteps.trans h⟩
abbrev vx_CVW (R : Room) (s : State) (args : Array Value) (own C : String) (index : Nat) (y : MethodName) (bytes : ByteArray) (maxL : Nat) (ret : Option FieldType) (hh : List (Nat × Nat × Nat × Nat)) (ws : List Cond) (rm : Room) (mc ms n : Nat) : Prop :=
  (rm.cells = mc ∧ rm.slots = ms ∧ rm.frames + 1 ≤ R.frames ∧ 8 + (maxL + 11) + rm.locals ≤ R.locals ∧ (∀ w ∈ ws, ∀ (a' : Array Value) (U : State), s.WarmedH U.vm → w.before a' U = true) ∧ Cond.codeWith y bytes maxL ret hh ∈ ws) ∧
  (Cond.codeWith y bytes maxL ret hh).before args s = true ∧ (Cond.initialized y.cls).before args s = true ∧ (y.cls ≠ "java/lang/invoke/MethodHandle" ∧ y.cls ≠ "java/lang/invoke/VarHandle") ∧
  (∀ sig, parseMethodDescriptor y.desc = some sig → n = sig.parameters.length) ∧ (Cond.methodLink own index y).before args s = true ∧ (Cond.instanceMethod y).before args s = true ∧ (Cond.selects C y y).before args s = true
theorem vx_cwVW {own C : String} {index maxL mc ms : Nat} {y : MethodName} {bytes : ByteArray} {ret : Option FieldType} {hh : List (Nat × Nat × Nat × Nat)} {Ts ws ws' : List Cond} {rm : Room} (n : Nat) (ht : ∀ w ∈ Ts, w.before args s = true) (hT : GoodIn Ts (wsV own index C y ws)) (hw : ws = Cond.codeWith y bytes maxL ret hh :: ws') (hrc : rm.cells = mc) (hrs : rm.slots = ms)
    (hd : y.cls = C ∧ y.cls ≠ "java/lang/invoke/MethodHandle" ∧ y.cls ≠ "java/lang/invoke/VarHandle" ∧ (parseMethodDescriptor y.desc).map (fun d => d.parameters.length) = some n) (hR : rm.frames + 1 ≤ R.frames ∧ 8 + (maxL + 11) + rm.locals ≤ R.locals) :
    vx_CVW R s args own C index y bytes maxL ret hh ws rm mc ms n := by
  obtain ⟨hC, hd⟩ := hd
  subst hC
  have ok : ∀ w ∈ wsV own index y.cls y ws, w.before args s = true := fun w h => ht w (hT w h).1
  have hG : GoodIn Ts ws := fun w h => hT w (by unfold wsV; exact List.mem_append_right _ h)
  have hc : Cond.codeWith y bytes maxL ret hh ∈ ws := by rw [hw]; exact List.mem_cons_self
  refine ⟨⟨hrc, hrs, hR.1, hR.2, pay_in ht hG, hc⟩, ht _ (hG _ hc).1, ok _ (by simp [wsV]), ⟨hd.1, hd.2.1⟩, fun sig h => ?_, ok _ (by simp [wsV]), ok _ (by simp [wsV]), ok _ (by simp [wsV])⟩
  have h2 := hd.2.2
  rw [h] at h2
  exact (Option.some.inj h2).symm
theorem vx_runVW {y : MethodName} {bytes cc : ByteArray} {maxL nL mc ms n index : Nat} {ret : Option FieldType} {hh : List (Nat × Nat × Nat × Nat)} {ws : List Cond} {rm : Room} {Pc : Array Value → State → Prop} {Qc : Array Value → State → Outcome → State → Prop} {free : Addr → Prop} {Ts : List Cond} {own C : String} {b : Addr} {As rest : List Value} {g : JFrame}
    (S : CallFix p m c cc nL s args Ts own) (hM : Met l y ws rm Pc Qc mc ms free) (cw : vx_CVW R s args own C index y bytes maxL ret hh ws rm mc ms n) (hp : PreV s H C b Pc As)
    (hg : g.method = m) (hn : As.length = n) (hsize : g.locals.size = nL) (hstack : g.stack = As.reverse ++ .ref b :: rest) (hW : 2 * g.monitorRoom + (rest.map fun v => v.category).sum ≤ 8) (hdg : decode cc g.pc = .ok (.invokevirtual index, 3)) (hf : cells + mc ≤ R.cells ∧ slots + ms ≤ R.slots) :
    va_Run p l e R s m args below meth c H locs cells slots mc ms g rest (Qc (Value.ref b :: As).toArray) free := by
  obtain ⟨⟨hrc, hrs, hfr, hlo, hws, hcw⟩, hcode, hini, hy, hlen, hl, hin, hse⟩ := cw
  have hK : Back l R p e below s args y 3 8 (PreOf R mc ms Pc) (PostOf Qc mc ms free) := va_backW (hh := hh) (bytes := bytes) (maxL := maxL) (ret := ret) hM hp.1 hrc hrs hfr hlo hws hcw (fun a' U hW => word_at hW (Or.inl (by first | rfl | simp [Cond.onTables, Cond.keeps, Cond.steady])) hini)
  obtain ⟨hx, hb, hml, ho, -⟩ := S
  obtain ⟨-, ⟨cellB, hcB, hoB, hclB⟩, hPc⟩ := hp
  intro T hT X
  obtain ⟨v, vm₁, ⟨U', l2, c2, s2⟩, hW₁, X', ⟨g', mk, t, L, e1, e2, hq, h1, hL, h2, h3⟩, st⟩ := vx_callVW X hx (C := C) (hh := hh) (bytes := bytes) (maxL := maxL) (ret := ret) ho hl hin hse hcode hy hK (by rw [hT]; exact hcB) hoB hclB hg (hsize.trans hml.symm) (argsL := As) (rest := rest) (fun sig h => hn.trans (hlen sig h)) hstack hW (by rw [hb]; exact hdg)
    (fun vm₁ hW₁ => ⟨hf.1, hf.2, hPc (T.setVm vm₁) hT hW₁⟩)
  dsimp only [Pt.U, Pt.locs, Pt.cells, Pt.slots] at X' e1 e2 h1 h2 h3 st
  subst h1; subst h2; subst h3
  exact ⟨v, (T.setVm vm₁).calling g' mk (Value.ref b :: As).toArray, t, U', L, hT, X', hL, e1, e2, hq, st⟩
section
variable {y : MethodName} {bytes cc : ByteArray} {maxL nL mc ms n index : Nat} {ret : Option FieldType} {ws : List Cond} {rm : Room} {Pc : Array Value → State → Prop} {Qc : Array Value → State → Outcome → State → Prop} {XC : String → State → State → Prop} {free : Addr → Prop} {Ts : List Cond} {own C : String} {b : Addr} {As rest : List Value} {g : JFrame}
theorem vx_runVX {hh : List (Nat × Nat × Nat × Nat)} (S : CallFix p m c cc nL s args Ts own) (hM : vx_Met l y ws rm Pc Qc XC mc ms free) (cw : vx_CVW R s args own C index y bytes maxL ret hh ws rm mc ms n) (hp : PreV s H C b Pc As)
    (hg : g.method = m) (hn : As.length = n) (hsize : g.locals.size = nL) (hstack : g.stack = As.reverse ++ .ref b :: rest) (hW : 2 * g.monitorRoom + (rest.map fun v => v.category).sum ≤ 8) (hdg : decode cc g.pc = .ok (.invokevirtual index, 3)) (hf : cells + mc ≤ R.cells ∧ slots + ms ≤ R.slots) :
    vx_Run p l e R s m args below meth c H locs cells slots mc ms g rest (Qc (Value.ref b :: As).toArray) XC free := by
  obtain ⟨⟨hrc, hrs, hfr, hlo, hws, hcw⟩, hcode, hini, hy, hlen, hl, hin, hse⟩ := cw
  have hK : vx_Back l R p e below s args y 3 8 (PreOf R mc ms Pc) (PostOf Qc mc ms free) (vx_Post XC mc ms free) := vx_backW (hh := hh) (bytes := bytes) (maxL := maxL) (ret := ret) hM hp.1 hrc hrs hfr hlo hws hcw (fun a' U hW => word_at hW (Or.inl (by first | rfl | simp [Cond.onTables, Cond.keeps, Cond.steady])) hini)
  obtain ⟨hx, hb, hml, ho, -⟩ := S
  obtain ⟨-, ⟨cellB, hcB, hoB, hclB⟩, hPc⟩ := hp
  intro T hT X
  rcases vx_callVX X hx (C := C) (hh := hh) (bytes := bytes) (maxL := maxL) (ret := ret) ho hl hin hse hcode hy hK (by rw [hT]; exact hcB) hoB hclB hg (hsize.trans hml.symm) (argsL := As) (rest := rest) (fun sig h => hn.trans (hlen sig h)) hstack hW (by rw [hb]; exact hdg)
    (fun vm₁ hW₁ => ⟨hf.1, hf.2, hPc (T.setVm vm₁) hT hW₁⟩) with ⟨v, vm₁, ⟨U', l2, c2, s2⟩, hW₁, X', ⟨g', mk, t, L, e1, e2, hq, h1, hL, h2, h3⟩, st⟩ | ⟨q, vm₁, ⟨U', l2, c2, s2⟩, hW₁, X', ⟨g', mk, t, L, E, ce, e1, e2, hq, hce, hcv, hcl, h1, hL, h2, h3⟩, st⟩
  · dsimp only [Pt.U, Pt.locs, Pt.cells, Pt.slots] at X' e1 e2 h1 h2 h3 st
    subst h1; subst h2; subst h3
    exact Or.inl ⟨v, (T.setVm vm₁).calling g' mk (Value.ref b :: As).toArray, t, U', L, hT, X', hL, e1, e2, hq, st⟩
  · dsimp only [Pt.U, Pt.locs, Pt.cells, Pt.slots] at X' e1 e2 h1 h2 h3 st hcl
    subst h1; subst h2; subst h3
    exact Or.inr ⟨q, (T.setVm vm₁).calling g' mk (Value.ref b :: As).toArray, t, U', L, E, ce, hT, X', hL, e1, e2, hq, hce, hcv, vx_cls hW₁ hcl, st⟩
theorem vx_runSX {hh : List (Nat × Nat × Nat × Nat)} (S : CallFix p m c cc nL s args Ts own) (hM : vx_Met l y ws rm Pc Qc XC mc ms free) (cw : vx_CSW R s args own index y bytes maxL ret hh ws rm mc ms n) (hp : PreS s H Pc As)
    (hg : g.method = m) (hn : As.length = n) (hsize : g.locals.size = nL) (hstack : g.stack = As.reverse ++ rest) (hW : 2 * g.monitorRoom + (rest.map fun v => v.category).sum ≤ 8) (hdg : decode cc g.pc = .ok (.invokestatic index, 3)) (hf : cells + mc ≤ R.cells ∧ slots + ms ≤ R.slots) :
    vx_Run p l e R s m args below meth c H locs cells slots mc ms g rest (Qc As.toArray) XC free := by
  obtain ⟨⟨hrc, hrs, hfr, hlo, hws, hcw⟩, hcode, hini, hy, hlen, hl, hstt⟩ := cw
  have hK : vx_Back l R p e below s args y 3 8 (PreOf R mc ms Pc) (PostOf Qc mc ms free) (vx_Post XC mc ms free) := vx_backW (hh := hh) (bytes := bytes) (maxL := maxL) (ret := ret) hM hp.1 hrc hrs hfr hlo hws hcw (fun a' U hW => word_at hW (Or.inl (by first | rfl | simp [Cond.onTables, Cond.keeps, Cond.steady])) hini)
  obtain ⟨hx, hb, hml, ho, -⟩ := S
  intro T hT X
  rcases vx_callSX X hx (hh := hh) (bytes := bytes) (maxL := maxL) (ret := ret) ho hl hstt hini hcode hy hK hg (hsize.trans hml.symm) (argsL := As) (rest := rest) (fun sig h => hn.trans (hlen sig h)) hstack hW (by rw [hb]; exact hdg)
    (fun vm₁ hW₁ => ⟨hf.1, hf.2, hp.2 (T.setVm vm₁) hT hW₁⟩) with ⟨v, vm₁, ⟨U', l2, c2, s2⟩, hW₁, X', ⟨g', mk, t, L, e1, e2, hq, h1, hL, h2, h3⟩, st⟩ | ⟨q, vm₁, ⟨U', l2, c2, s2⟩, hW₁, X', ⟨g', mk, t, L, E, ce, e1, e2, hq, hce, hcv, hcl, h1, hL, h2, h3⟩, st⟩
  · dsimp only [Pt.U, Pt.locs, Pt.cells, Pt.slots] at X' e1 e2 h1 h2 h3 st
    subst h1; subst h2; subst h3
    exact Or.inl ⟨v, (T.setVm vm₁).calling g' mk As.toArray, t, U', L, hT, X', hL, e1, e2, hq, st⟩
  · dsimp only [Pt.U, Pt.locs, Pt.cells, Pt.slots] at X' e1 e2 h1 h2 h3 st hcl
    subst h1; subst h2; subst h3
    exact Or.inr ⟨q, (T.setVm vm₁).calling g' mk As.toArray, t, U', L, E, ce, hT, X', hL, e1, e2, hq, hce, hcv, vx_cls hW₁ hcl, st⟩
end
end VXH
theorem vx_ofWH {l : Launch} {y : MethodName} {ws ws' : List Cond} {rm : Room} {Pc : Array Value → State → Prop} {Qc : Array Value → State → Outcome → State → Prop} {XC : String → State → State → Prop} {mc ms : Nat} {free : Addr → Prop} {cc : ByteArray} {maxL : Nat} {ret : Option FieldType} {hh : List (Nat × Nat × Nat × Nat)}
    (hy : plainName y.cls = true) (hw : ws = Cond.codeWith y cc maxL ret hh :: ws')
    (body : ∀ p e s m args below meth c s₁, BodyLoose p l y (headSpec ws rm) cc maxL ret e s m args below meth c s₁ → c.maxLocals = maxL → Pc args s →
      W p l e (headSpec ws rm).room s m args below meth c s.heap [] 0 0 (vx_MQ below Qc XC args s mc ms free) (entryFrame m args maxL)) : vx_Met l y ws rm Pc Qc XC mc ms free := by
  refine MetFree.of_bodyS (code := cc) (maxLocals := maxL) (ret := ret) hy ?_ ?_
  · intro args s m h hn
    obtain ⟨m9, meth, c, hn9, h1, h2, h3, h4, -, h5, h6, -⟩ := Cond.codeWith_spec (atoms_spec (ws := ws) h _ (by rw [hw]; exact List.mem_cons_self))
    cases hn.symm.trans hn9
    exact ⟨meth, c, h1, h2, h3, h4, h5, h6⟩
  · intro p e s m args below meth c s₁ B hml hP _
    have hh0 : s₁.heap = s.heap := by rw [B.state]; rfl
    obtain ⟨t, a1, o, b1, b2, b3⟩ := body p e s m args below meth c s₁ B hml hP s₁ hh0 (Stand.of_body B)
    exact ⟨t, o, a1, b1, b2, b3⟩
/-! ===== END ===== -/
end
section
/-! The abstract heap (zz_H): what lies at each address; a world of the walk by it (zz_I), locals by their slots (zz_L), the judgement zz_W over the kit's W; a row an instruction (z_..). -/
abbrev zz_H : Type := Nat → Option va_E
def zz_up (h : zz_H) (a : Nat) (e : va_E) : zz_H := fun x => if x = a then some e else h x
theorem zz_us (h : zz_H) (a : Nat) (e : va_E) : zz_up h a e a = some e := if_pos rfl
theorem zz_un {h : zz_H} {a x : Nat} {e : va_E} (hx : x ≠ a) : zz_up h a e x = h x := if_neg hx
/-- the heap has n cells and holds what h says, all of it from B on -/
def zz_I (D : va_G) (cl : List vw_C) (B : Nat) (h : zz_H) (n : Nat) (H : Heap) : Prop := H.size = n ∧ ∀ (a : Nat) (e : va_E), h a = some e → va_at D cl (a, e) H ∧ B ≤ a
theorem zz_I.set {D : va_G} {cl : List vw_C} {B : Nat} {h : zz_H} {n : Nat} {H H1 : Heap} {a : Nat} {e0 e : va_E} (hI : zz_I D cl B h n H) (ha : h a = some e0) (he : va_at D cl (a, e) H1) (z : H1.size = H.size) (oq : ∀ q : Nat, q ≠ a → H1[q]? = H[q]?) : zz_I D cl B (zz_up h a e) n H1 := by
  refine ⟨z.trans hI.1, fun x e' hx => ?_⟩
  by_cases hxa : x = a
  · subst hxa
    rw [zz_us] at hx
    cases hx
    exact ⟨he, (hI.2 _ _ ha).2⟩
  · rw [zz_un hxa] at hx
    exact ⟨(hI.2 x e' hx).1.kept (oq x hxa), (hI.2 x e' hx).2⟩
theorem zz_I.lt {D : va_G} {cl : List vw_C} {B : Nat} {h : zz_H} {n : Nat} {H : Heap} {a : Nat} {e : va_E} (hI : zz_I D cl B h n H) (ha : h a = some e) : a < n := by
  have h1 := (hI.2 a e ha).1.lt
  rw [hI.1] at h1
  exact h1
theorem zz_I.fresh {D : va_G} {cl : List vw_C} {B : Nat} {h : zz_H} {n : Nat} {H : Heap} (hI : zz_I D cl B h n H) {a : Nat} (ha : n ≤ a) : h a = none := by
  cases hx : h a with
  | none => rfl
  | some e => exact absurd (hI.lt hx) (by omega)
theorem zz_I.push {D : va_G} {cl : List vw_C} {B : Nat} {h : zz_H} {n : Nat} {H H1 : Heap} {e : va_E} (hI : zz_I D cl B h n H) (he : va_at D cl (n, e) H1) (z : H1.size = n + 1) (oq : ∀ q : Nat, q < n → H1[q]? = H[q]?) (hB : B ≤ n) : zz_I D cl B (zz_up h n e) (n + 1) H1 := by
  refine ⟨z, fun x e' hx => ?_⟩
  by_cases hxa : x = n
  · subst hxa
    rw [zz_us] at hx
    cases hx
    exact ⟨he, hB⟩
  · rw [zz_un hxa] at hx
    exact ⟨(hI.2 x e' hx).1.kept (oq x (hI.lt hx)), (hI.2 x e' hx).2⟩
theorem zz_one {D : va_G} {cl : List vw_C} {B : Nat} {h : zz_H} {n : Nat} {H : Heap} {a : Nat} {e : va_E} (hI : zz_I D cl B h n H) (ha : h a = some e) : va_P D cl [(a, e)] H := by
  intro k q hk
  cases k with
  | zero =>
    cases hk
    exact (hI.2 a e ha).1
  | succ k => simp at hk
/-! locals by their slots -/
def zz_p : Nat → List (Option Value) → List (Nat × Value)
  | _, [] => []
  | k, none :: t => zz_p (k + 1) t
  | k, some v :: t => (k, v) :: zz_p (k + 1) t
def zz_l : List (Option Value) → Nat → Option Value
  | [], _ => none
  | x :: _, 0 => x
  | _ :: t, i + 1 => zz_l t i
def zz_s : List (Option Value) → Nat → Option Value → List (Option Value)
  | [], _, _ => []
  | _ :: t, 0, v => v :: t
  | x :: t, i + 1, v => x :: zz_s t i v
theorem zz_pl : ∀ (L : List (Option Value)) (k i : Nat) (v : Value), (i, v) ∈ zz_p k L ↔ ∃ j, i = k + j ∧ zz_l L j = some v
  | [], k, i, v => by simp [zz_p, zz_l]
  | none :: t, k, i, v => by
    rw [zz_p, zz_pl t (k + 1) i v]
    constructor
    · intro h
      obtain ⟨j, hi, hj⟩ := h
      exact ⟨j + 1, by omega, hj⟩
    · intro h
      obtain ⟨j, hi, hj⟩ := h
      cases j with
      | zero => cases hj
      | succ j => exact ⟨j, by omega, hj⟩
  | some w :: t, k, i, v => by
    rw [zz_p, List.mem_cons, zz_pl t (k + 1) i v]
    constructor
    · intro h
      rcases h with h | ⟨j, hi, hj⟩
      · cases h
        exact ⟨0, rfl, rfl⟩
      · exact ⟨j + 1, by omega, hj⟩
    · intro h
      obtain ⟨j, hi, hj⟩ := h
      cases j with
      | zero =>
        left
        have hw : w = v := Option.some.inj hj
        rw [hw, hi]
        rfl
      | succ j => exact Or.inr ⟨j, by omega, hj⟩
theorem zz_sl : ∀ (L : List (Option Value)) (i : Nat) (v : Option Value), (zz_s L i v).length = L.length
  | [], _, _ => rfl
  | _ :: _, 0, _ => rfl
  | _ :: t, i + 1, v => by
    show (zz_s t i v).length + 1 = t.length + 1
    rw [zz_sl t i v]
theorem zz_ls : ∀ (L : List (Option Value)) (i j : Nat) (v : Option Value), zz_l (zz_s L i v) j = if j = i ∧ i < L.length then v else zz_l L j
  | [], i, j, v => by simp [zz_s, zz_l]
  | x :: t, 0, 0, v => by simp [zz_s, zz_l]
  | x :: t, 0, j + 1, v => by simp [zz_s, zz_l]
  | x :: t, i + 1, 0, v => by simp [zz_s, zz_l]
  | x :: t, i + 1, j + 1, v => by
    show zz_l (zz_s t i v) j = if j + 1 = i + 1 ∧ i + 1 < t.length + 1 then v else zz_l t j
    rw [zz_ls t i j v]
    by_cases h : j = i ∧ i < t.length
    · rw [if_pos h, if_pos ⟨by omega, by omega⟩]
    · rw [if_neg h, if_neg (fun q => h ⟨by omega, by omega⟩)]
def zz_L (ls : Array Slot) (L : List (Option Value)) : Prop := lv_has ls L.length (zz_p 0 L)
theorem zz_at {ls : Array Slot} {L : List (Option Value)} {i : Nat} {v : Value} (h : zz_L ls L) (hi : zz_l L i = some v) : ls[i]? = some (.val v) :=
  h.2.2 (i, v) ((zz_pl L 0 i v).mpr ⟨i, (Nat.zero_add i).symm, hi⟩)
/-- the slot below i holds no long, and i is a slot -/
def zz_nk (L : List (Option Value)) : Nat → Bool
  | 0 => true
  | i + 1 => match zz_l L i with
    | none => true
    | some w => Nat.beq w.category 1
theorem zz_nk_spec {L : List (Option Value)} {i j : Nat} {w : Value} (hk : zz_nk L i = true) (hw : zz_l L j = some w) (hj : j + 1 = i) : ¬ w.category = 2 := by
  subst hj
  have h1 : Nat.beq w.category 1 = true := by
    have h2 : zz_nk L (j + 1) = (match zz_l L j with
      | none => true
      | some w => Nat.beq w.category 1) := rfl
    rw [h2, hw] at hk
    exact hk
  have h3 := Nat.eq_of_beq_eq_true h1
  omega
def zz_so (L : List (Option Value)) (i : Nat) : Bool := zz_nk L i && Nat.ble (i + 1) L.length
def zz_so2 (L : List (Option Value)) (i : Nat) : Bool := zz_nk L i && Nat.ble (i + 2) L.length
theorem zz_so_lt {L : List (Option Value)} {i : Nat} (h : zz_so L i = true) : i < L.length := by
  unfold zz_so at h
  rw [Bool.and_eq_true] at h
  exact Nat.le_of_ble_eq_true h.2
theorem zz_so2_lt {L : List (Option Value)} {i : Nat} (h : zz_so2 L i = true) : i + 1 < L.length := by
  unfold zz_so2 at h
  rw [Bool.and_eq_true] at h
  exact Nat.le_of_ble_eq_true h.2
theorem zz_st1 {ls : Array Slot} {L : List (Option Value)} {i : Nat} {v : Value} (hk : zz_so L i = true) (h' : lv_has ls L.length ((i, v) :: (zz_p 0 L).filter (fun q => !(q.1 == i) && !(q.1 + 1 == i && q.2.category == 2)))) : zz_L ls (zz_s L i (some v)) := by
  have hi := zz_so_lt hk
  unfold zz_so at hk
  rw [Bool.and_eq_true] at hk
  refine ⟨by rw [zz_sl]; exact h'.1, h'.2.1, ?_⟩
  intro q hq
  obtain ⟨j, w⟩ := q
  obtain ⟨j', hj', hw⟩ := (zz_pl _ 0 j w).mp hq
  have hjj : j' = j := by omega
  subst hjj
  rw [zz_ls] at hw
  by_cases hji : j' = i
  · rw [if_pos ⟨hji, hi⟩] at hw
    cases hw
    subst hji
    exact h'.2.2 _ List.mem_cons_self
  · rw [if_neg (fun z => hji z.1)] at hw
    refine h'.2.2 (j', w) (List.mem_cons_of_mem _ (List.mem_filter.mpr ⟨(zz_pl L 0 j' w).mpr ⟨j', by omega, hw⟩, ?_⟩))
    have h2 : ¬ (j' + 1 = i ∧ w.category = 2) := fun z => zz_nk_spec hk.1 hw z.1 z.2
    simp only [Bool.and_eq_true, Bool.not_eq_true', beq_eq_false_iff_ne, ne_eq, Bool.and_eq_false_iff]
    refine ⟨hji, ?_⟩
    by_cases h3 : j' + 1 = i
    · exact Or.inr (fun z => h2 ⟨h3, z⟩)
    · exact Or.inl h3
theorem zz_st2 {ls : Array Slot} {L : List (Option Value)} {i : Nat} {v : Value} (hk : zz_so2 L i = true) (h' : lv_has ls L.length ((i, v) :: (zz_p 0 L).filter (fun q => !(q.1 == i) && (!(q.1 == i + 1) && !(q.1 + 1 == i && q.2.category == 2))))) : zz_L ls (zz_s (zz_s L i (some v)) (i + 1) none) := by
  have hi := zz_so2_lt hk
  unfold zz_so2 at hk
  rw [Bool.and_eq_true] at hk
  refine ⟨by rw [zz_sl, zz_sl]; exact h'.1, h'.2.1, ?_⟩
  intro q hq
  obtain ⟨j, w⟩ := q
  obtain ⟨j', hj', hw⟩ := (zz_pl _ 0 j w).mp hq
  have hjj : j' = j := by omega
  subst hjj
  rw [zz_ls] at hw
  by_cases hj1 : j' = i + 1
  · rw [if_pos ⟨hj1, by rw [zz_sl]; exact hi⟩] at hw
    cases hw
  · rw [if_neg (fun z => hj1 z.1), zz_ls] at hw
    by_cases hji : j' = i
    · rw [if_pos ⟨hji, by omega⟩] at hw
      cases hw
      subst hji
      exact h'.2.2 _ List.mem_cons_self
    · rw [if_neg (fun z => hji z.1)] at hw
      refine h'.2.2 (j', w) (List.mem_cons_of_mem _ (List.mem_filter.mpr ⟨(zz_pl L 0 j' w).mpr ⟨j', by omega, hw⟩, ?_⟩))
      have h2 : ¬ (j' + 1 = i ∧ w.category = 2) := fun z => zz_nk_spec hk.1 hw z.1 z.2
      simp only [Bool.and_eq_true, Bool.not_eq_true', beq_eq_false_iff_ne, ne_eq, Bool.and_eq_false_iff]
      refine ⟨hji, hj1, ?_⟩
      by_cases h3 : j' + 1 = i
      · exact Or.inr (fun z => h2 ⟨h3, z⟩)
      · exact Or.inl h3

/-- what is fixed along a method's walk -/
def zz_C (D : va_G) (cl : List vw_C) (tys : List (ClassId × FieldType)) (B : Nat) (tb : List Cond) (X : State → Heap → Prop) (p : Program) (s : State) (m : MethodId) (args : Array Value) (meth : Method) (c : Code) (cc : ByteArray) (own : String) (ret : Option FieldType) (nm : String) : Prop :=
  p.tables.exec = Jvm.exec ∧ c.code = cc ∧ s.vm.findClass own = some m.cls ∧ (∀ w ∈ tb, w.before args s = true) ∧ va_K D cl tys s ∧ B ≤ s.heap.size ∧ meth.locks = false ∧ meth.sig.returnType = ret ∧ meth.name = nm ∧ X s s.heap
/-- the machine at pc with the abstract heap h of n cells, the locals L and the stack st comes to Q -/
def zz_W (D : va_G) (cl : List vw_C) (B : Nat) (p : Program) (l : Launch) (e : Env) (R : Room) (s : State) (m : MethodId) (args : Array Value) (below : List Frame) (meth : Method) (c : Code) (Q : State → Prop) (h : zz_H) (n cells slots : Nat) (L : List (Option Value)) (pc : Nat) (st : List Value) : Prop :=
  ∀ (H : Heap) (locs : List Loc) (ls : Array Slot), L.length = c.maxLocals → zz_I D cl B h n H → va_S (fun q => B ≤ q) s.heap H locs → zz_L ls L → W p l e R s m args below meth c H locs cells slots Q (F0 m pc ls st)
section ZA
variable {D : va_G} {cl : List vw_C} {tys : List (ClassId × FieldType)} {B : Nat} {tb : List Cond} {X : State → Heap → Prop} {p : Program} {l : Launch} {e : Env} {R : Room} {s : State} {m : MethodId} {args : Array Value} {below : List Frame} {meth : Method} {c : Code} {Q : State → Prop} {h : zz_H} {n cells slots : Nat} {L : List (Option Value)} {cc : ByteArray} {pc : Nat} {rest : List Value} {own nm : String} {ret : Option FieldType}

theorem z_iconst (C : zz_C D cl tys B tb X p s m args meth c cc own ret nm) {k : Int} {v : Int32} (d : decode cc pc = .ok (.iconst k, 1)) (hv : Int32.ofInt k = v) (k : zz_W D cl B p l e R s m args below meth c Q h n cells slots L (pc + 1) (.int v :: rest)) : zz_W D cl B p l e R s m args below meth c Q h n cells slots L pc (rest) := fun H locs ls a0 a1 a2 a3 => lv_iconst C.1 C.2.1 d hv (k H locs ls a0 a1 a2 a3)
theorem z_bipush (C : zz_C D cl tys B tb X p s m args meth c cc own ret nm) {k : Int} {v : Int32} (d : decode cc pc = .ok (.bipush k, 2)) (hv : (Int8.ofInt k).toInt32 = v) (k : zz_W D cl B p l e R s m args below meth c Q h n cells slots L (pc + 2) (.int v :: rest)) : zz_W D cl B p l e R s m args below meth c Q h n cells slots L pc (rest) := fun H locs ls a0 a1 a2 a3 => lv_bipush C.1 C.2.1 d hv (k H locs ls a0 a1 a2 a3)
theorem z_sipush (C : zz_C D cl tys B tb X p s m args meth c cc own ret nm) {k : Int} {v : Int32} (d : decode cc pc = .ok (.sipush k, 3)) (hv : (Int16.ofInt k).toInt32 = v) (k : zz_W D cl B p l e R s m args below meth c Q h n cells slots L (pc + 3) (.int v :: rest)) : zz_W D cl B p l e R s m args below meth c Q h n cells slots L pc (rest) := fun H locs ls a0 a1 a2 a3 => lv_sipush C.1 C.2.1 d hv (k H locs ls a0 a1 a2 a3)
theorem z_lconst (C : zz_C D cl tys B tb X p s m args meth c cc own ret nm) {k : Fin 2} {v : Int64} (d : decode cc pc = .ok (.lconst k, 1)) (hv : Int64.ofNat (k : Nat) = v) (k : zz_W D cl B p l e R s m args below meth c Q h n cells slots L (pc + 1) (.long v :: rest)) : zz_W D cl B p l e R s m args below meth c Q h n cells slots L pc (rest) := fun H locs ls a0 a1 a2 a3 => lv_lconst C.1 C.2.1 d hv (k H locs ls a0 a1 a2 a3)
theorem z_null (C : zz_C D cl tys B tb X p s m args meth c cc own ret nm)  (d : decode cc pc = .ok (.aconst_null, 1)) (k : zz_W D cl B p l e R s m args below meth c Q h n cells slots L (pc + 1) (.null :: rest)) : zz_W D cl B p l e R s m args below meth c Q h n cells slots L pc (rest) := fun H locs ls a0 a1 a2 a3 => lv_null C.1 C.2.1 d (k H locs ls a0 a1 a2 a3)
theorem z_ldc (C : zz_C D cl tys B tb X p s m args meth c cc own ret nm) {index : Nat} {v : Int32} (hw : Cond.constant own index v ∈ tb) (d : decode cc pc = .ok (.ldc index, 2)) (k : zz_W D cl B p l e R s m args below meth c Q h n cells slots L (pc + 2) (.int v :: rest)) : zz_W D cl B p l e R s m args below meth c Q h n cells slots L pc (rest) := fun H locs ls a0 a1 a2 a3 => lv_ldc C.1 C.2.1 C.2.2.1 (C.2.2.2.1 _ hw) d (k H locs ls a0 a1 a2 a3)
theorem z_ldc2 (C : zz_C D cl tys B tb X p s m args meth c cc own ret nm) {index : Nat} {v : Int64} (hw : Cond.constantLong own index v ∈ tb) (d : decode cc pc = .ok (.ldc2_w index, 3)) (k : zz_W D cl B p l e R s m args below meth c Q h n cells slots L (pc + 3) (.long v :: rest)) : zz_W D cl B p l e R s m args below meth c Q h n cells slots L pc (rest) := fun H locs ls a0 a1 a2 a3 => lv_ldc2 C.1 C.2.1 C.2.2.1 (C.2.2.2.1 _ hw) d (k H locs ls a0 a1 a2 a3)
theorem z_iload_n (C : zz_C D cl tys B tb X p s m args meth c cc own ret nm) {k : Fin 4} {x : Int32} (d : decode cc pc = .ok (.iload_n k, 1)) (hl : zz_l L (k : Nat) = some (.int x)) (k9 : zz_W D cl B p l e R s m args below meth c Q h n cells slots L (pc + 1) (.int x :: rest)) : zz_W D cl B p l e R s m args below meth c Q h n cells slots L pc (rest) := fun H locs ls a0 a1 a2 a3 => lv_iload_n C.1 C.2.1 d rfl (zz_at a3 hl) (k9 H locs ls a0 a1 a2 a3)
theorem z_iload (C : zz_C D cl tys B tb X p s m args meth c cc own ret nm) {i : Nat} {x : Int32} (d : decode cc pc = .ok (.iload i, 2)) (hl : zz_l L i = some (.int x)) (k9 : zz_W D cl B p l e R s m args below meth c Q h n cells slots L (pc + 2) (.int x :: rest)) : zz_W D cl B p l e R s m args below meth c Q h n cells slots L pc (rest) := fun H locs ls a0 a1 a2 a3 => lv_iload C.1 C.2.1 d (zz_at a3 hl) (k9 H locs ls a0 a1 a2 a3)
theorem z_istore_n (C : zz_C D cl tys B tb X p s m args meth c cc own ret nm) {k : Fin 4} {x : Int32} (d : decode cc pc = .ok (.istore_n k, 1)) (hs : zz_so L (k : Nat) = true) (k9 : zz_W D cl B p l e R s m args below meth c Q h n cells slots (zz_s L (k : Nat) (some (.int x))) (pc + 1) rest) : zz_W D cl B p l e R s m args below meth c Q h n cells slots L pc (.int x :: rest) := fun H locs ls a0 a1 a2 a3 => lv_istore_n C.1 C.2.1 d rfl a3 (zz_so_lt hs) rfl (fun ls' h' => k9 H locs ls' (by rw [zz_sl]; exact a0) a1 a2 (zz_st1 hs h'))
theorem z_istore (C : zz_C D cl tys B tb X p s m args meth c cc own ret nm) {i : Nat} {x : Int32} (d : decode cc pc = .ok (.istore i, 2)) (hs : zz_so L i = true) (k9 : zz_W D cl B p l e R s m args below meth c Q h n cells slots (zz_s L i (some (.int x))) (pc + 2) rest) : zz_W D cl B p l e R s m args below meth c Q h n cells slots L pc (.int x :: rest) := fun H locs ls a0 a1 a2 a3 => lv_istore C.1 C.2.1 d a3 (zz_so_lt hs) rfl (fun ls' h' => k9 H locs ls' (by rw [zz_sl]; exact a0) a1 a2 (zz_st1 hs h'))
theorem z_lload_n (C : zz_C D cl tys B tb X p s m args meth c cc own ret nm) {k : Fin 4} {x : Int64} (d : decode cc pc = .ok (.lload_n k, 1)) (hl : zz_l L (k : Nat) = some (.long x)) (k9 : zz_W D cl B p l e R s m args below meth c Q h n cells slots L (pc + 1) (.long x :: rest)) : zz_W D cl B p l e R s m args below meth c Q h n cells slots L pc (rest) := fun H locs ls a0 a1 a2 a3 => lv_lload_n C.1 C.2.1 d rfl (zz_at a3 hl) (k9 H locs ls a0 a1 a2 a3)
theorem z_lload (C : zz_C D cl tys B tb X p s m args meth c cc own ret nm) {i : Nat} {x : Int64} (d : decode cc pc = .ok (.lload i, 2)) (hl : zz_l L i = some (.long x)) (k9 : zz_W D cl B p l e R s m args below meth c Q h n cells slots L (pc + 2) (.long x :: rest)) : zz_W D cl B p l e R s m args below meth c Q h n cells slots L pc (rest) := fun H locs ls a0 a1 a2 a3 => lv_lload C.1 C.2.1 d (zz_at a3 hl) (k9 H locs ls a0 a1 a2 a3)
theorem z_lstore_n (C : zz_C D cl tys B tb X p s m args meth c cc own ret nm) {k : Fin 4} {x : Int64} (d : decode cc pc = .ok (.lstore_n k, 1)) (hs : zz_so2 L (k : Nat) = true) (k9 : zz_W D cl B p l e R s m args below meth c Q h n cells slots (zz_s (zz_s L (k : Nat) (some (.long x))) ((k : Nat) + 1) none) (pc + 1) rest) : zz_W D cl B p l e R s m args below meth c Q h n cells slots L pc (.long x :: rest) := fun H locs ls a0 a1 a2 a3 => lv_lstore_n C.1 C.2.1 d rfl a3 (zz_so2_lt hs) rfl (fun ls' h' => k9 H locs ls' (by rw [zz_sl, zz_sl]; exact a0) a1 a2 (zz_st2 hs h'))
theorem z_lstore (C : zz_C D cl tys B tb X p s m args meth c cc own ret nm) {i : Nat} {x : Int64} (d : decode cc pc = .ok (.lstore i, 2)) (hs : zz_so2 L i = true) (k9 : zz_W D cl B p l e R s m args below meth c Q h n cells slots (zz_s (zz_s L i (some (.long x))) (i + 1) none) (pc + 2) rest) : zz_W D cl B p l e R s m args below meth c Q h n cells slots L pc (.long x :: rest) := fun H locs ls a0 a1 a2 a3 => lv_lstore C.1 C.2.1 d a3 (zz_so2_lt hs) rfl (fun ls' h' => k9 H locs ls' (by rw [zz_sl, zz_sl]; exact a0) a1 a2 (zz_st2 hs h'))
theorem z_aload_n (C : zz_C D cl tys B tb X p s m args meth c cc own ret nm) {k : Fin 4} {x : Nat} (d : decode cc pc = .ok (.aload_n k, 1)) (hl : zz_l L (k : Nat) = some (.ref x)) (k9 : zz_W D cl B p l e R s m args below meth c Q h n cells slots L (pc + 1) (.ref x :: rest)) : zz_W D cl B p l e R s m args below meth c Q h n cells slots L pc (rest) := fun H locs ls a0 a1 a2 a3 => lv_aload_n C.1 C.2.1 d rfl (zz_at a3 hl) (k9 H locs ls a0 a1 a2 a3)
theorem z_aload (C : zz_C D cl tys B tb X p s m args meth c cc own ret nm) {i : Nat} {x : Nat} (d : decode cc pc = .ok (.aload i, 2)) (hl : zz_l L i = some (.ref x)) (k9 : zz_W D cl B p l e R s m args below meth c Q h n cells slots L (pc + 2) (.ref x :: rest)) : zz_W D cl B p l e R s m args below meth c Q h n cells slots L pc (rest) := fun H locs ls a0 a1 a2 a3 => lv_aload C.1 C.2.1 d (zz_at a3 hl) (k9 H locs ls a0 a1 a2 a3)
theorem z_astore_n (C : zz_C D cl tys B tb X p s m args meth c cc own ret nm) {k : Fin 4} {x : Nat} (d : decode cc pc = .ok (.astore_n k, 1)) (hs : zz_so L (k : Nat) = true) (k9 : zz_W D cl B p l e R s m args below meth c Q h n cells slots (zz_s L (k : Nat) (some (.ref x))) (pc + 1) rest) : zz_W D cl B p l e R s m args below meth c Q h n cells slots L pc (.ref x :: rest) := fun H locs ls a0 a1 a2 a3 => lv_astore_n C.1 C.2.1 d rfl a3 (zz_so_lt hs) rfl (fun ls' h' => k9 H locs ls' (by rw [zz_sl]; exact a0) a1 a2 (zz_st1 hs h'))
theorem z_astore (C : zz_C D cl tys B tb X p s m args meth c cc own ret nm) {i : Nat} {x : Nat} (d : decode cc pc = .ok (.astore i, 2)) (hs : zz_so L i = true) (k9 : zz_W D cl B p l e R s m args below meth c Q h n cells slots (zz_s L i (some (.ref x))) (pc + 2) rest) : zz_W D cl B p l e R s m args below meth c Q h n cells slots L pc (.ref x :: rest) := fun H locs ls a0 a1 a2 a3 => lv_astore C.1 C.2.1 d a3 (zz_so_lt hs) rfl (fun ls' h' => k9 H locs ls' (by rw [zz_sl]; exact a0) a1 a2 (zz_st1 hs h'))
theorem zz_pk {L : List (Option Value)} {i : Nat} {v : Value} (h : zz_l L i = some v) : ∃ k : Nat, (zz_p 0 L)[k]? = some (i, v) := List.getElem?_of_mem ((zz_pl L 0 i v).mpr ⟨i, (Nat.zero_add i).symm, h⟩)
theorem z_iinc (C : zz_C D cl tys B tb X p s m args meth c cc own ret nm) {i : Nat} {k : Int} {x : Int32} (d : decode cc pc = .ok (.iinc i k, 3)) (hl : zz_l L i = some (.int x)) (hs : zz_so L i = true) (k9 : zz_W D cl B p l e R s m args below meth c Q h n cells slots (zz_s L i (some (.int (x + Int32.ofInt k)))) (pc + 3) rest) : zz_W D cl B p l e R s m args below meth c Q h n cells slots L pc rest := by
  intro H locs ls a0 a1 a2 a3
  obtain ⟨j, hj⟩ := zz_pk hl
  exact lv_iinc C.1 C.2.1 d a3 hj rfl (zz_so_lt hs) rfl (fun ls' h' => k9 H locs ls' (by rw [zz_sl]; exact a0) a1 a2 (zz_st1 hs h'))
theorem z_iadd (C : zz_C D cl tys B tb X p s m args meth c cc own ret nm) {x y : Int32} (d : decode cc pc = .ok (.iadd, 1)) (k : zz_W D cl B p l e R s m args below meth c Q h n cells slots L (pc + 1) (.int (x + y) :: rest)) : zz_W D cl B p l e R s m args below meth c Q h n cells slots L pc (.int y :: .int x :: rest) := fun H locs ls a0 a1 a2 a3 => lv_iadd C.1 C.2.1 d (k H locs ls a0 a1 a2 a3)
theorem z_isub (C : zz_C D cl tys B tb X p s m args meth c cc own ret nm) {x y : Int32} (d : decode cc pc = .ok (.isub, 1)) (k : zz_W D cl B p l e R s m args below meth c Q h n cells slots L (pc + 1) (.int (x - y) :: rest)) : zz_W D cl B p l e R s m args below meth c Q h n cells slots L pc (.int y :: .int x :: rest) := fun H locs ls a0 a1 a2 a3 => lv_isub C.1 C.2.1 d (k H locs ls a0 a1 a2 a3)
theorem z_imul (C : zz_C D cl tys B tb X p s m args meth c cc own ret nm) {x y : Int32} (d : decode cc pc = .ok (.imul, 1)) (k : zz_W D cl B p l e R s m args below meth c Q h n cells slots L (pc + 1) (.int (x * y) :: rest)) : zz_W D cl B p l e R s m args below meth c Q h n cells slots L pc (.int y :: .int x :: rest) := fun H locs ls a0 a1 a2 a3 => lv_imul C.1 C.2.1 d (k H locs ls a0 a1 a2 a3)
theorem z_iand (C : zz_C D cl tys B tb X p s m args meth c cc own ret nm) {x y : Int32} (d : decode cc pc = .ok (.iand, 1)) (k : zz_W D cl B p l e R s m args below meth c Q h n cells slots L (pc + 1) (.int (x &&& y) :: rest)) : zz_W D cl B p l e R s m args below meth c Q h n cells slots L pc (.int y :: .int x :: rest) := fun H locs ls a0 a1 a2 a3 => lv_iand C.1 C.2.1 d (k H locs ls a0 a1 a2 a3)
theorem z_ior (C : zz_C D cl tys B tb X p s m args meth c cc own ret nm) {x y : Int32} (d : decode cc pc = .ok (.ior, 1)) (k : zz_W D cl B p l e R s m args below meth c Q h n cells slots L (pc + 1) (.int (x ||| y) :: rest)) : zz_W D cl B p l e R s m args below meth c Q h n cells slots L pc (.int y :: .int x :: rest) := fun H locs ls a0 a1 a2 a3 => lv_ior C.1 C.2.1 d (k H locs ls a0 a1 a2 a3)
theorem z_ixor (C : zz_C D cl tys B tb X p s m args meth c cc own ret nm) {x y : Int32} (d : decode cc pc = .ok (.ixor, 1)) (k : zz_W D cl B p l e R s m args below meth c Q h n cells slots L (pc + 1) (.int (x ^^^ y) :: rest)) : zz_W D cl B p l e R s m args below meth c Q h n cells slots L pc (.int y :: .int x :: rest) := fun H locs ls a0 a1 a2 a3 => lv_ixor C.1 C.2.1 d (k H locs ls a0 a1 a2 a3)
theorem z_ladd (C : zz_C D cl tys B tb X p s m args meth c cc own ret nm) {x y : Int64} (d : decode cc pc = .ok (.ladd, 1)) (k : zz_W D cl B p l e R s m args below meth c Q h n cells slots L (pc + 1) (.long (x + y) :: rest)) : zz_W D cl B p l e R s m args below meth c Q h n cells slots L pc (.long y :: .long x :: rest) := fun H locs ls a0 a1 a2 a3 => lv_ladd C.1 C.2.1 d (k H locs ls a0 a1 a2 a3)
theorem z_lsub (C : zz_C D cl tys B tb X p s m args meth c cc own ret nm) {x y : Int64} (d : decode cc pc = .ok (.lsub, 1)) (k : zz_W D cl B p l e R s m args below meth c Q h n cells slots L (pc + 1) (.long (x - y) :: rest)) : zz_W D cl B p l e R s m args below meth c Q h n cells slots L pc (.long y :: .long x :: rest) := fun H locs ls a0 a1 a2 a3 => lv_lsub C.1 C.2.1 d (k H locs ls a0 a1 a2 a3)
theorem z_land (C : zz_C D cl tys B tb X p s m args meth c cc own ret nm) {x y : Int64} (d : decode cc pc = .ok (.land, 1)) (k : zz_W D cl B p l e R s m args below meth c Q h n cells slots L (pc + 1) (.long (x &&& y) :: rest)) : zz_W D cl B p l e R s m args below meth c Q h n cells slots L pc (.long y :: .long x :: rest) := fun H locs ls a0 a1 a2 a3 => lv_land C.1 C.2.1 d (k H locs ls a0 a1 a2 a3)
theorem z_lor (C : zz_C D cl tys B tb X p s m args meth c cc own ret nm) {x y : Int64} (d : decode cc pc = .ok (.lor, 1)) (k : zz_W D cl B p l e R s m args below meth c Q h n cells slots L (pc + 1) (.long (x ||| y) :: rest)) : zz_W D cl B p l e R s m args below meth c Q h n cells slots L pc (.long y :: .long x :: rest) := fun H locs ls a0 a1 a2 a3 => lv_lor C.1 C.2.1 d (k H locs ls a0 a1 a2 a3)
theorem z_lxor (C : zz_C D cl tys B tb X p s m args meth c cc own ret nm) {x y : Int64} (d : decode cc pc = .ok (.lxor, 1)) (k : zz_W D cl B p l e R s m args below meth c Q h n cells slots L (pc + 1) (.long (x ^^^ y) :: rest)) : zz_W D cl B p l e R s m args below meth c Q h n cells slots L pc (.long y :: .long x :: rest) := fun H locs ls a0 a1 a2 a3 => lv_lxor C.1 C.2.1 d (k H locs ls a0 a1 a2 a3)
theorem z_ishl (C : zz_C D cl tys B tb X p s m args meth c cc own ret nm) {x y : Int32} (d : decode cc pc = .ok (.ishl, 1)) (k : zz_W D cl B p l e R s m args below meth c Q h n cells slots L (pc + 1) (.int (x <<< (y &&& 31)) :: rest)) : zz_W D cl B p l e R s m args below meth c Q h n cells slots L pc (.int y :: .int x :: rest) := fun H locs ls a0 a1 a2 a3 => lv_ishl C.1 C.2.1 d (k H locs ls a0 a1 a2 a3)
theorem z_ishr (C : zz_C D cl tys B tb X p s m args meth c cc own ret nm) {x y : Int32} (d : decode cc pc = .ok (.ishr, 1)) (k : zz_W D cl B p l e R s m args below meth c Q h n cells slots L (pc + 1) (.int (x >>> (y &&& 31)) :: rest)) : zz_W D cl B p l e R s m args below meth c Q h n cells slots L pc (.int y :: .int x :: rest) := fun H locs ls a0 a1 a2 a3 => lv_ishr C.1 C.2.1 d (k H locs ls a0 a1 a2 a3)
theorem z_idiv (C : zz_C D cl tys B tb X p s m args meth c cc own ret nm) {x y : Int32} (d : decode cc pc = .ok (.idiv, 1)) (hne : ¬ y = 0) (k : zz_W D cl B p l e R s m args below meth c Q h n cells slots L (pc + 1) (.int (x / y) :: rest)) : zz_W D cl B p l e R s m args below meth c Q h n cells slots L pc (.int y :: .int x :: rest) := fun H locs ls a0 a1 a2 a3 => lv_idiv C.1 C.2.1 d hne (k H locs ls a0 a1 a2 a3)
theorem z_irem (C : zz_C D cl tys B tb X p s m args meth c cc own ret nm) {x y : Int32} (d : decode cc pc = .ok (.irem, 1)) (hne : ¬ y = 0) (k : zz_W D cl B p l e R s m args below meth c Q h n cells slots L (pc + 1) (.int (x - x / y * y) :: rest)) : zz_W D cl B p l e R s m args below meth c Q h n cells slots L pc (.int y :: .int x :: rest) := fun H locs ls a0 a1 a2 a3 => lv_irem C.1 C.2.1 d hne (k H locs ls a0 a1 a2 a3)
theorem z_ineg (C : zz_C D cl tys B tb X p s m args meth c cc own ret nm) {x : Int32} (d : decode cc pc = .ok (.ineg, 1)) (k : zz_W D cl B p l e R s m args below meth c Q h n cells slots L (pc + 1) (.int (-x) :: rest)) : zz_W D cl B p l e R s m args below meth c Q h n cells slots L pc (.int x :: rest) := fun H locs ls a0 a1 a2 a3 => lv_ineg C.1 C.2.1 d (k H locs ls a0 a1 a2 a3)
theorem z_i2l (C : zz_C D cl tys B tb X p s m args meth c cc own ret nm) {x : Int32} (d : decode cc pc = .ok (.i2l, 1)) (k : zz_W D cl B p l e R s m args below meth c Q h n cells slots L (pc + 1) (.long x.toInt64 :: rest)) : zz_W D cl B p l e R s m args below meth c Q h n cells slots L pc (.int x :: rest) := fun H locs ls a0 a1 a2 a3 => lv_i2l C.1 C.2.1 d rfl (k H locs ls a0 a1 a2 a3)
theorem z_l2i (C : zz_C D cl tys B tb X p s m args meth c cc own ret nm) {x : Int64} (d : decode cc pc = .ok (.l2i, 1)) (k : zz_W D cl B p l e R s m args below meth c Q h n cells slots L (pc + 1) (.int x.toInt32 :: rest)) : zz_W D cl B p l e R s m args below meth c Q h n cells slots L pc (.long x :: rest) := fun H locs ls a0 a1 a2 a3 => lv_l2i C.1 C.2.1 d rfl (k H locs ls a0 a1 a2 a3)
theorem z_iushr (C : zz_C D cl tys B tb X p s m args meth c cc own ret nm) {x y : Int32} (d : decode cc pc = .ok (.iushr, 1)) (k : zz_W D cl B p l e R s m args below meth c Q h n cells slots L (pc + 1) (.int (x.toUInt32 >>> (y.toUInt32 &&& Int32.toUInt32 31)).toInt32 :: rest)) : zz_W D cl B p l e R s m args below meth c Q h n cells slots L pc (.int y :: .int x :: rest) := fun H locs ls a0 a1 a2 a3 => lv_iushr C.1 C.2.1 d rfl (k H locs ls a0 a1 a2 a3)
theorem z_lushr (C : zz_C D cl tys B tb X p s m args meth c cc own ret nm) {x : Int64} {y : Int32} (d : decode cc pc = .ok (.lushr, 1)) (k : zz_W D cl B p l e R s m args below meth c Q h n cells slots L (pc + 1) (.long (x.toUInt64 >>> (y.toInt64.toUInt64 &&& Int64.toUInt64 63)).toInt64 :: rest)) : zz_W D cl B p l e R s m args below meth c Q h n cells slots L pc (.int y :: .long x :: rest) := fun H locs ls a0 a1 a2 a3 => lv_lushr C.1 C.2.1 d rfl (k H locs ls a0 a1 a2 a3)
theorem z_lshl (C : zz_C D cl tys B tb X p s m args meth c cc own ret nm) {x : Int64} {y : Int32} (d : decode cc pc = .ok (.lshl, 1)) (k : zz_W D cl B p l e R s m args below meth c Q h n cells slots L (pc + 1) (.long (x <<< (y.toInt64 &&& 63)) :: rest)) : zz_W D cl B p l e R s m args below meth c Q h n cells slots L pc (.int y :: .long x :: rest) := fun H locs ls a0 a1 a2 a3 => lv_lshl C.1 C.2.1 d rfl (k H locs ls a0 a1 a2 a3)
theorem z_lshr (C : zz_C D cl tys B tb X p s m args meth c cc own ret nm) {x : Int64} {y : Int32} (d : decode cc pc = .ok (.lshr, 1)) (k : zz_W D cl B p l e R s m args below meth c Q h n cells slots L (pc + 1) (.long (x >>> (y.toInt64 &&& 63)) :: rest)) : zz_W D cl B p l e R s m args below meth c Q h n cells slots L pc (.int y :: .long x :: rest) := fun H locs ls a0 a1 a2 a3 => lv_lshr C.1 C.2.1 d rfl (k H locs ls a0 a1 a2 a3)
theorem z_lcmp (C : zz_C D cl tys B tb X p s m args meth c cc own ret nm) {x y : Int64} (d : decode cc pc = .ok (.lcmp, 1)) (k : zz_W D cl B p l e R s m args below meth c Q h n cells slots L (pc + 1) (.int (lg_cmp x y) :: rest)) : zz_W D cl B p l e R s m args below meth c Q h n cells slots L pc (.long y :: .long x :: rest) := fun H locs ls a0 a1 a2 a3 => W.lcmp C.1 C.2.1 d (k H locs ls a0 a1 a2 a3)
theorem z_dup (C : zz_C D cl tys B tb X p s m args meth c cc own ret nm) {va : Value} (d : decode cc pc = .ok (.dup, 1)) (hva : va.category = 1) (k : zz_W D cl B p l e R s m args below meth c Q h n cells slots L (pc + 1) (va :: va :: rest)) : zz_W D cl B p l e R s m args below meth c Q h n cells slots L pc (va :: rest) := fun H locs ls a0 a1 a2 a3 => lv_dup C.1 C.2.1 d hva (k H locs ls a0 a1 a2 a3)
theorem z_pop (C : zz_C D cl tys B tb X p s m args meth c cc own ret nm) {va : Value} (d : decode cc pc = .ok (.pop, 1)) (hva : va.category = 1) (k : zz_W D cl B p l e R s m args below meth c Q h n cells slots L (pc + 1) (rest)) : zz_W D cl B p l e R s m args below meth c Q h n cells slots L pc (va :: rest) := fun H locs ls a0 a1 a2 a3 => lv_pop C.1 C.2.1 d hva (k H locs ls a0 a1 a2 a3)
theorem z_dup_x1 (C : zz_C D cl tys B tb X p s m args meth c cc own ret nm) {va vb : Value} (d : decode cc pc = .ok (.dup_x1, 1)) (hva : va.category = 1) (hvb : vb.category = 1) (k : zz_W D cl B p l e R s m args below meth c Q h n cells slots L (pc + 1) (va :: vb :: va :: rest)) : zz_W D cl B p l e R s m args below meth c Q h n cells slots L pc (va :: vb :: rest) := fun H locs ls a0 a1 a2 a3 => lv_dup_x1 C.1 C.2.1 d hva hvb (k H locs ls a0 a1 a2 a3)
theorem z_dup_x2 (C : zz_C D cl tys B tb X p s m args meth c cc own ret nm) {va vb vd : Value} (d : decode cc pc = .ok (.dup_x2, 1)) (hva : va.category = 1) (hvb : vb.category = 1) (hvd : vd.category = 1) (k : zz_W D cl B p l e R s m args below meth c Q h n cells slots L (pc + 1) (va :: vb :: vd :: va :: rest)) : zz_W D cl B p l e R s m args below meth c Q h n cells slots L pc (va :: vb :: vd :: rest) := fun H locs ls a0 a1 a2 a3 => lv_dup_x2 C.1 C.2.1 d hva hvb hvd (k H locs ls a0 a1 a2 a3)
theorem z_dup2_11 (C : zz_C D cl tys B tb X p s m args meth c cc own ret nm) {va vb : Value} (d : decode cc pc = .ok (.dup2, 1)) (hva : va.category = 1) (hvb : vb.category = 1) (k : zz_W D cl B p l e R s m args below meth c Q h n cells slots L (pc + 1) (va :: vb :: va :: vb :: rest)) : zz_W D cl B p l e R s m args below meth c Q h n cells slots L pc (va :: vb :: rest) := fun H locs ls a0 a1 a2 a3 => lv_dup2_11 C.1 C.2.1 d hva hvb (k H locs ls a0 a1 a2 a3)
theorem z_dup2_2 (C : zz_C D cl tys B tb X p s m args meth c cc own ret nm) {va : Value} (d : decode cc pc = .ok (.dup2, 1)) (hva : va.category = 2) (k : zz_W D cl B p l e R s m args below meth c Q h n cells slots L (pc + 1) (va :: va :: rest)) : zz_W D cl B p l e R s m args below meth c Q h n cells slots L pc (va :: rest) := fun H locs ls a0 a1 a2 a3 => lv_dup2_2 C.1 C.2.1 d hva (k H locs ls a0 a1 a2 a3)
theorem z_if_eq (C : zz_C D cl tys B tb X p s m args meth c cc own ret nm) {x : Int32} {off : Int} {tgt : Nat} (d : decode cc pc = .ok (.ifCond .eq off, 3)) (ht : (pc : Int) + off = (tgt : Int)) (kt : x = 0 → zz_W D cl B p l e R s m args below meth c Q h n cells slots L tgt rest) (kf : ¬ x = 0 → zz_W D cl B p l e R s m args below meth c Q h n cells slots L (pc + 3) rest) : zz_W D cl B p l e R s m args below meth c Q h n cells slots L pc (.int x :: rest) := fun H locs ls a0 a1 a2 a3 => lv_if_eq C.1 C.2.1 d ht (fun q => kt q H locs ls a0 a1 a2 a3) (fun q => kf q H locs ls a0 a1 a2 a3)
theorem z_icmp_eq (C : zz_C D cl tys B tb X p s m args meth c cc own ret nm) {x y : Int32} {off : Int} {tgt : Nat} (d : decode cc pc = .ok (.if_icmp .eq off, 3)) (ht : (pc : Int) + off = (tgt : Int)) (kt : x = y → zz_W D cl B p l e R s m args below meth c Q h n cells slots L tgt rest) (kf : ¬ x = y → zz_W D cl B p l e R s m args below meth c Q h n cells slots L (pc + 3) rest) : zz_W D cl B p l e R s m args below meth c Q h n cells slots L pc (.int y :: .int x :: rest) := fun H locs ls a0 a1 a2 a3 => lv_icmp_eq C.1 C.2.1 d ht (fun q => kt q H locs ls a0 a1 a2 a3) (fun q => kf q H locs ls a0 a1 a2 a3)
theorem z_if_ne (C : zz_C D cl tys B tb X p s m args meth c cc own ret nm) {x : Int32} {off : Int} {tgt : Nat} (d : decode cc pc = .ok (.ifCond .ne off, 3)) (ht : (pc : Int) + off = (tgt : Int)) (kt : ¬ x = 0 → zz_W D cl B p l e R s m args below meth c Q h n cells slots L tgt rest) (kf : x = 0 → zz_W D cl B p l e R s m args below meth c Q h n cells slots L (pc + 3) rest) : zz_W D cl B p l e R s m args below meth c Q h n cells slots L pc (.int x :: rest) := fun H locs ls a0 a1 a2 a3 => lv_if_ne C.1 C.2.1 d ht (fun q => kt q H locs ls a0 a1 a2 a3) (fun q => kf q H locs ls a0 a1 a2 a3)
theorem z_icmp_ne (C : zz_C D cl tys B tb X p s m args meth c cc own ret nm) {x y : Int32} {off : Int} {tgt : Nat} (d : decode cc pc = .ok (.if_icmp .ne off, 3)) (ht : (pc : Int) + off = (tgt : Int)) (kt : ¬ x = y → zz_W D cl B p l e R s m args below meth c Q h n cells slots L tgt rest) (kf : x = y → zz_W D cl B p l e R s m args below meth c Q h n cells slots L (pc + 3) rest) : zz_W D cl B p l e R s m args below meth c Q h n cells slots L pc (.int y :: .int x :: rest) := fun H locs ls a0 a1 a2 a3 => lv_icmp_ne C.1 C.2.1 d ht (fun q => kt q H locs ls a0 a1 a2 a3) (fun q => kf q H locs ls a0 a1 a2 a3)
theorem z_if_lt (C : zz_C D cl tys B tb X p s m args meth c cc own ret nm) {x : Int32} {off : Int} {tgt : Nat} (d : decode cc pc = .ok (.ifCond .lt off, 3)) (ht : (pc : Int) + off = (tgt : Int)) (kt : x < 0 → zz_W D cl B p l e R s m args below meth c Q h n cells slots L tgt rest) (kf : ¬ x < 0 → zz_W D cl B p l e R s m args below meth c Q h n cells slots L (pc + 3) rest) : zz_W D cl B p l e R s m args below meth c Q h n cells slots L pc (.int x :: rest) := fun H locs ls a0 a1 a2 a3 => lv_if_lt C.1 C.2.1 d ht (fun q => kt q H locs ls a0 a1 a2 a3) (fun q => kf q H locs ls a0 a1 a2 a3)
theorem z_icmp_lt (C : zz_C D cl tys B tb X p s m args meth c cc own ret nm) {x y : Int32} {off : Int} {tgt : Nat} (d : decode cc pc = .ok (.if_icmp .lt off, 3)) (ht : (pc : Int) + off = (tgt : Int)) (kt : x < y → zz_W D cl B p l e R s m args below meth c Q h n cells slots L tgt rest) (kf : ¬ x < y → zz_W D cl B p l e R s m args below meth c Q h n cells slots L (pc + 3) rest) : zz_W D cl B p l e R s m args below meth c Q h n cells slots L pc (.int y :: .int x :: rest) := fun H locs ls a0 a1 a2 a3 => lv_icmp_lt C.1 C.2.1 d ht (fun q => kt q H locs ls a0 a1 a2 a3) (fun q => kf q H locs ls a0 a1 a2 a3)
theorem z_if_ge (C : zz_C D cl tys B tb X p s m args meth c cc own ret nm) {x : Int32} {off : Int} {tgt : Nat} (d : decode cc pc = .ok (.ifCond .ge off, 3)) (ht : (pc : Int) + off = (tgt : Int)) (kt : 0 ≤ x → zz_W D cl B p l e R s m args below meth c Q h n cells slots L tgt rest) (kf : ¬ 0 ≤ x → zz_W D cl B p l e R s m args below meth c Q h n cells slots L (pc + 3) rest) : zz_W D cl B p l e R s m args below meth c Q h n cells slots L pc (.int x :: rest) := fun H locs ls a0 a1 a2 a3 => lv_if_ge C.1 C.2.1 d ht (fun q => kt q H locs ls a0 a1 a2 a3) (fun q => kf q H locs ls a0 a1 a2 a3)
theorem z_icmp_ge (C : zz_C D cl tys B tb X p s m args meth c cc own ret nm) {x y : Int32} {off : Int} {tgt : Nat} (d : decode cc pc = .ok (.if_icmp .ge off, 3)) (ht : (pc : Int) + off = (tgt : Int)) (kt : y ≤ x → zz_W D cl B p l e R s m args below meth c Q h n cells slots L tgt rest) (kf : ¬ y ≤ x → zz_W D cl B p l e R s m args below meth c Q h n cells slots L (pc + 3) rest) : zz_W D cl B p l e R s m args below meth c Q h n cells slots L pc (.int y :: .int x :: rest) := fun H locs ls a0 a1 a2 a3 => lv_icmp_ge C.1 C.2.1 d ht (fun q => kt q H locs ls a0 a1 a2 a3) (fun q => kf q H locs ls a0 a1 a2 a3)
theorem z_if_gt (C : zz_C D cl tys B tb X p s m args meth c cc own ret nm) {x : Int32} {off : Int} {tgt : Nat} (d : decode cc pc = .ok (.ifCond .gt off, 3)) (ht : (pc : Int) + off = (tgt : Int)) (kt : 0 < x → zz_W D cl B p l e R s m args below meth c Q h n cells slots L tgt rest) (kf : ¬ 0 < x → zz_W D cl B p l e R s m args below meth c Q h n cells slots L (pc + 3) rest) : zz_W D cl B p l e R s m args below meth c Q h n cells slots L pc (.int x :: rest) := fun H locs ls a0 a1 a2 a3 => lv_if_gt C.1 C.2.1 d ht (fun q => kt q H locs ls a0 a1 a2 a3) (fun q => kf q H locs ls a0 a1 a2 a3)
theorem z_icmp_gt (C : zz_C D cl tys B tb X p s m args meth c cc own ret nm) {x y : Int32} {off : Int} {tgt : Nat} (d : decode cc pc = .ok (.if_icmp .gt off, 3)) (ht : (pc : Int) + off = (tgt : Int)) (kt : y < x → zz_W D cl B p l e R s m args below meth c Q h n cells slots L tgt rest) (kf : ¬ y < x → zz_W D cl B p l e R s m args below meth c Q h n cells slots L (pc + 3) rest) : zz_W D cl B p l e R s m args below meth c Q h n cells slots L pc (.int y :: .int x :: rest) := fun H locs ls a0 a1 a2 a3 => lv_icmp_gt C.1 C.2.1 d ht (fun q => kt q H locs ls a0 a1 a2 a3) (fun q => kf q H locs ls a0 a1 a2 a3)
theorem z_if_le (C : zz_C D cl tys B tb X p s m args meth c cc own ret nm) {x : Int32} {off : Int} {tgt : Nat} (d : decode cc pc = .ok (.ifCond .le off, 3)) (ht : (pc : Int) + off = (tgt : Int)) (kt : x ≤ 0 → zz_W D cl B p l e R s m args below meth c Q h n cells slots L tgt rest) (kf : ¬ x ≤ 0 → zz_W D cl B p l e R s m args below meth c Q h n cells slots L (pc + 3) rest) : zz_W D cl B p l e R s m args below meth c Q h n cells slots L pc (.int x :: rest) := fun H locs ls a0 a1 a2 a3 => lv_if_le C.1 C.2.1 d ht (fun q => kt q H locs ls a0 a1 a2 a3) (fun q => kf q H locs ls a0 a1 a2 a3)
theorem z_icmp_le (C : zz_C D cl tys B tb X p s m args meth c cc own ret nm) {x y : Int32} {off : Int} {tgt : Nat} (d : decode cc pc = .ok (.if_icmp .le off, 3)) (ht : (pc : Int) + off = (tgt : Int)) (kt : x ≤ y → zz_W D cl B p l e R s m args below meth c Q h n cells slots L tgt rest) (kf : ¬ x ≤ y → zz_W D cl B p l e R s m args below meth c Q h n cells slots L (pc + 3) rest) : zz_W D cl B p l e R s m args below meth c Q h n cells slots L pc (.int y :: .int x :: rest) := fun H locs ls a0 a1 a2 a3 => lv_icmp_le C.1 C.2.1 d ht (fun q => kt q H locs ls a0 a1 a2 a3) (fun q => kf q H locs ls a0 a1 a2 a3)
theorem z_goto (C : zz_C D cl tys B tb X p s m args meth c cc own ret nm) {off : Int} {tgt : Nat} (d : decode cc pc = .ok (.goto off, 3)) (ht : (pc : Int) + off = (tgt : Int)) (k : zz_W D cl B p l e R s m args below meth c Q h n cells slots L tgt rest) : zz_W D cl B p l e R s m args below meth c Q h n cells slots L pc rest := fun H locs ls a0 a1 a2 a3 => lv_goto C.1 C.2.1 d ht (k H locs ls a0 a1 a2 a3)
theorem z_tableIn (C : zz_C D cl tys B tb X p s m args meth c cc own ret nm) {dflt lo hi : Int} {offs : Array Int} {len : Nat} {x : Int32} {off : Int} {tgt : Nat} (d : decode cc pc = .ok (.tableswitch dflt lo hi offs, len)) (h1 : ¬ x.toInt < lo) (h2 : ¬ hi < x.toInt) (ho : offs[(x.toInt - lo).toNat]? = some off) (ht : (pc : Int) + off = (tgt : Int)) (k : zz_W D cl B p l e R s m args below meth c Q h n cells slots L tgt rest) : zz_W D cl B p l e R s m args below meth c Q h n cells slots L pc (.int x :: rest) := fun H locs ls a0 a1 a2 a3 => lv_tableIn C.1 C.2.1 d h1 h2 ho ht (k H locs ls a0 a1 a2 a3)
theorem z_tableOut (C : zz_C D cl tys B tb X p s m args meth c cc own ret nm) {dflt lo hi : Int} {offs : Array Int} {len : Nat} {x : Int32} {tgt : Nat} (d : decode cc pc = .ok (.tableswitch dflt lo hi offs, len)) (h9 : x.toInt < lo ∨ hi < x.toInt) (ht : (pc : Int) + dflt = (tgt : Int)) (k : zz_W D cl B p l e R s m args below meth c Q h n cells slots L tgt rest) : zz_W D cl B p l e R s m args below meth c Q h n cells slots L pc (.int x :: rest) := fun H locs ls a0 a1 a2 a3 => lv_tableOut C.1 C.2.1 d h9 ht (k H locs ls a0 a1 a2 a3)
theorem z_acmp_eq (C : zz_C D cl tys B tb X p s m args meth c cc own ret nm) {rx ry : Option Nat} {off : Int} {tgt : Nat} (d : decode cc pc = .ok (.if_acmp .eq off, 3)) (ht : (pc : Int) + off = (tgt : Int)) (kt : rx = ry → zz_W D cl B p l e R s m args below meth c Q h n cells slots L tgt rest) (kf : ¬ rx = ry → zz_W D cl B p l e R s m args below meth c Q h n cells slots L (pc + 3) rest) : zz_W D cl B p l e R s m args below meth c Q h n cells slots L pc (va_rf ry :: va_rf rx :: rest) := fun H locs ls a0 a1 a2 a3 => lv_acmp_eq C.1 C.2.1 d ht (fun q => kt q H locs ls a0 a1 a2 a3) (fun q => kf q H locs ls a0 a1 a2 a3)
theorem z_acmp_ne (C : zz_C D cl tys B tb X p s m args meth c cc own ret nm) {rx ry : Option Nat} {off : Int} {tgt : Nat} (d : decode cc pc = .ok (.if_acmp .ne off, 3)) (ht : (pc : Int) + off = (tgt : Int)) (kt : ¬ rx = ry → zz_W D cl B p l e R s m args below meth c Q h n cells slots L tgt rest) (kf : rx = ry → zz_W D cl B p l e R s m args below meth c Q h n cells slots L (pc + 3) rest) : zz_W D cl B p l e R s m args below meth c Q h n cells slots L pc (va_rf ry :: va_rf rx :: rest) := fun H locs ls a0 a1 a2 a3 => lv_acmp_ne C.1 C.2.1 d ht (fun q => kt q H locs ls a0 a1 a2 a3) (fun q => kf q H locs ls a0 a1 a2 a3)
theorem z_topi {x y : Int32} (hxy : y = x) (k : zz_W D cl B p l e R s m args below meth c Q h n cells slots L pc (.int y :: rest)) : zz_W D cl B p l e R s m args below meth c Q h n cells slots L pc (.int x :: rest) := hxy ▸ k
theorem z_widen {c1 s1 : Nat} {st : List Value} (h1 : cells ≤ c1) (h2 : slots ≤ s1) (k : zz_W D cl B p l e R s m args below meth c Q h n c1 s1 L pc st) : zz_W D cl B p l e R s m args below meth c Q h n cells slots L pc st := fun H locs ls a0 a1 a2 a3 => W.widen h1 h2 (k H locs ls a0 a1 a2 a3)
theorem z_eq {h' : zz_H} {L' : List (Option Value)} {st st' : List Value} (e1 : h = h') (e2 : L = L') (e3 : st = st') (k : zz_W D cl B p l e R s m args below meth c Q h' n cells slots L' pc st') : zz_W D cl B p l e R s m args below meth c Q h n cells slots L pc st := by subst e1; subst e2; subst e3; exact k
/-! the heap -/
theorem z_get (C : zz_C D cl tys B tb X p s m args meth c cc own ret nm) {a ci k index N : Nat} {Cn ref : String} {T : u_T} {fs : List Value} {v : Value} (hc : cl[ci]? = some (Cn, T, N)) (hin : ∀ w ∈ u_ws Cn T N, w ∈ tb) (hk : k < N) (hw : Cond.fieldLink own index ref (T k).2.1 (T k).2.2.1 ∈ tb) (hr : (T k).1 = ref) (d : decode cc pc = .ok (.getfield index, 3)) (hh : h a = some (.inr (ci, fs))) (hv : fs[k]? = some v) (k9 : zz_W D cl B p l e R s m args below meth c Q h n cells slots L (pc + 3) (v :: rest)) : zz_W D cl B p l e R s m args below meth c Q h n cells slots L pc (.ref a :: rest) :=
  fun H locs ls a0 a1 a2 a3 => va_get (D := D) (cl := cl) (tys := tys) (ws := [(a, .inr (ci, fs))]) C.1 C.2.1 C.2.2.2.1 hin C.2.2.1 C.2.2.2.2.1 (zz_one a1 hh) 0 rfl hc k hk (C.2.2.2.1 _ hw) (fun x hx => hr ▸ hx) hv d (k9 H locs ls a0 a1 a2 a3)
theorem z_put (C : zz_C D cl tys B tb X p s m args meth c cc own ret nm) {a ci k index N : Nat} {Cn ref : String} {T : u_T} {fs : List Value} {v : Value} {ty : FieldType} (ty0 : Nat → FieldType) (hc : cl[ci]? = some (Cn, T, N)) (hin : ∀ w ∈ u_ws Cn T N, w ∈ tb) (hty : ∀ k, k < N → parseFieldDescriptor (T k).2.2.1 = some (ty0 k)) (hnm : ∀ a, a < N → ∀ b, b < N → a ≠ b → (T a).2.1 ≠ (T b).2.1) (hk : k < N) (hw : Cond.fieldLink own index ref (T k).2.1 (T k).2.2.1 ∈ tb) (hr : (T k).1 = ref) (hfin : (T k).2.2.2 = false) (hd : parseFieldDescriptor (T k).2.2.1 = some ty) (d : decode cc pc = .ok (.putfield index, 3)) (hh : h a = some (.inr (ci, fs))) (hlen : k < fs.length) (hn : narrow ty v = v) (hf : fits ty v = true) (k9 : zz_W D cl B p l e R s m args below meth c Q (zz_up h a (.inr (ci, fs.set k v))) n cells slots L (pc + 3) rest) : zz_W D cl B p l e R s m args below meth c Q h n cells slots L pc (v :: .ref a :: rest) := by
  intro H locs ls a0 a1 a2 a3
  have hts := C.2.2.2.1
  have hK := C.2.2.2.2.1
  have hap := va_apart (own := own) hts hin ty0 hty hnm hK hc
  obtain ⟨r, h1, cell, q1, q2, q3, q4⟩ := (a1.2 _ _ hh).1
  have hr9 : r = (Cn, T, N) := Option.some.inj (h1.symm.trans hc)
  subst hr9
  obtain ⟨hS9, hfc, kC, hkC, hkind⟩ := hK.1 ci _ hc
  obtain ⟨cf, kf, fi, f, hi, hsl⟩ := hS9 k hk
  have hlay := hts _ (hin _ (u_in_lay hk))
  unfold u_lay at hlay
  rw [if_neg (by rw [hfin]; decide)] at hlay
  have hst := (u_facts hfc hkC (u_lays hts hin hk) hi).1
  have h6 := u_store hfc hkC hkind hlay hi hd hn hf
  refine W.putK C.1 C.2.1 (f := f) ⟨C.2.2.1, hts _ hw, ⟨_, _, _, hr ▸ hi⟩, hst⟩ (by rw [q2]; exact h6) q1 q3 (by rw [hsl]; exact k2_hasslot (q4 k hk)) rfl rfl d fun H' e1 e2 e3 => ?_
  rw [hsl] at e1 ⊢
  exact k9 H' _ ls a0 (a1.set hh ⟨_, hc, t_OB.to (V := updV (vp_V fs) k v) ⟨_, e1, q2, q3, t_set q4 hap hk v⟩ (fun j _ => vp_updV_set hlen v j)⟩ e2 e3) (a2.put e2 e3 (a1.2 _ _ hh).2) a3
theorem z_putF (C : zz_C D cl tys B tb X p s m args meth c cc own ret nm) {a ci k index N : Nat} {Cn ref : String} {T : u_T} {fs : List Value} {v : Value} {ty : FieldType} (ty0 : Nat → FieldType) (hc : cl[ci]? = some (Cn, T, N)) (hin : ∀ w ∈ u_ws Cn T N, w ∈ tb) (hty : ∀ k, k < N → parseFieldDescriptor (T k).2.2.1 = some (ty0 k)) (hnm : ∀ a, a < N → ∀ b, b < N → a ≠ b → (T a).2.1 ≠ (T b).2.1) (hk : k < N) (hw : Cond.fieldLink own index ref (T k).2.1 (T k).2.2.1 ∈ tb) (hr : (T k).1 = ref) (hfin : (T k).2.2.2 = true) (hdecl : (T k).1 = own) (hinit : nm = "<init>") (hd : parseFieldDescriptor (T k).2.2.1 = some ty) (d : decode cc pc = .ok (.putfield index, 3)) (hh : h a = some (.inr (ci, fs))) (hlen : k < fs.length) (hn : narrow ty v = v) (hf : fits ty v = true) (k9 : zz_W D cl B p l e R s m args below meth c Q (zz_up h a (.inr (ci, fs.set k v))) n cells slots L (pc + 3) rest) : zz_W D cl B p l e R s m args below meth c Q h n cells slots L pc (v :: .ref a :: rest) := by
  intro H locs ls a0 a1 a2 a3
  have hts := C.2.2.2.1
  have hK := C.2.2.2.2.1
  have hown := C.2.2.1
  have hap := va_apart (own := own) hts hin ty0 hty hnm hK hc
  obtain ⟨r, h1, cell, q1, q2, q3, q4⟩ := (a1.2 _ _ hh).1
  have hr9 : r = (Cn, T, N) := Option.some.inj (h1.symm.trans hc)
  subst hr9
  obtain ⟨hS9, hfc, kC, hkC, hkind⟩ := hK.1 ci _ hc
  obtain ⟨cf, kf, fi, f, hi, hsl⟩ := hS9 k hk
  have hlay := hts _ (hin _ (u_in_lay hk))
  unfold u_lay at hlay
  rw [if_pos hfin] at hlay
  have hst := (u_facts hfc hkC (u_lays hts hin hk) hi).1
  have hcf : m.cls = cf := by
    obtain ⟨_, _, c', _, _, _, -, -, hf', -, -, -, hown2, -⟩ := Cond.laysFinal_spec hlay
    have e1 : c' = cf := by have := hi.symm.trans hf'; simp at this; exact this.1.symm
    rw [hdecl] at hown2
    rw [← e1]; exact Option.some.inj (hown.symm.trans hown2)
  have h6 := u_fits hfc hkC hkind (Or.inr hlay) hi hd hn hf
  refine W.putFinK C.1 C.2.1 hown (hts _ hw) (hr ▸ hi) hst hcf (C.2.2.2.2.2.2.2.2.1.trans hinit) (by rw [q2]; exact h6) q1 q3 (by rw [hsl]; exact k2_hasslot (q4 k hk)) rfl rfl d fun H' e1 e2 e3 => ?_
  rw [hsl] at e1 ⊢
  exact k9 H' _ ls a0 (a1.set hh ⟨_, hc, t_OB.to (V := updV (vp_V fs) k v) ⟨_, e1, q2, q3, t_set q4 hap hk v⟩ (fun j _ => vp_updV_set hlen v j)⟩ e2 e3) (a2.put e2 e3 (a1.2 _ _ hh).2) a3
theorem z_iald (C : zz_C D cl tys B tb X p s m args meth c cc own ret nm) {a N t0 : Nat} {cA : ClassId} {f : Nat → Int32} {i : Int32} (ht : tys[t0]? = some (cA, .int)) (d : decode cc pc = .ok (.iaload, 1)) (hh : h a = some (.inl (cA, N, .inl f))) (hin : vp_in i N) (k9 : zz_W D cl B p l e R s m args below meth c Q h n cells slots L (pc + 1) (.int (f i.toNatClampNeg) :: rest)) : zz_W D cl B p l e R s m args below meth c Q h n cells slots L pc (.int i :: .ref a :: rest) :=
  fun H locs ls a0 a1 a2 a3 => va_iald (D := D) (cl := cl) (ws := [(a, .inl (cA, N, .inl f))]) C.1 C.2.1 C.2.2.2.2.1 (zz_one a1 hh) 0 t0 rfl ht hin d (k9 H locs ls a0 a1 a2 a3)
theorem z_zald (C : zz_C D cl tys B tb X p s m args meth c cc own ret nm) {a N t0 : Nat} {cA : ClassId} {f : Nat → Int32} {i : Int32} (ht : tys[t0]? = some (cA, .boolean)) (d : decode cc pc = .ok (.baload, 1)) (hh : h a = some (.inl (cA, N, .inl f))) (hin : vp_in i N) (k9 : zz_W D cl B p l e R s m args below meth c Q h n cells slots L (pc + 1) (.int (f i.toNatClampNeg) :: rest)) : zz_W D cl B p l e R s m args below meth c Q h n cells slots L pc (.int i :: .ref a :: rest) :=
  fun H locs ls a0 a1 a2 a3 => va_zald (D := D) (cl := cl) (ws := [(a, .inl (cA, N, .inl f))]) C.1 C.2.1 C.2.2.2.2.1 (zz_one a1 hh) 0 t0 rfl ht hin d (k9 H locs ls a0 a1 a2 a3)
theorem z_lald (C : zz_C D cl tys B tb X p s m args meth c cc own ret nm) {a N t0 : Nat} {cA : ClassId} {f : Nat → Int64} {i : Int32} (ht : tys[t0]? = some (cA, .long)) (d : decode cc pc = .ok (.laload, 1)) (hh : h a = some (.inl (cA, N, .inr (.inl f)))) (hin : vp_in i N) (k9 : zz_W D cl B p l e R s m args below meth c Q h n cells slots L (pc + 1) (.long (f i.toNatClampNeg) :: rest)) : zz_W D cl B p l e R s m args below meth c Q h n cells slots L pc (.int i :: .ref a :: rest) :=
  fun H locs ls a0 a1 a2 a3 => va_lald (D := D) (cl := cl) (ws := [(a, .inl (cA, N, .inr (.inl f)))]) C.1 C.2.1 C.2.2.2.2.1 (zz_one a1 hh) 0 t0 rfl ht hin d (k9 H locs ls a0 a1 a2 a3)
theorem z_aald (C : zz_C D cl tys B tb X p s m args meth c cc own ret nm) {a N t0 : Nat} {cA : ClassId} {Cn : String} {f : Nat → Option Nat} {i : Int32} (ht : tys[t0]? = some (cA, .object Cn)) (d : decode cc pc = .ok (.aaload, 1)) (hh : h a = some (.inl (cA, N, .inr (.inr (.inr (.inr f)))))) (hin : vp_in i N) (k9 : zz_W D cl B p l e R s m args below meth c Q h n cells slots L (pc + 1) (va_rf (f i.toNatClampNeg) :: rest)) : zz_W D cl B p l e R s m args below meth c Q h n cells slots L pc (.int i :: .ref a :: rest) :=
  fun H locs ls a0 a1 a2 a3 => va_aldq (D := D) (cl := cl) (ws := [(a, .inl (cA, N, .inr (.inr (.inr (.inr f)))))]) C.1 C.2.1 C.2.2.2.2.1 (zz_one a1 hh) 0 t0 rfl ht hin d (k9 H locs ls a0 a1 a2 a3)
theorem z_alen (C : zz_C D cl tys B tb X p s m args meth c cc own ret nm) {a t0 : Nat} {cA : ClassId} {x : vp_A} {ty : FieldType} (ht : tys[t0]? = some (cA, ty)) (d : decode cc pc = .ok (.arraylength, 1)) (hh : h a = some (.inl (cA, x))) (k9 : zz_W D cl B p l e R s m args below meth c Q h n cells slots L (pc + 1) (.int (Int32.ofNat x.1) :: rest)) : zz_W D cl B p l e R s m args below meth c Q h n cells slots L pc (.ref a :: rest) :=
  fun H locs ls a0 a1 a2 a3 => va_alen (D := D) (cl := cl) (ws := [(a, .inl (cA, x))]) C.1 C.2.1 C.2.2.2.2.1 (zz_one a1 hh) 0 t0 rfl ht rfl d (k9 H locs ls a0 a1 a2 a3)
theorem z_iast (C : zz_C D cl tys B tb X p s m args meth c cc own ret nm) {a N t0 : Nat} {cA : ClassId} {f : Nat → Int32} {i : Int32} {x : Int32} (ht : tys[t0]? = some (cA, .int)) (d : decode cc pc = .ok (.iastore, 1)) (hh : h a = some (.inl (cA, N, .inl f))) (hin : vp_in i N) (k9 : zz_W D cl B p l e R s m args below meth c Q (zz_up h a (.inl (cA, N, .inl (upd f i.toNatClampNeg x)))) n cells slots L (pc + 1) rest) : zz_W D cl B p l e R s m args below meth c Q h n cells slots L pc (.int x :: .int i :: .ref a :: rest) := by
  intro H locs ls a0 a1 a2 a3
  have hK := C.2.2.2.2.1
  refine W.iast C.1 C.2.1 (a1.2 _ _ hh).1 ((hK.2 t0 _ ht).1 N (fun j => .int (f j))) (fun q => by cases q) (by show ¬ (i < 0 ∨ (arrV _ _ _).slots.size ≤ _); rw [arrV_size]; exact hin) rfl rfl d fun H1 e1 z oq => ?_
  refine k9 H1 _ ls a0 (a1.set hh ?_ z oq) (a2.put z oq (a1.2 _ _ hh).2) a3
  show H1[a]? = some (vp_cell _ _)
  rw [e1]
  rw [vp_cell_i, vp_cell_i, arrV_store]
  congr 2
  funext q
  by_cases hq : q = i.toNatClampNeg
  · subst hq
    simp [updV, upd]
    try rfl
  · simp [updV, upd, hq]
theorem z_zast (C : zz_C D cl tys B tb X p s m args meth c cc own ret nm) {a N t0 : Nat} {cA : ClassId} {f : Nat → Int32} {i : Int32} {x : Int32} (ht : tys[t0]? = some (cA, .boolean)) (d : decode cc pc = .ok (.bastore, 1)) (hh : h a = some (.inl (cA, N, .inl f))) (hin : vp_in i N) (k9 : zz_W D cl B p l e R s m args below meth c Q (zz_up h a (.inl (cA, N, .inl (upd f i.toNatClampNeg (vp_nar .boolean x))))) n cells slots L (pc + 1) rest) : zz_W D cl B p l e R s m args below meth c Q h n cells slots L pc (.int x :: .int i :: .ref a :: rest) := by
  intro H locs ls a0 a1 a2 a3
  have hK := C.2.2.2.2.1
  refine W.zast C.1 C.2.1 (a1.2 _ _ hh).1 ((hK.2 t0 _ ht).1 N (fun j => .int (f j))) (fun q => by cases q) (by show ¬ (i < 0 ∨ (arrV _ _ _).slots.size ≤ _); rw [arrV_size]; exact hin) rfl rfl d fun H1 e1 z oq => ?_
  refine k9 H1 _ ls a0 (a1.set hh ?_ z oq) (a2.put z oq (a1.2 _ _ hh).2) a3
  show H1[a]? = some (vp_cell _ _)
  rw [e1]
  rw [vp_cell_i, vp_cell_i, arrV_store]
  congr 2
  funext q
  by_cases hq : q = i.toNatClampNeg
  · subst hq
    simp [updV, upd, vp_nar]
    try rfl
  · simp [updV, upd, vp_nar, hq]
theorem z_last (C : zz_C D cl tys B tb X p s m args meth c cc own ret nm) {a N t0 : Nat} {cA : ClassId} {f : Nat → Int64} {i : Int32} {x : Int64} (ht : tys[t0]? = some (cA, .long)) (d : decode cc pc = .ok (.lastore, 1)) (hh : h a = some (.inl (cA, N, .inr (.inl f)))) (hin : vp_in i N) (k9 : zz_W D cl B p l e R s m args below meth c Q (zz_up h a (.inl (cA, N, .inr (.inl (vp_updL f i.toNatClampNeg x))))) n cells slots L (pc + 1) rest) : zz_W D cl B p l e R s m args below meth c Q h n cells slots L pc (.long x :: .int i :: .ref a :: rest) := by
  intro H locs ls a0 a1 a2 a3
  have hK := C.2.2.2.2.1
  refine W.last C.1 C.2.1 (a1.2 _ _ hh).1 ((hK.2 t0 _ ht).1 N (fun j => .long (f j))) (fun q => by cases q) (by show ¬ (i < 0 ∨ (arrV _ _ _).slots.size ≤ _); rw [arrV_size]; exact hin) rfl rfl d fun H1 e1 z oq => ?_
  refine k9 H1 _ ls a0 (a1.set hh ?_ z oq) (a2.put z oq (a1.2 _ _ hh).2) a3
  show H1[a]? = some (vp_cell _ _)
  rw [e1]
  rw [vp_cell_l, vp_cell_l, arrV_store]
  congr 2
  funext q
  by_cases hq : q = i.toNatClampNeg
  · subst hq
    simp [updV, vp_updL]
    try rfl
  · simp [updV, vp_updL, hq]
theorem z_aast (C : zz_C D cl tys B tb X p s m args meth c cc own ret nm) {a N t0 ci v : Nat} {cA : ClassId} {r : vw_C} {vs : List Value} {f : Nat → Option Nat} {i : Int32} (ht : tys[t0]? = some (cA, .object r.1)) (hc : cl[ci]? = some r) (d : decode cc pc = .ok (.aastore, 1)) (hh : h a = some (.inl (cA, N, .inr (.inr (.inr (.inr f)))))) (hv : h v = some (.inr (ci, vs))) (hin : vp_in i N) (k9 : zz_W D cl B p l e R s m args below meth c Q (zz_up h a (.inl (cA, N, .inr (.inr (.inr (.inr (va_up f i.toNatClampNeg (some v)))))))) n cells slots L (pc + 1) rest) : zz_W D cl B p l e R s m args below meth c Q h n cells slots L pc (.ref v :: .int i :: .ref a :: rest) := by
  intro H locs ls a0 a1 a2 a3
  have hK := C.2.2.2.2.1
  have hlt : i.toNatClampNeg < N := Nat.not_le.mp fun q => hin (Or.inr q)
  have h0 : ¬ i < 0 := fun q => hin (Or.inl q)
  obtain ⟨r', hr', cellV, g1, g2, g3, -⟩ := (a1.2 _ _ hv).1
  have hcls := (hK.1 ci r hc).2
  obtain ⟨kA, comp, k1, k2, k3, -⟩ := (hK.2 t0 _ ht).2
  have hcomp : comp = D.1 ci := Option.some.inj (k3.symm.trans hcls.1)
  subst hcomp
  obtain ⟨kC, hkC, -⟩ := hcls.2
  refine W.aast C.1 C.2.1 (a1.2 _ _ hh).1 (fun q h => by cases h) (fun h => by cases h) k1 k2 rfl hkC ⟨h0, by show _ < (arrV _ _ _).slots.size; rw [arrV_size]; exact hlt⟩ g1 (fun q h => by rw [g3] at h; cases h) (by rw [g2]; exact hkC) (by rw [g2]; exact va_assign hcls) rfl rfl d fun H1 e1 z oq => ?_
  refine k9 H1 _ ls a0 (a1.set hh ?_ z oq) (a2.put z oq (a1.2 _ _ hh).2) a3
  show H1[a]? = some (vp_cell _ _)
  rw [e1]
  rw [vp_cell_q, vp_cell_q, arrV_store]
  congr 2
  funext q
  by_cases hq : q = i.toNatClampNeg
  · subst hq
    simp [updV, va_up, va_rf]
  · simp [updV, va_up, hq]
theorem zz_grow {H H1 : Heap} {locs : List Loc} (hS : va_S (fun q => B ≤ q) s.heap H locs) (hn : H.size = n) (z : H1.size = n + 1) (o1 : ∀ q : Nat, q < n → H1[q]? = H[q]?) : va_S (fun q => B ≤ q) s.heap H1 locs :=
  ⟨by have := hS.1; omega, fun q h1 h2 => (o1 q (by have := hS.1; omega)).trans (hS.2.1 q h1 h2), hS.2.2⟩
theorem z_newa (C : zz_C D cl tys B tb X p s m args meth c cc own ret nm) {atype : ArrayType} {ty : FieldType} {t0 N : Nat} {cA : ClassId} {a9 : vp_A} {x : Int32} (hw : Cond.arrayClass (newarray.typeOf atype) ∈ tb) (hty : newarray.typeOf atype = ty) (ht : tys[t0]? = some (cA, ty)) (hra : ∀ U : State, va_RA U cA ty → U.vm.findClass ("[" ++ ty.toString) = some cA) (d : decode cc pc = .ok (.newarray atype, 2)) (ha : ∀ cA : ClassId, vp_cell cA a9 = arrV cA N (fun _ => defaultValue ty)) (hx : ¬ x < 0) (hN : x.toNatClampNeg = N) (hby : N * componentBytes ty ≤ 536870912) (hcl : cells + 1 ≤ R.cells) (hsl : slots + N ≤ R.slots) (k9 : zz_W D cl B p l e R s m args below meth c Q (zz_up h n (.inl (cA, a9))) (n + 1) (cells + 1) (slots + N) L (pc + 2) (.ref n :: rest)) : zz_W D cl B p l e R s m args below meth c Q h n cells slots L pc (.int x :: rest) := by
  intro H locs ls a0 a1 a2 a3
  have hK := C.2.2.2.2.1
  subst hty
  refine va_newaK C.1 C.2.1 (C.2.2.2.1 _ hw) rfl d rfl hx hN hby hcl hsl a1.1 fun H1 cA' e1 z1 o1 hAr hNm => ?_
  have hcA : cA' = cA := Option.some.inj (hNm.symm.trans (hra s (hK.2 t0 _ ht).2))
  subst hcA
  have hB : B ≤ n := by have h1 := C.2.2.2.2.2.1; have h2 := a2.1; have h3 := a1.1; omega
  exact k9 H1 locs ls a0 (a1.push (by show H1[n]? = some (vp_cell _ _); rw [ha]; exact e1) z1 o1 hB) (zz_grow a2 a1.1 z1 o1) a3
theorem z_anew (C : zz_C D cl tys B tb X p s m args meth c cc own ret nm) {index t0 N : Nat} {Cn : String} {cA : ClassId} {x : Int32} (hw : Cond.classLink own index Cn ∈ tb) (hw2 : Cond.arrayOver (.object Cn) ∈ tb) (ht : tys[t0]? = some (cA, .object Cn)) (d : decode cc pc = .ok (.anewarray index, 3)) (hx : ¬ x < 0) (hN : x.toNatClampNeg = N) (hby : N * 4 ≤ 536870912) (hcl : cells + 1 ≤ R.cells) (hsl : slots + N ≤ R.slots) (k9 : zz_W D cl B p l e R s m args below meth c Q (zz_up h n (.inl (cA, N, .inr (.inr (.inr (.inr (fun _ => none))))))) (n + 1) (cells + 1) (slots + N) L (pc + 3) (.ref n :: rest)) : zz_W D cl B p l e R s m args below meth c Q h n cells slots L pc (.int x :: rest) := by
  intro H locs ls a0 a1 a2 a3
  have hK := C.2.2.2.2.1
  subst hN
  refine W.anew C.1 C.2.1 C.2.2.1 (C.2.2.2.1 _ hw) (C.2.2.2.1 _ hw2) rfl d rfl hx hby hcl hsl fun cA' kA comp f1 f2 f3 f4 => ?_
  obtain ⟨kA9, comp9, -, -, -, g4⟩ := (hK.2 t0 _ ht).2
  have hcA : cA' = cA := Option.some.inj (f1.symm.trans g4)
  subst hcA
  generalize hH1 : H.push ({ cls := cA', slots := Array.replicate x.toNatClampNeg .null, vm := .none } : Cell) = H1
  have hs := a1.1
  have z1 : H1.size = n + 1 := by rw [← hH1, Array.size_push, hs]
  have e1 : H1[n]? = some (arrV cA' x.toNatClampNeg (fun _ => .null)) := by rw [← hH1, ← hs, Array.getElem?_push_size, ← arrV_new]
  have o1 : ∀ q : Nat, q < n → H1[q]? = H[q]? := fun q hq => by rw [← hH1, Array.getElem?_push, if_neg (by omega)]
  have hB : B ≤ n := by have h1 := C.2.2.2.2.2.1; have h2 := a2.1; omega
  have h9 := k9 H1 locs ls a0 (a1.push (by show H1[n]? = some (vp_cell _ _); rw [vp_cell_q]; exact e1) z1 o1 hB) (zz_grow a2 a1.1 z1 o1) a3
  rw [← hs] at h9
  exact h9
theorem z_new (C : zz_C D cl tys B tb X p s m args meth c cc own ret nm) {Cn : String} {T : u_T} {N ci index : Nat} {fs : List Value} (ty0 : Nat → FieldType) (hc : cl[ci]? = some (Cn, T, N)) (hin : ∀ w ∈ u_ws Cn T N, w ∈ tb) (hty : ∀ k, k < N → parseFieldDescriptor (T k).2.2.1 = some (ty0 k)) (w1 : Cond.classLink own index Cn ∈ tb) (w2 : Cond.instantiable Cn N ∈ tb) (w3 : Cond.initialized Cn ∈ tb) (hfs : ∀ j, j < N → defaultValue (ty0 j) = vp_V fs j) (d : decode cc pc = .ok (.new index, 3)) (hcl : cells + 1 ≤ R.cells) (hsl : slots + N ≤ R.slots) (k9 : zz_W D cl B p l e R s m args below meth c Q (zz_up h n (.inr (ci, fs))) (n + 1) (cells + 1) (slots + N) L (pc + 3) (.ref n :: rest)) : zz_W D cl B p l e R s m args below meth c Q h n cells slots L pc rest := by
  intro H locs ls a0 a1 a2 a3
  have hts := C.2.2.2.1
  have hK := C.2.2.2.2.1
  have hKn := hK.1 ci _ hc
  refine W.newcK C.1 C.2.1 C.2.2.1 (hts _ w1) (hts _ w2) (hts _ w3) rfl d hcl hsl hKn.2.1 a1.1 fun H1 kC hkC e1 z1 o1 => ?_
  have hB : B ≤ n := by have h1 := C.2.2.2.2.2.1; have h2 := a2.1; have h3 := a1.1; omega
  exact k9 H1 locs ls a0 (a1.push ⟨_, hc, (u_born ty0 hts hin hKn hkC e1 hty).to hfs⟩ z1 o1 hB) (zz_grow a2 a1.1 z1 o1) a3
theorem z_objInit (C : zz_C D cl tys B tb X p s m args meth c cc own ret nm) {a index : Nat} (w1 : Cond.methodLink own index objectInit ∈ tb) (w2 : Cond.instanceMethod objectInit ∈ tb) (w3 : Cond.code objectInit ⟨#[0xb1]⟩ 1 none ∈ tb) (d : decode cc pc = .ok (.invokespecial index, 3)) (hfr : 1 ≤ R.frames) (hlo : (rest.map fun v => v.category).sum + 12 ≤ R.locals) (k9 : zz_W D cl B p l e R s m args below meth c Q h n cells slots L (pc + 3) rest) : zz_W D cl B p l e R s m args below meth c Q h n cells slots L pc (.ref a :: rest) :=
  fun H locs ls a0 a1 a2 a3 => W.objInit C.1 C.2.1 C.2.2.1 (C.2.2.2.1 _ w1) (C.2.2.2.1 _ w2) (C.2.2.2.1 _ w3) rfl (a3.1.trans a0) rfl d hfr (by show 2 * 0 + _ + 12 ≤ _; omega) (k9 H locs ls a0 a1 a2 a3)
end ZA
end
section
/-- a method's start by the abstract heap -/
def zz_G (D : va_G) (cl : List vw_C) (tys : List (ClassId × FieldType)) (B : Nat) (tb : List Cond) (X : State → Heap → Prop) (h : zz_H) (n : Nat) (U : State) : Prop :=
  zz_I D cl B h n U.heap ∧ va_K D cl tys U ∧ B ≤ U.heap.size ∧ (∀ w ∈ tb, w.before #[] U = true) ∧ X U U.heap
/-- its end: the answer mk r, and what post says of r and of the abstract heap behind it -/
def zz_Q {ρ : Type} (D : va_G) (cl : List vw_C) (B : Nat) (mk : ρ → Option Value) (post : ρ → zz_H → Nat → Prop) : Array Value → State → Outcome → State → Prop := fun _ st oc t =>
  (∃ (r : ρ) (h' : zz_H) (n' : Nat), oc = .returned (mk r) ∧ post r h' n' ∧ zz_I D cl B h' n' t.heap) ∧ va_F (fun q => B ≤ q) st t
def zz_E (D : va_G) (cl : List vw_C) (B : Nat) (px : String → zz_H → Nat → Prop) : String → State → State → Prop := fun E st t =>
  (∃ (h' : zz_H) (n' : Nat), px E h' n' ∧ zz_I D cl B h' n' t.heap) ∧ va_F (fun q => B ≤ q) st t
/-- the words and X stay while only cells from B on change -/
def zz_F (B : Nat) (tb : List Cond) (X : State → Heap → Prop) : Prop :=
  (∀ w ∈ tb, ∀ (A A' : Array Value) (s U : State), s.WarmedH U.vm → w.before A s = true → w.before A' U = true) ∧
  (∀ (s U : State) (H : Heap), s.WarmedH U.vm → X s H → X U H) ∧
  ∀ (U : State) (H H1 : Heap), (∀ a : Nat, a < H.size → ¬ B ≤ a → H1[a]? = H[a]?) → X U H → X U H1
def zz_M {ρ : Type} (l : Launch) (D : va_G) (cl : List vw_C) (tys : List (ClassId × FieldType)) (B : Nat) (tb : List Cond) (X : State → Heap → Prop) (y : MethodName) (w : Cond) (rm : Room) (as : List Value) (h : zz_H) (n : Nat) (mk : ρ → Option Value) (post : ρ → zz_H → Nat → Prop) : Prop :=
  Met l y [w] rm (va_Pc as (zz_G D cl tys B tb X h n)) (zz_Q D cl B mk post) rm.cells rm.slots (fun q => B ≤ q)
def zz_MX {ρ : Type} (l : Launch) (D : va_G) (cl : List vw_C) (tys : List (ClassId × FieldType)) (B : Nat) (tb : List Cond) (X : State → Heap → Prop) (y : MethodName) (w : Cond) (rm : Room) (as : List Value) (h : zz_H) (n : Nat) (mk : ρ → Option Value) (post : ρ → zz_H → Nat → Prop) (px : String → zz_H → Nat → Prop) : Prop :=
  vx_Met l y [w] rm (va_Pc as (zz_G D cl tys B tb X h n)) (zz_Q D cl B mk post) (zz_E D cl B px) rm.cells rm.slots (fun q => B ≤ q)
abbrev zz_mi : Int32 → Option Value := fun r => some (.int r)
abbrev zz_ml : Int64 → Option Value := fun r => some (.long r)
abbrev zz_mr : Nat → Option Value := fun a => some (.ref a)
abbrev zz_mv : Unit → Option Value := fun _ => none
section ZB
variable {D : va_G} {cl : List vw_C} {tys : List (ClassId × FieldType)} {B : Nat} {tb : List Cond} {X : State → Heap → Prop} {p : Program} {l : Launch} {e : Env} {R : Room} {s : State} {m : MethodId} {args : Array Value} {below : List Frame} {meth : Method} {c : Code} {Q : State → Prop} {h : zz_H} {n cells slots : Nat} {L : List (Option Value)} {cc : ByteArray} {pc : Nat} {rest : List Value} {own nm : String} {ret : Option FieldType}
variable {ρ : Type} {mk : ρ → Option Value} {post : ρ → zz_H → Nat → Prop} {px : String → zz_H → Nat → Prop}
theorem zz_blind (F : zz_F B tb X) {as : List Value} : FrameBlind (va_Pc as (zz_G D cl tys B tb X h n)) := by
  intro a U g mk9 hq
  obtain ⟨q0, qI, qK, qB, qT, qX⟩ := hq
  exact ⟨q0, qI, va_K.moved (u := U) (U := U.calling g mk9 a) (Vm.Alike.refl U.vm) qK, qB, fun w hw => F.1 w hw #[] #[] U (U.calling g mk9 a) (State.WarmedH.refl U) (qT w hw), F.2.1 U (U.calling g mk9 a) U.heap (State.WarmedH.refl U) qX⟩
theorem zz_pre (F : zz_F B tb X) (C : zz_C D cl tys B tb X p s m args meth c cc own ret nm) {H : Heap} {locs : List Loc} (a1 : zz_I D cl B h n H) (a2 : va_S (fun q => B ≤ q) s.heap H locs) (as : List Value) : PreS s H (va_Pc as (zz_G D cl tys B tb X h n)) as := by
  refine ⟨zz_blind F, fun U hU hW => ⟨rfl, by rw [hU]; exact a1, va_K.moved hW.alike C.2.2.2.2.1, ?_, fun w hw => F.1 w hw args #[] s U hW (C.2.2.2.1 w hw), ?_⟩⟩
  · rw [hU]
    exact Nat.le_trans C.2.2.2.2.2.1 a2.1
  · rw [hU]
    exact F.2.1 s U H hW (F.2.2 s s.heap H (fun a ha hb => a2.2.1 a ha hb) C.2.2.2.2.2.2.2.2.2)
/-- a method begins -/
theorem zz_ofW (F : zz_F B tb X) {y : MethodName} {bytes : ByteArray} {maxL : Nat} {rt : Option FieldType} {rm : Room} {as : List Value} (L : List (Option Value)) (hy : plainName y.cls = true) (hL1 : L.length = maxL) (hL2 : zz_p 0 L = lv_args 0 as) (hL3 : (lg_sl as).length ≤ maxL)
    (body : ∀ (p : Program) (e : Env) (s : State) (m : MethodId) (below : List Frame) (meth : Method) (c : Code), zz_C D cl tys B tb X p s m as.toArray meth c bytes y.cls rt y.name → zz_W D cl B p l e rm s m as.toArray below meth c (MQ below (zz_Q D cl B mk post) as.toArray s rm.cells rm.slots (fun q => B ≤ q)) h n 0 0 L 0 []) :
    zz_M l D cl tys B tb X y (Cond.code y bytes maxL rt) rm as h n mk post := by
  refine Met.ofW (cc := bytes) (maxL := maxL) (ret := rt) hy rfl ?_
  intro p e s m args below meth c s₁ Bd hml hv
  obtain ⟨rfl, hI, hK, hB, hT, hX⟩ := hv
  have hl := lv_entry as (n := maxL) hL3
  rw [lg_entry_eq]
  generalize (lg_sl as ++ List.replicate (maxL - (lg_sl as).length) Slot.unset).toArray = ls at hl ⊢
  exact body p e s m below meth c ⟨Bd.exec, Bd.bytes, findClass_of_methodNamed Bd.named, fun w hw => F.1 w hw #[] as.toArray s s (State.WarmedH.refl s) (hT w hw), hK, hB, Bd.notSynchronized, Bd.returns, (name_of_methodNamed Bd.named Bd.method).1, hX⟩ s.heap [] ls (by rw [hL1, hml]) hI va_S.rf (by show lv_has ls L.length (zz_p 0 L); rw [hL1, hL2]; exact hl)
/-- a method that may throw begins -/
theorem zz_ofX (F : zz_F B tb X) {y : MethodName} {bytes : ByteArray} {maxL : Nat} {rt : Option FieldType} {rm : Room} {as : List Value} (L : List (Option Value)) (hy : plainName y.cls = true) (hL1 : L.length = maxL) (hL2 : zz_p 0 L = lv_args 0 as) (hL3 : (lg_sl as).length ≤ maxL)
    (body : ∀ (p : Program) (e : Env) (s : State) (m : MethodId) (below : List Frame) (meth : Method) (c : Code), zz_C D cl tys B tb X p s m as.toArray meth c bytes y.cls rt y.name → (∀ x ∈ c.exceptionTable.toList, False) → zz_W D cl B p l e rm s m as.toArray below meth c (vx_MQ below (zz_Q D cl B mk post) (zz_E D cl B px) as.toArray s rm.cells rm.slots (fun q => B ≤ q)) h n 0 0 L 0 []) :
    zz_MX l D cl tys B tb X y (Cond.code y bytes maxL rt) rm as h n mk post px := by
  refine vx_ofW (cc := bytes) (maxL := maxL) (ret := rt) hy rfl ?_
  intro p e s m args below meth c s₁ Bd hml hno hv
  obtain ⟨rfl, hI, hK, hB, hT, hX⟩ := hv
  have hl := lv_entry as (n := maxL) hL3
  rw [lg_entry_eq]
  generalize (lg_sl as ++ List.replicate (maxL - (lg_sl as).length) Slot.unset).toArray = ls at hl ⊢
  exact body p e s m below meth c ⟨Bd.exec, Bd.bytes, findClass_of_methodNamed Bd.named, fun w hw => F.1 w hw #[] as.toArray s s (State.WarmedH.refl s) (hT w hw), hK, hB, Bd.notSynchronized, Bd.returns, (name_of_methodNamed Bd.named Bd.method).1, hX⟩ hno s.heap [] ls (by rw [hL1, hml]) hI va_S.rf (by show lv_has ls L.length (zz_p 0 L); rw [hL1, hL2]; exact hl)

theorem z_iret {post9 : Int32 → zz_H → Nat → Prop} {v : Int32} {mc ms : Nat} (C : zz_C D cl tys B tb X p s m args meth c cc own (some .int) nm) (d : decode cc pc = .ok (.ireturn, 1)) (hp : post9 v h n) (hc : cells ≤ mc) (hs : slots ≤ ms) : zz_W D cl B p l e R s m args below meth c (MQ below (zz_Q D cl B zz_mi post9) args s mc ms (fun q => B ≤ q)) h n cells slots L pc [.int v] := fun H locs ls a0 a1 a2 a3 => W.widen hc hs (W.iret C.1 C.2.1 C.2.2.2.2.2.2.2.1 (fun t ht hW => ⟨⟨v, h, n, rfl, hp, by rw [ht]; exact a1⟩, a2.F ht⟩) a2.2.2 d C.2.2.2.2.2.2.1)
theorem z_iretX {post9 : Int32 → zz_H → Nat → Prop} {v : Int32} {mc ms : Nat} (C : zz_C D cl tys B tb X p s m args meth c cc own (some .int) nm) (d : decode cc pc = .ok (.ireturn, 1)) (hp : post9 v h n) (hc : cells ≤ mc) (hs : slots ≤ ms) : zz_W D cl B p l e R s m args below meth c (vx_MQ below (zz_Q D cl B zz_mi post9) (zz_E D cl B px) args s mc ms (fun q => B ≤ q)) h n cells slots L pc [.int v] := fun H locs ls a0 a1 a2 a3 => vx_ret (W.widen hc hs (W.iret C.1 C.2.1 C.2.2.2.2.2.2.2.1 (fun t ht hW => ⟨⟨v, h, n, rfl, hp, by rw [ht]; exact a1⟩, a2.F ht⟩) a2.2.2 d C.2.2.2.2.2.2.1))
theorem z_zret {post9 : Int32 → zz_H → Nat → Prop} {v : Int32} {mc ms : Nat} (C : zz_C D cl tys B tb X p s m args meth c cc own (some .boolean) nm) (d : decode cc pc = .ok (.ireturn, 1)) (hnr : narrow .boolean (.int v) = .int v) (hp : post9 v h n) (hc : cells ≤ mc) (hs : slots ≤ ms) : zz_W D cl B p l e R s m args below meth c (MQ below (zz_Q D cl B zz_mi post9) args s mc ms (fun q => B ≤ q)) h n cells slots L pc [.int v] := fun H locs ls a0 a1 a2 a3 => W.widen hc hs (W.zret C.1 C.2.1 C.2.2.2.2.2.2.2.1 hnr (fun t ht hW => ⟨⟨v, h, n, rfl, hp, by rw [ht]; exact a1⟩, a2.F ht⟩) a2.2.2 d C.2.2.2.2.2.2.1)
theorem z_zretX {post9 : Int32 → zz_H → Nat → Prop} {v : Int32} {mc ms : Nat} (C : zz_C D cl tys B tb X p s m args meth c cc own (some .boolean) nm) (d : decode cc pc = .ok (.ireturn, 1)) (hnr : narrow .boolean (.int v) = .int v) (hp : post9 v h n) (hc : cells ≤ mc) (hs : slots ≤ ms) : zz_W D cl B p l e R s m args below meth c (vx_MQ below (zz_Q D cl B zz_mi post9) (zz_E D cl B px) args s mc ms (fun q => B ≤ q)) h n cells slots L pc [.int v] := fun H locs ls a0 a1 a2 a3 => vx_ret (W.widen hc hs (W.zret C.1 C.2.1 C.2.2.2.2.2.2.2.1 hnr (fun t ht hW => ⟨⟨v, h, n, rfl, hp, by rw [ht]; exact a1⟩, a2.F ht⟩) a2.2.2 d C.2.2.2.2.2.2.1))
theorem z_lret {post9 : Int64 → zz_H → Nat → Prop} {v : Int64} {mc ms : Nat} (C : zz_C D cl tys B tb X p s m args meth c cc own (some .long) nm) (d : decode cc pc = .ok (.lreturn, 1)) (hp : post9 v h n) (hc : cells ≤ mc) (hs : slots ≤ ms) : zz_W D cl B p l e R s m args below meth c (MQ below (zz_Q D cl B zz_ml post9) args s mc ms (fun q => B ≤ q)) h n cells slots L pc [.long v] := fun H locs ls a0 a1 a2 a3 => W.widen hc hs (W.lret C.1 C.2.1 C.2.2.2.2.2.2.2.1 (fun t ht hW => ⟨⟨v, h, n, rfl, hp, by rw [ht]; exact a1⟩, a2.F ht⟩) a2.2.2 d C.2.2.2.2.2.2.1)
theorem z_lretX {post9 : Int64 → zz_H → Nat → Prop} {v : Int64} {mc ms : Nat} (C : zz_C D cl tys B tb X p s m args meth c cc own (some .long) nm) (d : decode cc pc = .ok (.lreturn, 1)) (hp : post9 v h n) (hc : cells ≤ mc) (hs : slots ≤ ms) : zz_W D cl B p l e R s m args below meth c (vx_MQ below (zz_Q D cl B zz_ml post9) (zz_E D cl B px) args s mc ms (fun q => B ≤ q)) h n cells slots L pc [.long v] := fun H locs ls a0 a1 a2 a3 => vx_ret (W.widen hc hs (W.lret C.1 C.2.1 C.2.2.2.2.2.2.2.1 (fun t ht hW => ⟨⟨v, h, n, rfl, hp, by rw [ht]; exact a1⟩, a2.F ht⟩) a2.2.2 d C.2.2.2.2.2.2.1))
theorem z_vret {post9 : Unit → zz_H → Nat → Prop}  {mc ms : Nat} (C : zz_C D cl tys B tb X p s m args meth c cc own (none) nm) (d : decode cc pc = .ok (.return_, 1)) (hp : post9 () h n) (hc : cells ≤ mc) (hs : slots ≤ ms) : zz_W D cl B p l e R s m args below meth c (MQ below (zz_Q D cl B zz_mv post9) args s mc ms (fun q => B ≤ q)) h n cells slots L pc [] := fun H locs ls a0 a1 a2 a3 => W.widen hc hs (W.vret C.1 C.2.1 C.2.2.2.2.2.2.2.1 (fun t ht hW => ⟨⟨(), h, n, rfl, hp, by rw [ht]; exact a1⟩, a2.F ht⟩) a2.2.2 d C.2.2.2.2.2.2.1)
theorem z_vretX {post9 : Unit → zz_H → Nat → Prop}  {mc ms : Nat} (C : zz_C D cl tys B tb X p s m args meth c cc own (none) nm) (d : decode cc pc = .ok (.return_, 1)) (hp : post9 () h n) (hc : cells ≤ mc) (hs : slots ≤ ms) : zz_W D cl B p l e R s m args below meth c (vx_MQ below (zz_Q D cl B zz_mv post9) (zz_E D cl B px) args s mc ms (fun q => B ≤ q)) h n cells slots L pc [] := fun H locs ls a0 a1 a2 a3 => vx_ret (W.widen hc hs (W.vret C.1 C.2.1 C.2.2.2.2.2.2.2.1 (fun t ht hW => ⟨⟨(), h, n, rfl, hp, by rw [ht]; exact a1⟩, a2.F ht⟩) a2.2.2 d C.2.2.2.2.2.2.1))
theorem z_aret {Cr : String} {post9 : Nat → zz_H → Nat → Prop} {v : Nat} {mc ms : Nat} (C : zz_C D cl tys B tb X p s m args meth c cc own (some (.object Cr)) nm) (d : decode cc pc = .ok (.areturn, 1)) (hp : post9 v h n) (hc : cells ≤ mc) (hs : slots ≤ ms) : zz_W D cl B p l e R s m args below meth c (MQ below (zz_Q D cl B zz_mr post9) args s mc ms (fun q => B ≤ q)) h n cells slots L pc [.ref v] := fun H locs ls a0 a1 a2 a3 => W.widen hc hs (W.aret C.1 C.2.1 C.2.2.2.2.2.2.2.1 (Or.inl ⟨_, rfl⟩) (Or.inr ⟨_, rfl⟩) (fun t ht hW => ⟨⟨v, h, n, rfl, hp, by rw [ht]; exact a1⟩, a2.F ht⟩) a2.2.2 d C.2.2.2.2.2.2.1)
theorem z_aretX {Cr : String} {post9 : Nat → zz_H → Nat → Prop} {v : Nat} {mc ms : Nat} (C : zz_C D cl tys B tb X p s m args meth c cc own (some (.object Cr)) nm) (d : decode cc pc = .ok (.areturn, 1)) (hp : post9 v h n) (hc : cells ≤ mc) (hs : slots ≤ ms) : zz_W D cl B p l e R s m args below meth c (vx_MQ below (zz_Q D cl B zz_mr post9) (zz_E D cl B px) args s mc ms (fun q => B ≤ q)) h n cells slots L pc [.ref v] := fun H locs ls a0 a1 a2 a3 => vx_ret (W.widen hc hs (W.aret C.1 C.2.1 C.2.2.2.2.2.2.2.1 (Or.inl ⟨_, rfl⟩) (Or.inr ⟨_, rfl⟩) (fun t ht hW => ⟨⟨v, h, n, rfl, hp, by rw [ht]; exact a1⟩, a2.F ht⟩) a2.2.2 d C.2.2.2.2.2.2.1))
/-- behind a call -/
theorem zz_goes {H : Heap} {locs : List Loc} {ls : Array Slot} {mc ms : Nat} {st0 : List Value} {arr : Array Value} {sk : ρ → List Value} (hr : va_Run p l e R s m args below meth c H locs cells slots mc ms (F0 m pc ls st0) rest (zz_Q D cl B mk post arr) (fun q => B ≤ q)) (a0 : L.length = c.maxLocals) (a2 : va_S (fun q => B ≤ q) s.heap H locs) (a3 : zz_L ls L) (hsk : ∀ r, (mk r).toList ++ rest = sk r)
    (kk : ∀ (r : ρ) (h' : zz_H) (n' : Nat), post r h' n' → zz_W D cl B p l e R s m args below meth c Q h' n' (cells + mc) (slots + ms) L (pc + 3) (sk r)) : W p l e R s m args below meth c H locs cells slots Q (F0 m pc ls st0) := by
  intro T hT X9
  obtain ⟨v, st₀, t, T', L9, h0, X', hL9, e1, e2, ⟨⟨r, h', n', hv, hp, hI⟩, hz, hk⟩, st⟩ := hr T hT X9
  cases hv
  rw [h0] at hz hk
  obtain ⟨t2, b1, b2⟩ := kk r h' n' hp T'.heap (locs ++ L9) ls a0 (by rw [e1]; exact hI) ⟨Nat.le_trans a2.1 (by rw [e1]; exact hz), fun q h1 h2 => by rw [e1, hk q (Nat.lt_of_lt_of_le h1 a2.1) h2]; exact a2.2.1 q h1 h2, fun q hq => (List.mem_append.mp hq).elim (a2.2.2 q) (hL9 q)⟩ a3 T' rfl X'
  refine ⟨t2, st t2 ?_, b2⟩
  have h9 : ({ F0 m pc ls st0 with pc := (F0 m pc ls st0).pc + 3, stack := (mk r).toList ++ rest } : JFrame) = F0 m (pc + 3) ls (sk r) := by rw [hsk r]
  rw [h9]
  exact b1
theorem zz_cb (F : zz_F B tb X) (C : zz_C D cl tys B tb X p s m args meth c cc own ret nm) {index maxL n9 : Nat} {y : MethodName} {bytes : ByteArray} {rt : Option FieldType} {rm : Room} (wc : Cond.code y bytes maxL rt ∈ tb) (wi : Cond.initialized y.cls ∈ tb) (wl : Cond.methodLink own index y ∈ tb) (hy : y.cls ≠ "java/lang/invoke/MethodHandle" ∧ y.cls ≠ "java/lang/invoke/VarHandle" ∧ (parseMethodDescriptor y.desc).map (fun d => d.parameters.length) = some n9) (hR : rm.frames + 1 ≤ R.frames ∧ 8 + (maxL + 11) + rm.locals ≤ R.locals) :
    CallB R s args own index y bytes maxL rt [Cond.code y bytes maxL rt] rm rm.cells rm.slots n9 := by
  refine ⟨rfl, rfl, hR.1, hR.2, fun w hw a' U hW => ?_, List.mem_singleton.mpr rfl, C.2.2.2.1 _ wc, C.2.2.2.1 _ wi, ⟨hy.1, hy.2.1⟩, fun sig hs => ?_, C.2.2.2.1 _ wl⟩
  · rw [List.mem_singleton.mp hw]
    exact F.1 _ wc args a' s U hW (C.2.2.2.1 _ wc)
  · have h2 := hy.2.2
    rw [hs] at h2
    exact (Option.some.inj h2).symm
theorem zz_recv {H : Heap} {b ci : Nat} {q : vw_C} {fs : List Value} (hK : va_K D cl tys s) (a1 : zz_I D cl B h n H) (hc : cl[ci]? = some q) (hh : h b = some (.inr (ci, fs))) : ∃ cell : Cell, H[b]? = some cell ∧ cell.vm.isStatics = false ∧ s.vm.findClass q.1 = some cell.cls :=
  va_recv hK (zz_one a1 hh) hc (q0 := 0) rfl

theorem z_callV (F : zz_F B tb X) (C : zz_C D cl tys B tb X p s m args meth c cc own ret nm) {index maxL n9 : Nat} {y : MethodName} {bytes : ByteArray} {rt : Option FieldType} {rm : Room} {As st0 : List Value} {sk : ρ → List Value} {b ci : Nat} {fs : List Value} {q : vw_C} (wc : Cond.code y bytes maxL rt ∈ tb) (wi : Cond.initialized y.cls ∈ tb) (wl : Cond.methodLink own index y ∈ tb) (w4 : Cond.instanceMethod y ∈ tb) (w5 : Cond.selects y.cls y y ∈ tb) (hy : y.cls ≠ "java/lang/invoke/MethodHandle" ∧ y.cls ≠ "java/lang/invoke/VarHandle" ∧ (parseMethodDescriptor y.desc).map (fun d => d.parameters.length) = some n9) (hc : cl[ci]? = some q) (hq : q.1 = y.cls) (d : decode cc pc = .ok (.invokevirtual index, 3))
    (hM : zz_M l D cl tys B tb X y (Cond.code y bytes maxL rt) rm (.ref b :: As) h n mk post) (hh : h b = some (.inr (ci, fs))) (hn : As.length = n9) (hst : st0 = As.reverse ++ .ref b :: rest) (hR : rm.frames + 1 ≤ R.frames ∧ 8 + (maxL + 11) + rm.locals ≤ R.locals) (hW : (rest.map fun v => v.category).sum ≤ 8) (hf : cells + rm.cells ≤ R.cells ∧ slots + rm.slots ≤ R.slots) (hsk : ∀ r, (mk r).toList ++ rest = sk r)
    (kk : ∀ (r : ρ) (h' : zz_H) (n' : Nat), post r h' n' → zz_W D cl B p l e R s m args below meth c Q h' n' (cells + rm.cells) (slots + rm.slots) L (pc + 3) (sk r)) : zz_W D cl B p l e R s m args below meth c Q h n cells slots L pc st0 := by
  intro H locs ls a0 a1 a2 a3
  obtain ⟨hb9, hp9⟩ := zz_pre F C a1 a2 (.ref b :: As)
  exact zz_goes (va_runV (Ts := tb) (nL := c.maxLocals) (C := y.cls) ⟨C.1, C.2.1, rfl, C.2.2.1, C.2.2.2.1⟩ hM ⟨zz_cb F C wc wi wl hy hR, C.2.2.2.1 _ w4, C.2.2.2.1 _ w5⟩ ⟨hb9, hq ▸ zz_recv C.2.2.2.2.1 a1 hc hh, hp9⟩ rfl hn (a3.1.trans a0) hst (lv_room hW) d hf) a0 a2 a3 hsk kk
theorem z_callS (F : zz_F B tb X) (C : zz_C D cl tys B tb X p s m args meth c cc own ret nm) {index maxL n9 : Nat} {y : MethodName} {bytes : ByteArray} {rt : Option FieldType} {rm : Room} {As st0 : List Value} {sk : ρ → List Value} (wc : Cond.code y bytes maxL rt ∈ tb) (wi : Cond.initialized y.cls ∈ tb) (wl : Cond.methodLink own index y ∈ tb) (w4 : Cond.static y ∈ tb) (hy : y.cls ≠ "java/lang/invoke/MethodHandle" ∧ y.cls ≠ "java/lang/invoke/VarHandle" ∧ (parseMethodDescriptor y.desc).map (fun d => d.parameters.length) = some n9) (d : decode cc pc = .ok (.invokestatic index, 3))
    (hM : zz_M l D cl tys B tb X y (Cond.code y bytes maxL rt) rm As h n mk post) (hn : As.length = n9) (hst : st0 = As.reverse ++ rest) (hR : rm.frames + 1 ≤ R.frames ∧ 8 + (maxL + 11) + rm.locals ≤ R.locals) (hW : (rest.map fun v => v.category).sum ≤ 8) (hf : cells + rm.cells ≤ R.cells ∧ slots + rm.slots ≤ R.slots) (hsk : ∀ r, (mk r).toList ++ rest = sk r)
    (kk : ∀ (r : ρ) (h' : zz_H) (n' : Nat), post r h' n' → zz_W D cl B p l e R s m args below meth c Q h' n' (cells + rm.cells) (slots + rm.slots) L (pc + 3) (sk r)) : zz_W D cl B p l e R s m args below meth c Q h n cells slots L pc st0 := by
  intro H locs ls a0 a1 a2 a3
  exact zz_goes (va_runS (Ts := tb) (nL := c.maxLocals) ⟨C.1, C.2.1, rfl, C.2.2.1, C.2.2.2.1⟩ hM ⟨zz_cb F C wc wi wl hy hR, C.2.2.2.1 _ w4⟩ (zz_pre F C a1 a2 As) rfl hn (a3.1.trans a0) hst (lv_room hW) d hf) a0 a2 a3 hsk kk
theorem z_callI (F : zz_F B tb X) (C : zz_C D cl tys B tb X p s m args meth c cc own ret nm) {index maxL n9 : Nat} {y : MethodName} {bytes : ByteArray} {rt : Option FieldType} {rm : Room} {As st0 : List Value} {sk : ρ → List Value} {b : Nat} (wc : Cond.code y bytes maxL none ∈ tb) (wi : Cond.initialized y.cls ∈ tb) (wl : Cond.methodLink own index y ∈ tb) (w4 : Cond.instanceMethod y ∈ tb) (hy1 : y.name = "<init>") (hy : y.cls ≠ "java/lang/invoke/MethodHandle" ∧ y.cls ≠ "java/lang/invoke/VarHandle" ∧ (parseMethodDescriptor y.desc).map (fun d => d.parameters.length) = some n9) (d : decode cc pc = .ok (.invokespecial index, 3))
    (hM : zz_M l D cl tys B tb X y (Cond.code y bytes maxL none) rm (.ref b :: As) h n mk post) (hn : As.length = n9) (hst : st0 = As.reverse ++ .ref b :: rest) (hR : rm.frames + 1 ≤ R.frames ∧ 8 + (maxL + 11) + rm.locals ≤ R.locals) (hW : (rest.map fun v => v.category).sum ≤ 8) (hf : cells + rm.cells ≤ R.cells ∧ slots + rm.slots ≤ R.slots) (hsk : ∀ r, (mk r).toList ++ rest = sk r)
    (kk : ∀ (r : ρ) (h' : zz_H) (n' : Nat), post r h' n' → zz_W D cl B p l e R s m args below meth c Q h' n' (cells + rm.cells) (slots + rm.slots) L (pc + 3) (sk r)) : zz_W D cl B p l e R s m args below meth c Q h n cells slots L pc st0 := by
  intro H locs ls a0 a1 a2 a3
  exact zz_goes (va_runI (Ts := tb) (nL := c.maxLocals) ⟨C.1, C.2.1, rfl, C.2.2.1, C.2.2.2.1⟩ hM ⟨zz_cb F C wc wi wl hy hR, hy1, C.2.2.2.1 _ w4⟩ (zz_pre F C a1 a2 (.ref b :: As)) rfl hn (a3.1.trans a0) hst (lv_room hW) d hf) a0 a2 a3 hsk kk
theorem zz_cn (F : zz_F B tb X) (C : zz_C D cl tys B tb X p s m args meth c cc own ret nm) {index maxL n9 : Nat} {host : String} {y : MethodName} {bytes : ByteArray} {rt : Option FieldType} {rm : Room} (wc : Cond.code y bytes maxL rt ∈ tb) (wi : Cond.initialized y.cls ∈ tb) (wl : Cond.methodLinkNest own index y host ∈ tb) (hy : y.cls ≠ "java/lang/invoke/MethodHandle" ∧ y.cls ≠ "java/lang/invoke/VarHandle" ∧ (parseMethodDescriptor y.desc).map (fun d => d.parameters.length) = some n9) (hR : rm.frames + 1 ≤ R.frames ∧ 8 + (maxL + 11) + rm.locals ≤ R.locals) :
    va_CN R s args own index y host bytes maxL rt [Cond.code y bytes maxL rt] rm rm.cells rm.slots n9 :=
  va_cnB n9 (Ts := tb) C.2.2.2.1 (fun w hw => by rw [List.mem_singleton.mp hw]; exact ⟨wc, Or.inl (by first | rfl | simp [Cond.onTables, Cond.keeps, Cond.steady])⟩) rfl rfl rfl (va_Nw.of rfl (C.2.2.2.1 _ wl)) (C.2.2.2.1 _ wi) hy hR
theorem z_callIN (F : zz_F B tb X) (C : zz_C D cl tys B tb X p s m args meth c cc own ret nm) {index maxL n9 : Nat} {y : MethodName} {bytes : ByteArray} {rt : Option FieldType} {rm : Room} {As st0 : List Value} {sk : ρ → List Value} {b : Nat} {host : String} (wc : Cond.code y bytes maxL none ∈ tb) (wi : Cond.initialized y.cls ∈ tb) (wl : Cond.methodLinkNest own index y host ∈ tb) (w4 : Cond.instanceMethod y ∈ tb) (hy1 : y.name = "<init>") (hy : y.cls ≠ "java/lang/invoke/MethodHandle" ∧ y.cls ≠ "java/lang/invoke/VarHandle" ∧ (parseMethodDescriptor y.desc).map (fun d => d.parameters.length) = some n9) (d : decode cc pc = .ok (.invokespecial index, 3))
    (hM : zz_M l D cl tys B tb X y (Cond.code y bytes maxL none) rm (.ref b :: As) h n mk post) (hn : As.length = n9) (hst : st0 = As.reverse ++ .ref b :: rest) (hR : rm.frames + 1 ≤ R.frames ∧ 8 + (maxL + 11) + rm.locals ≤ R.locals) (hW : (rest.map fun v => v.category).sum ≤ 8) (hf : cells + rm.cells ≤ R.cells ∧ slots + rm.slots ≤ R.slots) (hsk : ∀ r, (mk r).toList ++ rest = sk r)
    (kk : ∀ (r : ρ) (h' : zz_H) (n' : Nat), post r h' n' → zz_W D cl B p l e R s m args below meth c Q h' n' (cells + rm.cells) (slots + rm.slots) L (pc + 3) (sk r)) : zz_W D cl B p l e R s m args below meth c Q h n cells slots L pc st0 := by
  intro H locs ls a0 a1 a2 a3
  exact zz_goes (va_runIN (Ts := tb) (nL := c.maxLocals) (host := host) ⟨C.1, C.2.1, rfl, C.2.2.1, C.2.2.2.1⟩ hM ⟨zz_cn F C wc wi wl hy hR, hy1, C.2.2.2.1 _ w4⟩ (zz_pre F C a1 a2 (.ref b :: As)) rfl hn (a3.1.trans a0) hst (lv_room hW) d hf) a0 a2 a3 hsk kk
/-- behind a call that may throw, where no row of the table is: it goes on to the caller -/
theorem zz_goesX {post' : ρ → zz_H → Nat → Prop} {ρ' : Type} {mk' : ρ' → Option Value} {post9 : ρ' → zz_H → Nat → Prop} {px' : String → zz_H → Nat → Prop} {H : Heap} {locs : List Loc} {ls : Array Slot} {mc ms m9 s9 : Nat} {st0 : List Value} {arr : Array Value} {sk : ρ → List Value} (hr : vx_Run p l e R s m args below meth c H locs cells slots mc ms (F0 m pc ls st0) rest (zz_Q D cl B mk post arr) (zz_E D cl B px) (fun q => B ≤ q)) (a0 : L.length = c.maxLocals) (a2 : va_S (fun q => B ≤ q) s.heap H locs) (a3 : zz_L ls L) (hlk : meth.locks = false) (hno : ∀ x ∈ c.exceptionTable.toList, False) (hsk : ∀ r, (mk r).toList ++ rest = sk r) (hpx : ∀ (E : String) (h' : zz_H) (n' : Nat), px E h' n' → px' E h' n') (hm : cells + mc ≤ m9) (hs9 : slots + ms ≤ s9)
    (kk : ∀ (r : ρ) (h' : zz_H) (n' : Nat), post r h' n' → zz_W D cl B p l e R s m args below meth c (vx_MQ below (zz_Q D cl B mk' post9) (zz_E D cl B px') args s m9 s9 (fun q => B ≤ q)) h' n' (cells + mc) (slots + ms) L (pc + 3) (sk r)) : W p l e R s m args below meth c H locs cells slots (vx_MQ below (zz_Q D cl B mk' post9) (zz_E D cl B px') args s m9 s9 (fun q => B ≤ q)) (F0 m pc ls st0) := by
  intro T hT X9
  have keep : ∀ (L9 : List Loc) (H1 : Heap), (∀ q ∈ L9, B ≤ q.base) → H.size ≤ H1.size → (∀ q : Nat, q < H.size → ¬ B ≤ q → H1[q]? = H[q]?) → va_S (fun q => B ≤ q) s.heap H1 (locs ++ L9) := fun L9 H1 hL9 hz hk =>
    ⟨Nat.le_trans a2.1 hz, fun q h1 h2 => by rw [hk q (Nat.lt_of_lt_of_le h1 a2.1) h2]; exact a2.2.1 q h1 h2, fun q hq => (List.mem_append.mp hq).elim (a2.2.2 q) (hL9 q)⟩
  rcases hr T hT X9 with ⟨v, st₀, t, T', L9, h0, X', hL9, e1, e2, ⟨⟨r, h', n', hv, hp, hI⟩, hz, hk⟩, st⟩ | ⟨q, st₀, t, T', L9, E, ce, h0, X', hL9, e1, e2, ⟨⟨h', n', hp, hI⟩, hz, hk⟩, hce, hcv, hcl, st⟩
  · cases hv
    rw [h0] at hz hk
    obtain ⟨t2, b1, b2⟩ := kk r h' n' hp T'.heap (locs ++ L9) ls a0 (by rw [e1]; exact hI) (keep L9 T'.heap hL9 (by rw [e1]; exact hz) (fun q h1 h2 => by rw [e1]; exact hk q h1 h2)) a3 T' rfl X'
    refine ⟨t2, st t2 ?_, b2⟩
    have h9 : ({ F0 m pc ls st0 with pc := (F0 m pc ls st0).pc + 3, stack := (mk r).toList ++ rest } : JFrame) = F0 m (pc + 3) ls (sk r) := by rw [hsk r]
    rw [h9]
    exact b1
  · rw [h0] at hz hk
    have hS9 := keep L9 T'.heap hL9 (by rw [e1]; exact hz) (fun q h1 h2 => by rw [e1]; exact hk q h1 h2)
    obtain ⟨t2, b1, b2⟩ := vx_out (pc := pc) (ls := ls) (rest := rest) (E := E) (ce := ce) (q := q) (Qc := zz_Q D cl B mk' post9) (XC := zz_E D cl B px') (mc := m9) (ms := s9) (free := fun q => B ≤ q) (fun x hx => (hno x hx).elim) hlk (by rw [e1]; exact hce) hcv hcl (fun t9 ht9 _ => ⟨⟨h', n', hpx E h' n' hp, by rw [ht9, e1]; exact hI⟩, hS9.F ht9⟩) hS9.2.2 hm hs9 T' rfl X'
    exact ⟨t2, st.trans b1, b2⟩
theorem z_callVX (F : zz_F B tb X) (C : zz_C D cl tys B tb X p s m args meth c cc own ret nm) {index maxL n9 : Nat} {y : MethodName} {bytes : ByteArray} {rt : Option FieldType} {rm : Room} {As st0 : List Value} {sk : ρ → List Value} {b ci : Nat} {fs : List Value} {q : vw_C} {ρ' : Type} {mk' : ρ' → Option Value} {post9 : ρ' → zz_H → Nat → Prop} {px' : String → zz_H → Nat → Prop} {m9 s9 : Nat} (wc : Cond.code y bytes maxL rt ∈ tb) (wi : Cond.initialized y.cls ∈ tb) (wl : Cond.methodLink own index y ∈ tb) (w4 : Cond.instanceMethod y ∈ tb) (w5 : Cond.selects y.cls y y ∈ tb) (hy : y.cls ≠ "java/lang/invoke/MethodHandle" ∧ y.cls ≠ "java/lang/invoke/VarHandle" ∧ (parseMethodDescriptor y.desc).map (fun d => d.parameters.length) = some n9) (hc : cl[ci]? = some q) (hq : q.1 = y.cls) (d : decode cc pc = .ok (.invokevirtual index, 3))
    (hM : zz_MX l D cl tys B tb X y (Cond.code y bytes maxL rt) rm (.ref b :: As) h n mk post px) (hno : ∀ x ∈ c.exceptionTable.toList, False) (hh : h b = some (.inr (ci, fs))) (hn : As.length = n9) (hst : st0 = As.reverse ++ .ref b :: rest) (hR : rm.frames + 1 ≤ R.frames ∧ 8 + (maxL + 11) + rm.locals ≤ R.locals) (hW : (rest.map fun v => v.category).sum ≤ 8) (hf : cells + rm.cells ≤ R.cells ∧ slots + rm.slots ≤ R.slots) (hsk : ∀ r, (mk r).toList ++ rest = sk r) (hpx : ∀ (E : String) (h' : zz_H) (n' : Nat), px E h' n' → px' E h' n') (hm : cells + rm.cells ≤ m9) (hs9 : slots + rm.slots ≤ s9)
    (kk : ∀ (r : ρ) (h' : zz_H) (n' : Nat), post r h' n' → zz_W D cl B p l e R s m args below meth c (vx_MQ below (zz_Q D cl B mk' post9) (zz_E D cl B px') args s m9 s9 (fun q => B ≤ q)) h' n' (cells + rm.cells) (slots + rm.slots) L (pc + 3) (sk r)) : zz_W D cl B p l e R s m args below meth c (vx_MQ below (zz_Q D cl B mk' post9) (zz_E D cl B px') args s m9 s9 (fun q => B ≤ q)) h n cells slots L pc st0 := by
  intro H locs ls a0 a1 a2 a3
  obtain ⟨hb9, hp9⟩ := zz_pre F C a1 a2 (.ref b :: As)
  exact zz_goesX (post' := post) (vx_runV (Ts := tb) (nL := c.maxLocals) (C := y.cls) ⟨C.1, C.2.1, rfl, C.2.2.1, C.2.2.2.1⟩ hM ⟨zz_cb F C wc wi wl hy hR, C.2.2.2.1 _ w4, C.2.2.2.1 _ w5⟩ ⟨hb9, hq ▸ zz_recv C.2.2.2.2.1 a1 hc hh, hp9⟩ rfl hn (a3.1.trans a0) hst (lv_room hW) d hf) a0 a2 a3 C.2.2.2.2.2.2.1 hno hsk hpx hm hs9 kk
end ZB
end
section
/-- what a throw asks of the start: two statics of Throwable, and the texts -/
def zz_X (strs : List (String × Nat × String)) (B : Nat) (U : State) (H : Heap) : Prop :=
  vx_Zq Bundle.tN "UNASSIGNED_STACK" Bundle.steD (fun q => B ≤ q) U H ∧ vx_Zq Bundle.tN "SUPPRESSED_SENTINEL" Bundle.listD (fun q => B ≤ q) U H ∧ ∀ q ∈ strs, ∃ sa : Nat, vk_R q.1 q.2.1 q.2.2 sa U
/-- the machine with q of the class E thrown over the frame at pc -/
def zz_T (D : va_G) (cl : List vw_C) (B : Nat) (p : Program) (l : Launch) (e : Env) (R : Room) (s : State) (m : MethodId) (args : Array Value) (below : List Frame) (meth : Method) (c : Code) (Q : State → Prop) (h : zz_H) (n cells slots : Nat) (L : List (Option Value)) (pc : Nat) (st : List Value) (E : String) : Prop :=
  ∀ (H : Heap) (locs : List Loc) (ls : Array Slot) (ce : Cell) (q : Addr), L.length = c.maxLocals → zz_I D cl B h n H → va_S (fun q => B ≤ q) s.heap H locs → zz_L ls L → H[q]? = some ce → ce.vm = .none → s.vm.findClass E = some ce.cls → vx_W p l e R s m args below meth c H locs cells slots Q (F0 m pc ls st) q
section ZX
variable {D : va_G} {cl : List vw_C} {tys : List (ClassId × FieldType)} {B : Nat} {tb : List Cond} {X : State → Heap → Prop} {p : Program} {l : Launch} {e : Env} {R : Room} {s : State} {m : MethodId} {args : Array Value} {below : List Frame} {meth : Method} {c : Code} {Q : State → Prop} {h : zz_H} {n cells slots : Nat} {L : List (Option Value)} {cc : ByteArray} {pc : Nat} {rest : List Value} {own nm : String} {ret : Option FieldType}
variable {ρ : Type} {mk : ρ → Option Value} {post : ρ → zz_H → Nat → Prop} {px : String → zz_H → Nat → Prop} {strs : List (String × Nat × String)}
theorem z_throw (C : zz_C D cl tys B tb (zz_X strs B) p s m args meth c cc own ret nm) (hl : l.stackTraces = false) (hno : ∀ x ∈ c.exceptionTable.toList, False) {cls text : String} {names : List String} {ik is ic mc ms : Nat} (hcls : Bundle.fit cls = true) (hnames : ∀ n ∈ names, Bundle.fit n = true) (wk : Cond.classLink own ik cls ∈ tb) (wi : Cond.initialized cls ∈ tb) (wt : (own, is, text) ∈ strs) (wa : ∀ w ∈ vx_atS own ic cls names, w ∈ tb) (hgood : ∀ w ∈ Cond.classLink own ik cls :: Cond.initialized cls :: vx_atS own ic cls names, vx_ot w = true)
    (d0 : decode cc pc = .ok (.new ik, 3)) (d3 : decode cc (pc + 3) = .ok (.dup, 1)) (d4 : decode cc (pc + 4) = .ok (.ldc is, 2)) (d6 : decode cc (pc + 6) = .ok (.invokespecial ic, 3)) (d9 : decode cc (pc + 9) = .ok (.athrow, 1))
    (hRf : names.length + 3 < R.frames) (hRl : (rest.map fun v => v.category).sum + (13 * (names.length + 1) + 43) ≤ R.locals) (hRc : cells + 1 ≤ R.cells) (hRs : slots + 6 ≤ R.slots) (hc : cells + 1 ≤ mc) (hs : slots + 6 ≤ ms) (hp : ∀ n', n ≤ n' → px cls h n') :
    zz_W D cl B p l e R s m args below meth c (vx_MQ below (zz_Q D cl B mk post) (zz_E D cl B px) args s mc ms (fun q => B ≤ q)) h n cells slots L pc rest := by
  intro H locs ls a0 a1 a2 a3
  obtain ⟨hU, hN, hS9⟩ := C.2.2.2.2.2.2.2.2.2
  obtain ⟨sa, hsa⟩ := hS9 _ wt
  refine vx_throwS C.1 C.2.1 hl C.2.2.1 hcls hnames (C.2.2.2.1 _ wk) (C.2.2.2.1 _ wi) hsa (fun w hw => C.2.2.2.1 w (wa w hw)) hgood hU hN a2 (a3.1.trans a0) d0 d3 d4 d6 d9 (fun x hx => (hno x hx).elim) hRf hRl hRc hRs C.2.2.2.2.2.2.1 (fun t _ hz hk => ?_) a2.2.2 hc hs
  refine ⟨⟨h, t.heap.size, hp _ (by rw [← a1.1]; exact hz), rfl, fun a e he => ⟨(a1.2 a e he).1.kept (hk a (by rw [a1.1]; exact a1.lt he)), (a1.2 a e he).2⟩⟩, Nat.le_trans a2.1 hz, fun q h1 h2 => ?_⟩
  rw [hk q (Nat.lt_of_lt_of_le h1 a2.1)]
  exact a2.2.1 q h1 h2
theorem zz_throwW (C : zz_C D cl tys B tb (zz_X strs B) p s m args meth c cc own ret nm) (hl : l.stackTraces = false) (hno : ∀ x ∈ c.exceptionTable.toList, False) {cls text : String} {names : List String} {ik is ic mc ms : Nat} (hcls : Bundle.fit cls = true) (hnames : ∀ n ∈ names, Bundle.fit n = true) (wk : Cond.classLink own ik cls ∈ tb) (wi : Cond.initialized cls ∈ tb) (wt : (own, is, text) ∈ strs) (wa : ∀ w ∈ vx_atS own ic cls names, w ∈ tb) (hgood : ∀ w ∈ Cond.classLink own ik cls :: Cond.initialized cls :: vx_atS own ic cls names, vx_ot w = true)
    (d0 : decode cc pc = .ok (.new ik, 3)) (d3 : decode cc (pc + 3) = .ok (.dup, 1)) (d4 : decode cc (pc + 4) = .ok (.ldc_w is, 3)) (d7 : decode cc (pc + 7) = .ok (.invokespecial ic, 3)) (d10 : decode cc (pc + 10) = .ok (.athrow, 1))
    (hRf : names.length + 3 < R.frames) (hRl : (rest.map fun v => v.category).sum + (13 * (names.length + 1) + 43) ≤ R.locals) (hRc : cells + 1 ≤ R.cells) (hRs : slots + 6 ≤ R.slots) (hc : cells + 1 ≤ mc) (hs : slots + 6 ≤ ms) (hp : ∀ n', n ≤ n' → px cls h n') :
    zz_W D cl B p l e R s m args below meth c (vx_MQ below (zz_Q D cl B mk post) (zz_E D cl B px) args s mc ms (fun q => B ≤ q)) h n cells slots L pc rest := by
  intro H locs ls a0 a1 a2 a3
  obtain ⟨hU, hN, hS9⟩ := C.2.2.2.2.2.2.2.2.2
  obtain ⟨sa, hsa⟩ := hS9 _ wt
  refine vx_throwSW C.1 C.2.1 hl C.2.2.1 hcls hnames (C.2.2.2.1 _ wk) (C.2.2.2.1 _ wi) hsa (fun w hw => C.2.2.2.1 w (wa w hw)) hgood hU hN a2 (a3.1.trans a0) d0 d3 d4 d7 d10 (fun x hx => (hno x hx).elim) hRf hRl hRc hRs C.2.2.2.2.2.2.1 (fun t _ hz hk => ?_) a2.2.2 hc hs
  refine ⟨⟨h, t.heap.size, hp _ (by rw [← a1.1]; exact hz), rfl, fun a e he => ⟨(a1.2 a e he).1.kept (hk a (by rw [a1.1]; exact a1.lt he)), (a1.2 a e he).2⟩⟩, Nat.le_trans a2.1 hz, fun q h1 h2 => ?_⟩
  rw [hk q (Nat.lt_of_lt_of_le h1 a2.1)]
  exact a2.2.1 q h1 h2
/-- a method with a table of handlers begins -/
theorem zz_ofH (F : zz_F B tb X) {y : MethodName} {bytes : ByteArray} {maxL : Nat} {rt : Option FieldType} {hh : List (Nat × Nat × Nat × Nat)} {rm : Room} {as : List Value} (L : List (Option Value)) (hy : plainName y.cls = true) (hL1 : L.length = maxL) (hL2 : zz_p 0 L = lv_args 0 as) (hL3 : (lg_sl as).length ≤ maxL)
    (body : ∀ (p : Program) (e : Env) (s : State) (m : MethodId) (below : List Frame) (meth : Method) (c : Code), zz_C D cl tys B tb X p s m as.toArray meth c bytes y.cls rt y.name → c.exceptionTable.toList = tableOf hh → zz_W D cl B p l e rm s m as.toArray below meth c (MQ below (zz_Q D cl B mk post) as.toArray s rm.cells rm.slots (fun q => B ≤ q)) h n 0 0 L 0 []) :
    zz_M l D cl tys B tb X y (Cond.codeWith y bytes maxL rt hh) rm as h n mk post := by
  refine va_MetW (cc := bytes) (maxL := maxL) (ret := rt) (hh := hh) hy rfl ?_
  intro p e s m args below meth c s₁ Bd hml hv
  obtain ⟨rfl, hI, hK, hB, hT, hX⟩ := hv
  have htb : c.exceptionTable.toList = tableOf hh := vx_table (x := y) Bd (atoms_spec (ws := [Cond.codeWith y bytes maxL rt hh]) Bd.pre _ List.mem_cons_self)
  have hl := lv_entry as (n := maxL) hL3
  rw [lg_entry_eq]
  generalize (lg_sl as ++ List.replicate (maxL - (lg_sl as).length) Slot.unset).toArray = ls at hl ⊢
  exact body p e s m below meth c ⟨Bd.exec, Bd.bytes, findClass_of_methodNamed Bd.named, fun w hw => F.1 w hw #[] as.toArray s s (State.WarmedH.refl s) (hT w hw), hK, hB, Bd.notSynchronized, Bd.returns, (name_of_methodNamed Bd.named Bd.method).1, hX⟩ htb s.heap [] ls (by rw [hL1, hml]) hI va_S.rf (by show lv_has ls L.length (zz_p 0 L); rw [hL1, hL2]; exact hl)
/-- a call of it -/
theorem z_callSH (F : zz_F B tb X) (C : zz_C D cl tys B tb X p s m args meth c cc own ret nm) {index maxL n9 : Nat} {y : MethodName} {bytes : ByteArray} {rt : Option FieldType} {rm : Room} {As st0 : List Value} {sk : ρ → List Value} {hh : List (Nat × Nat × Nat × Nat)} (wc : Cond.codeWith y bytes maxL rt hh ∈ tb) (wi : Cond.initialized y.cls ∈ tb) (wl : Cond.methodLink own index y ∈ tb) (w4 : Cond.static y ∈ tb) (hy : y.cls ≠ "java/lang/invoke/MethodHandle" ∧ y.cls ≠ "java/lang/invoke/VarHandle" ∧ (parseMethodDescriptor y.desc).map (fun d => d.parameters.length) = some n9) (d : decode cc pc = .ok (.invokestatic index, 3))
    (hM : zz_M l D cl tys B tb X y (Cond.codeWith y bytes maxL rt hh) rm As h n mk post) (hn : As.length = n9) (hst : st0 = As.reverse ++ rest) (hR : rm.frames + 1 ≤ R.frames ∧ 8 + (maxL + 11) + rm.locals ≤ R.locals) (hW : (rest.map fun v => v.category).sum ≤ 8) (hf : cells + rm.cells ≤ R.cells ∧ slots + rm.slots ≤ R.slots) (hsk : ∀ r, (mk r).toList ++ rest = sk r)
    (kk : ∀ (r : ρ) (h' : zz_H) (n' : Nat), post r h' n' → zz_W D cl B p l e R s m args below meth c Q h' n' (cells + rm.cells) (slots + rm.slots) L (pc + 3) (sk r)) : zz_W D cl B p l e R s m args below meth c Q h n cells slots L pc st0 := by
  intro H locs ls a0 a1 a2 a3
  refine zz_goes (vx_runSW (Ts := tb) (nL := c.maxLocals) (hh := hh) ⟨C.1, C.2.1, rfl, C.2.2.1, C.2.2.2.1⟩ hM ⟨⟨rfl, rfl, hR.1, hR.2, fun w hw a' U hW => ?_, List.mem_singleton.mpr rfl⟩, C.2.2.2.1 _ wc, C.2.2.2.1 _ wi, ⟨hy.1, hy.2.1⟩, fun sig hs => ?_, C.2.2.2.1 _ wl, C.2.2.2.1 _ w4⟩ (zz_pre F C a1 a2 As) rfl hn (a3.1.trans a0) hst (lv_room hW) d hf) a0 a2 a3 hsk kk
  · rw [List.mem_singleton.mp hw]
    exact F.1 _ wc args a' s U hW (C.2.2.2.1 _ wc)
  · have h2 := hy.2.2
    rw [hs] at h2
    exact (Option.some.inj h2).symm
/-- a call that may throw, in a method with handlers -/
theorem z_callVT (F : zz_F B tb X) (C : zz_C D cl tys B tb X p s m args meth c cc own ret nm) {index maxL n9 : Nat} {y : MethodName} {bytes : ByteArray} {rt : Option FieldType} {rm : Room} {As st0 : List Value} {sk : ρ → List Value} {b ci : Nat} {fs : List Value} {q : vw_C} (wc : Cond.code y bytes maxL rt ∈ tb) (wi : Cond.initialized y.cls ∈ tb) (wl : Cond.methodLink own index y ∈ tb) (w4 : Cond.instanceMethod y ∈ tb) (w5 : Cond.selects y.cls y y ∈ tb) (hy : y.cls ≠ "java/lang/invoke/MethodHandle" ∧ y.cls ≠ "java/lang/invoke/VarHandle" ∧ (parseMethodDescriptor y.desc).map (fun d => d.parameters.length) = some n9) (hc : cl[ci]? = some q) (hq : q.1 = y.cls) (d : decode cc pc = .ok (.invokevirtual index, 3))
    (hM : zz_MX l D cl tys B tb X y (Cond.code y bytes maxL rt) rm (.ref b :: As) h n mk post px) (hh : h b = some (.inr (ci, fs))) (hn : As.length = n9) (hst : st0 = As.reverse ++ .ref b :: rest) (hR : rm.frames + 1 ≤ R.frames ∧ 8 + (maxL + 11) + rm.locals ≤ R.locals) (hW : (rest.map fun v => v.category).sum ≤ 8) (hf : cells + rm.cells ≤ R.cells ∧ slots + rm.slots ≤ R.slots) (hsk : ∀ r, (mk r).toList ++ rest = sk r)
    (kx : ∀ (E : String) (h' : zz_H) (n' : Nat), px E h' n' → zz_T D cl B p l e R s m args below meth c Q h' n' (cells + rm.cells) (slots + rm.slots) L pc rest E) (kk : ∀ (r : ρ) (h' : zz_H) (n' : Nat), post r h' n' → zz_W D cl B p l e R s m args below meth c Q h' n' (cells + rm.cells) (slots + rm.slots) L (pc + 3) (sk r)) : zz_W D cl B p l e R s m args below meth c Q h n cells slots L pc st0 := by
  intro H locs ls a0 a1 a2 a3
  obtain ⟨hb9, hp9⟩ := zz_pre F C a1 a2 (.ref b :: As)
  have hr := vx_runV (Ts := tb) (nL := c.maxLocals) (C := y.cls) (locs := locs) (cells := cells) (slots := slots) (g := F0 m pc ls st0) (rest := rest) (below := below) (meth := meth) (p := p) (e := e) (l := l) ⟨C.1, C.2.1, rfl, C.2.2.1, C.2.2.2.1⟩ hM ⟨zz_cb F C wc wi wl hy hR, C.2.2.2.1 _ w4, C.2.2.2.1 _ w5⟩ ⟨hb9, hq ▸ zz_recv C.2.2.2.2.1 a1 hc hh, hp9⟩ rfl hn (a3.1.trans a0) hst (lv_room hW) d hf
  intro T hT X9
  have keep : ∀ (L9 : List Loc) (H1 : Heap), (∀ q ∈ L9, B ≤ q.base) → H.size ≤ H1.size → (∀ q : Nat, q < H.size → ¬ B ≤ q → H1[q]? = H[q]?) → va_S (fun q => B ≤ q) s.heap H1 (locs ++ L9) := fun L9 H1 hL9 hz hk =>
    ⟨Nat.le_trans a2.1 hz, fun q h1 h2 => by rw [hk q (Nat.lt_of_lt_of_le h1 a2.1) h2]; exact a2.2.1 q h1 h2, fun q hq => (List.mem_append.mp hq).elim (a2.2.2 q) (hL9 q)⟩
  rcases hr T hT X9 with ⟨v, st₀, t, T', L9, h0, X', hL9, e1, e2, ⟨⟨r, h', n', hv, hp, hI⟩, hz, hk⟩, st⟩ | ⟨q, st₀, t, T', L9, E, ce, h0, X', hL9, e1, e2, ⟨⟨h', n', hp, hI⟩, hz, hk⟩, hce, hcv, hcl, st⟩
  · cases hv
    rw [h0] at hz hk
    obtain ⟨t2, b1, b2⟩ := kk r h' n' hp T'.heap (locs ++ L9) ls a0 (by rw [e1]; exact hI) (keep L9 T'.heap hL9 (by rw [e1]; exact hz) (fun q h1 h2 => by rw [e1]; exact hk q h1 h2)) a3 T' rfl X'
    refine ⟨t2, st t2 ?_, b2⟩
    have h9 : ({ F0 m pc ls st0 with pc := (F0 m pc ls st0).pc + 3, stack := (mk r).toList ++ rest } : JFrame) = F0 m (pc + 3) ls (sk r) := by rw [hsk r]
    rw [h9]
    exact b1
  · rw [h0] at hz hk
    obtain ⟨t2, b1, b2⟩ := kx E h' n' hp T'.heap (locs ++ L9) ls ce q a0 (by rw [e1]; exact hI) (keep L9 T'.heap hL9 (by rw [e1]; exact hz) (fun q h1 h2 => by rw [e1]; exact hk q h1 h2)) a3 (by rw [e1]; exact hce) hcv hcl T' rfl X'
    exact ⟨t2, st.trans b1, b2⟩
/-- caught by the row x of the table -/
theorem z_catch (C : zz_C D cl tys B tb X p s m args meth c cc own ret nm) {name E : String} (pre : List ExceptionTableEntry) (x : ExceptionTableEntry) (suf : List ExceptionTableEntry) (hsplit : c.exceptionTable.toList = pre ++ x :: suf) (hpass : ∀ z ∈ pre, covers z pc = false ∨ (z.catchType ≠ 0 ∧ ∃ nm : String, Cond.classLink own z.catchType nm ∈ tb ∧ va_Nc E nm s)) (hx : covers x pc = true) (h0 : x.catchType ≠ 0) (w1 : Cond.classLink own x.catchType name ∈ tb) (w2 : Cond.castable E name ∈ tb)
    (kk : ∀ q : Addr, zz_W D cl B p l e R s m args below meth c Q h n cells slots L x.handlerPc [.ref q]) : zz_T D cl B p l e R s m args below meth c Q h n cells slots L pc rest E := by
  intro H locs ls ce q a0 a1 a2 a3 hce hcv hcl
  refine vx_catch C.2.2.1 pre x suf hsplit (fun z hz => ?_) hx h0 (C.2.2.2.1 _ w1) (C.2.2.2.1 _ w2) hce hcv hcl (kk q H locs ls a0 a1 a2 a3)
  rcases hpass z hz with h9 | ⟨h9, nm9, hw, hn⟩
  · exact Or.inl h9
  · exact Or.inr ⟨h9, nm9, C.2.2.2.1 _ hw, hn⟩
end ZX
end
section
/-! Names, field tables, words: printed by my program (wip/gen/names.py) out of the claim's own texts. -/
abbrev RR_D : String := "DispatchDesk"
abbrev RR_H : String := "DispatchDesk$Hierarchy"
abbrev RR_A : String := "DispatchDesk$Atom"
abbrev RR_O : String := "DispatchDesk$Operation"
abbrev RR_M : String := "DispatchDesk$Method"
abbrev RR_F : String := "DispatchDesk$Facts"
abbrev RR_G : String := "DispatchDesk$Generic"
abbrev RR_R : String := "DispatchDesk$Graph"
abbrev RR_B : String := "DispatchDesk$GraphBuilder"
abbrev RR_E : String := "DispatchDesk$Frame"
abbrev RR_N : String := "DispatchDesk$Machine"
abbrev RR_Q : String := "DispatchDeskModel"
abbrev RR_V : String := "DispatchDesk$Value"
abbrev RR_L : String := "DispatchDeskLaw"
def FF_D : u_T := fun k => match k with
  | 0 => ("DispatchDesk", "classes", "LDispatchDesk$Hierarchy;", true)
  | 1 => ("DispatchDesk", "generics", "[LDispatchDesk$Generic;", true)
  | 2 => ("DispatchDesk", "genericCount", "I", false)
  | 3 => ("DispatchDesk", "methods", "[LDispatchDesk$Method;", true)
  | 4 => ("DispatchDesk", "methodCount", "I", false)
  | 5 => ("DispatchDesk", "builder", "LDispatchDesk$GraphBuilder;", true)
  | 6 => ("DispatchDesk", "machine", "LDispatchDesk$Machine;", true)
  | 7 => ("DispatchDesk", "witnessArguments", "I", false)
  | 8 => ("DispatchDesk", "witnessFirst", "I", false)
  | _ => ("DispatchDesk", "witnessSecond", "I", false)
def tt_D : Nat → FieldType := fun k => match k with
  | 0 => .object "DispatchDesk$Hierarchy"
  | 1 => .array (.object "DispatchDesk$Generic")
  | 2 => .int
  | 3 => .array (.object "DispatchDesk$Method")
  | 4 => .int
  | 5 => .object "DispatchDesk$GraphBuilder"
  | 6 => .object "DispatchDesk$Machine"
  | 7 => .int
  | 8 => .int
  | _ => .int
theorem nn_D : ∀ a, a < 10 → ∀ b, b < 10 → a ≠ b → (FF_D a).2.1 ≠ (FF_D b).2.1 := by decide +kernel
theorem tk_D : ∀ k, k < 10 → parseFieldDescriptor (FF_D k).2.2.1 = some (tt_D k) := by decide +kernel
def FF_H : u_T := fun k => match k with
  | 0 => ("DispatchDesk$Hierarchy", "lineages", "[I", true)
  | _ => ("DispatchDesk$Hierarchy", "count", "I", false)
def tt_H : Nat → FieldType := fun k => match k with
  | 0 => .array .int
  | _ => .int
theorem nn_H : ∀ a, a < 2 → ∀ b, b < 2 → a ≠ b → (FF_H a).2.1 ≠ (FF_H b).2.1 := by decide +kernel
theorem tk_H : ∀ k, k < 2 → parseFieldDescriptor (FF_H k).2.2.1 = some (tt_H k) := by decide +kernel
def FF_A : u_T := fun k => match k with
  | 0 => ("DispatchDesk$Atom", "kind", "I", true)
  | 1 => ("DispatchDesk$Atom", "i", "I", true)
  | 2 => ("DispatchDesk$Atom", "x", "I", true)
  | _ => ("DispatchDesk$Atom", "negated", "Z", true)
def tt_A : Nat → FieldType := fun k => match k with
  | 0 => .int
  | 1 => .int
  | 2 => .int
  | _ => .boolean
theorem nn_A : ∀ a, a < 4 → ∀ b, b < 4 → a ≠ b → (FF_A a).2.1 ≠ (FF_A b).2.1 := by decide +kernel
theorem tk_A : ∀ k, k < 4 → parseFieldDescriptor (FF_A k).2.2.1 = some (tt_A k) := by decide +kernel
def FF_O : u_T := fun k => match k with
  | 0 => ("DispatchDesk$Operation", "kind", "I", true)
  | _ => ("DispatchDesk$Operation", "n", "I", true)
def tt_O : Nat → FieldType := fun k => match k with
  | 0 => .int
  | _ => .int
theorem nn_O : ∀ a, a < 2 → ∀ b, b < 2 → a ≠ b → (FF_O a).2.1 ≠ (FF_O b).2.1 := by decide +kernel
theorem tk_O : ∀ k, k < 2 → parseFieldDescriptor (FF_O k).2.2.1 = some (tt_O k) := by decide +kernel
def FF_M : u_T := fun k => match k with
  | 0 => ("DispatchDesk$Method", "number", "I", true)
  | 1 => ("DispatchDesk$Method", "owner", "LDispatchDesk$Generic;", true)
  | 2 => ("DispatchDesk$Method", "atoms", "[LDispatchDesk$Atom;", true)
  | 3 => ("DispatchDesk$Method", "atomCount", "I", false)
  | 4 => ("DispatchDesk$Method", "body", "[LDispatchDesk$Operation;", true)
  | 5 => ("DispatchDesk$Method", "operationCount", "I", false)
  | 6 => ("DispatchDesk$Method", "wanted", "J", false)
  | 7 => ("DispatchDesk$Method", "unwanted", "J", false)
  | 8 => ("DispatchDesk$Method", "impliedSet", "I", false)
  | _ => ("DispatchDesk$Method", "beyondSet", "I", false)
def tt_M : Nat → FieldType := fun k => match k with
  | 0 => .int
  | 1 => .object "DispatchDesk$Generic"
  | 2 => .array (.object "DispatchDesk$Atom")
  | 3 => .int
  | 4 => .array (.object "DispatchDesk$Operation")
  | 5 => .int
  | 6 => .long
  | 7 => .long
  | 8 => .int
  | _ => .int
theorem nn_M : ∀ a, a < 10 → ∀ b, b < 10 → a ≠ b → (FF_M a).2.1 ≠ (FF_M b).2.1 := by decide +kernel
theorem tk_M : ∀ k, k < 10 → parseFieldDescriptor (FF_M k).2.2.1 = some (tt_M k) := by decide +kernel
def FF_F : u_T := fun k => match k with
  | 0 => ("DispatchDesk$Facts", "classes", "LDispatchDesk$Hierarchy;", true)
  | 1 => ("DispatchDesk$Facts", "tests", "[LDispatchDesk$Atom;", true)
  | 2 => ("DispatchDesk$Facts", "count", "I", false)
  | 3 => ("DispatchDesk$Facts", "firstFacts", "[J", true)
  | 4 => ("DispatchDesk$Facts", "secondFacts", "[J", true)
  | 5 => ("DispatchDesk$Facts", "belowFact", "J", false)
  | _ => ("DispatchDesk$Facts", "sameClassFact", "J", false)
def tt_F : Nat → FieldType := fun k => match k with
  | 0 => .object "DispatchDesk$Hierarchy"
  | 1 => .array (.object "DispatchDesk$Atom")
  | 2 => .int
  | 3 => .array .long
  | 4 => .array .long
  | 5 => .long
  | _ => .long
theorem nn_F : ∀ a, a < 7 → ∀ b, b < 7 → a ≠ b → (FF_F a).2.1 ≠ (FF_F b).2.1 := by decide +kernel
theorem tk_F : ∀ k, k < 7 → parseFieldDescriptor (FF_F k).2.2.1 = some (tt_F k) := by decide +kernel
def FF_G : u_T := fun k => match k with
  | 0 => ("DispatchDesk$Generic", "arguments", "I", true)
  | 1 => ("DispatchDesk$Generic", "facts", "LDispatchDesk$Facts;", true)
  | 2 => ("DispatchDesk$Generic", "graph", "LDispatchDesk$Graph;", true)
  | 3 => ("DispatchDesk$Generic", "classes", "LDispatchDesk$Hierarchy;", true)
  | 4 => ("DispatchDesk$Generic", "own", "[LDispatchDesk$Method;", true)
  | 5 => ("DispatchDesk$Generic", "ownCount", "I", false)
  | 6 => ("DispatchDesk$Generic", "ownSet", "I", false)
  | 7 => ("DispatchDesk$Generic", "isFresh", "Z", false)
  | 8 => ("DispatchDesk$Generic", "hasChosen", "Z", false)
  | 9 => ("DispatchDesk$Generic", "chosenFacts", "J", false)
  | _ => ("DispatchDesk$Generic", "chosen", "I", false)
def tt_G : Nat → FieldType := fun k => match k with
  | 0 => .int
  | 1 => .object "DispatchDesk$Facts"
  | 2 => .object "DispatchDesk$Graph"
  | 3 => .object "DispatchDesk$Hierarchy"
  | 4 => .array (.object "DispatchDesk$Method")
  | 5 => .int
  | 6 => .int
  | 7 => .boolean
  | 8 => .boolean
  | 9 => .long
  | _ => .int
theorem nn_G : ∀ a, a < 11 → ∀ b, b < 11 → a ≠ b → (FF_G a).2.1 ≠ (FF_G b).2.1 := by decide +kernel
theorem tk_G : ∀ k, k < 11 → parseFieldDescriptor (FF_G k).2.2.1 = some (tt_G k) := by decide +kernel
def FF_R : u_T := fun k => match k with
  | 0 => ("DispatchDesk$Graph", "tests", "[I", true)
  | 1 => ("DispatchDesk$Graph", "passing", "[I", true)
  | 2 => ("DispatchDesk$Graph", "failing", "[I", true)
  | _ => ("DispatchDesk$Graph", "count", "I", false)
def tt_R : Nat → FieldType := fun k => match k with
  | 0 => .array .int
  | 1 => .array .int
  | 2 => .array .int
  | _ => .int
theorem nn_R : ∀ a, a < 4 → ∀ b, b < 4 → a ≠ b → (FF_R a).2.1 ≠ (FF_R b).2.1 := by decide +kernel
theorem tk_R : ∀ k, k < 4 → parseFieldDescriptor (FF_R k).2.2.1 = some (tt_R k) := by decide +kernel
def FF_B : u_T := fun k => match k with
  | _ => ("DispatchDesk$GraphBuilder", "rows", "[J", true)
def tt_B : Nat → FieldType := fun k => match k with
  | _ => .array .long
theorem nn_B : ∀ a, a < 1 → ∀ b, b < 1 → a ≠ b → (FF_B a).2.1 ≠ (FF_B b).2.1 := by decide +kernel
theorem tk_B : ∀ k, k < 1 → parseFieldDescriptor (FF_B k).2.2.1 = some (tt_B k) := by decide +kernel
def FF_E : u_T := fun k => match k with
  | 0 => ("DispatchDesk$Frame", "method", "LDispatchDesk$Method;", false)
  | 1 => ("DispatchDesk$Frame", "first", "I", false)
  | 2 => ("DispatchDesk$Frame", "second", "I", false)
  | 3 => ("DispatchDesk$Frame", "stack", "[I", true)
  | _ => ("DispatchDesk$Frame", "height", "I", false)
def tt_E : Nat → FieldType := fun k => match k with
  | 0 => .object "DispatchDesk$Method"
  | 1 => .int
  | 2 => .int
  | 3 => .array .int
  | _ => .int
theorem nn_E : ∀ a, a < 5 → ∀ b, b < 5 → a ≠ b → (FF_E a).2.1 ≠ (FF_E b).2.1 := by decide +kernel
theorem tk_E : ∀ k, k < 5 → parseFieldDescriptor (FF_E k).2.2.1 = some (tt_E k) := by decide +kernel
def FF_N : u_T := fun k => match k with
  | 0 => ("DispatchDesk$Machine", "fuel", "I", false)
  | 1 => ("DispatchDesk$Machine", "testCount", "I", false)
  | 2 => ("DispatchDesk$Machine", "generics", "[LDispatchDesk$Generic;", false)
  | 3 => ("DispatchDesk$Machine", "methods", "[LDispatchDesk$Method;", false)
  | _ => ("DispatchDesk$Machine", "frames", "[LDispatchDesk$Frame;", true)
def tt_N : Nat → FieldType := fun k => match k with
  | 0 => .int
  | 1 => .int
  | 2 => .array (.object "DispatchDesk$Generic")
  | 3 => .array (.object "DispatchDesk$Method")
  | _ => .array (.object "DispatchDesk$Frame")
theorem nn_N : ∀ a, a < 5 → ∀ b, b < 5 → a ≠ b → (FF_N a).2.1 ≠ (FF_N b).2.1 := by decide +kernel
theorem tk_N : ∀ k, k < 5 → parseFieldDescriptor (FF_N k).2.2.1 = some (tt_N k) := by decide +kernel
def FF_Q : u_T := fun k => match k with
  | 0 => ("DispatchDeskModel", "thrown", "I", false)
  | 1 => ("DispatchDeskModel", "classes", "I", false)
  | 2 => ("DispatchDeskModel", "parent", "[I", true)
  | 3 => ("DispatchDeskModel", "generics", "I", false)
  | 4 => ("DispatchDeskModel", "arguments", "[I", true)
  | 5 => ("DispatchDeskModel", "methods", "I", false)
  | 6 => ("DispatchDeskModel", "of", "[I", true)
  | 7 => ("DispatchDeskModel", "atoms", "[I", true)
  | 8 => ("DispatchDeskModel", "kind", "[I", true)
  | 9 => ("DispatchDeskModel", "which", "[I", true)
  | 10 => ("DispatchDeskModel", "number", "[I", true)
  | 11 => ("DispatchDeskModel", "negated", "[Z", true)
  | 12 => ("DispatchDeskModel", "operations", "[I", true)
  | 13 => ("DispatchDeskModel", "operation", "[I", true)
  | 14 => ("DispatchDeskModel", "operand", "[I", true)
  | 15 => ("DispatchDeskModel", "known", "[Z", true)
  | 16 => ("DispatchDeskModel", "applicable", "[I", true)
  | 17 => ("DispatchDeskModel", "beyond", "[I", true)
  | 18 => ("DispatchDeskModel", "checked", "I", false)
  | 19 => ("DispatchDeskModel", "first", "I", false)
  | 20 => ("DispatchDeskModel", "second", "I", false)
  | 21 => ("DispatchDeskModel", "nodes", "[I", true)
  | 22 => ("DispatchDeskModel", "test", "[I", true)
  | 23 => ("DispatchDeskModel", "pass", "[I", true)
  | 24 => ("DispatchDeskModel", "other", "[I", true)
  | 25 => ("DispatchDeskModel", "tests", "[I", true)
  | 26 => ("DispatchDeskModel", "testKind", "[I", true)
  | 27 => ("DispatchDeskModel", "testWhich", "[I", true)
  | 28 => ("DispatchDeskModel", "testNumber", "[I", true)
  | 29 => ("DispatchDeskModel", "passed", "[J", true)
  | 30 => ("DispatchDeskModel", "mask", "[J", true)
  | 31 => ("DispatchDeskModel", "value", "[J", true)
  | 32 => ("DispatchDeskModel", "from", "[I", true)
  | 33 => ("DispatchDeskModel", "state", "[I", true)
  | 34 => ("DispatchDeskModel", "parted", "[I", true)
  | 35 => ("DispatchDeskModel", "passing", "[I", true)
  | 36 => ("DispatchDeskModel", "deep", "I", false)
  | 37 => ("DispatchDeskModel", "open", "[I", true)
  | 38 => ("DispatchDeskModel", "a", "[I", true)
  | 39 => ("DispatchDeskModel", "b", "[I", true)
  | 40 => ("DispatchDeskModel", "at", "[I", true)
  | 41 => ("DispatchDeskModel", "top", "[I", true)
  | 42 => ("DispatchDeskModel", "stack", "[I", true)
  | 43 => ("DispatchDeskModel", "fuel", "I", false)
  | 44 => ("DispatchDeskModel", "through", "I", false)
  | _ => ("DispatchDeskModel", "ended", "I", false)
def tt_Q : Nat → FieldType := fun k => match k with
  | 0 => .int
  | 1 => .int
  | 2 => .array .int
  | 3 => .int
  | 4 => .array .int
  | 5 => .int
  | 6 => .array .int
  | 7 => .array .int
  | 8 => .array .int
  | 9 => .array .int
  | 10 => .array .int
  | 11 => .array .boolean
  | 12 => .array .int
  | 13 => .array .int
  | 14 => .array .int
  | 15 => .array .boolean
  | 16 => .array .int
  | 17 => .array .int
  | 18 => .int
  | 19 => .int
  | 20 => .int
  | 21 => .array .int
  | 22 => .array .int
  | 23 => .array .int
  | 24 => .array .int
  | 25 => .array .int
  | 26 => .array .int
  | 27 => .array .int
  | 28 => .array .int
  | 29 => .array .long
  | 30 => .array .long
  | 31 => .array .long
  | 32 => .array .int
  | 33 => .array .int
  | 34 => .array .int
  | 35 => .array .int
  | 36 => .int
  | 37 => .array .int
  | 38 => .array .int
  | 39 => .array .int
  | 40 => .array .int
  | 41 => .array .int
  | 42 => .array .int
  | 43 => .int
  | 44 => .int
  | _ => .int
theorem nn_Q : ∀ a, a < 46 → ∀ b, b < 46 → a ≠ b → (FF_Q a).2.1 ≠ (FF_Q b).2.1 := by decide +kernel
theorem tk_Q : ∀ k, k < 46 → parseFieldDescriptor (FF_Q k).2.2.1 = some (tt_Q k) := by decide +kernel
abbrev zz_cl : List vw_C := [(RR_D, FF_D, 10), (RR_H, FF_H, 2), (RR_A, FF_A, 4), (RR_O, FF_O, 2), (RR_M, FF_M, 10), (RR_F, FF_F, 7), (RR_G, FF_G, 11), (RR_R, FF_R, 4), (RR_B, FF_B, 1), (RR_E, FF_E, 5), (RR_N, FF_N, 5), (RR_Q, FF_Q, 46)]
abbrev zz_ty (a : Nat → ClassId) : List (ClassId × FieldType) := [(a 0, .int), (a 1, .long), (a 2, .boolean), (a 3, .object RR_G), (a 4, .object RR_M), (a 5, .object RR_A), (a 6, .object RR_O), (a 7, .object RR_E)]
abbrev yy_A_asksTheSame : MethodName := ⟨"DispatchDesk$Atom", "asksTheSame", "(LDispatchDesk$Atom;)Z"⟩
abbrev yy_A_holdsFor : MethodName := ⟨"DispatchDesk$Atom", "holdsFor", "(ILDispatchDesk$Hierarchy;)Z"⟩
abbrev yy_A_i : MethodName := ⟨"DispatchDesk$Atom", "i", "()I"⟩
abbrev yy_A_init : MethodName := ⟨"DispatchDesk$Atom", "<init>", "(IIIZ)V"⟩
abbrev yy_A_kind : MethodName := ⟨"DispatchDesk$Atom", "kind", "()I"⟩
abbrev yy_A_negated : MethodName := ⟨"DispatchDesk$Atom", "negated", "()Z"⟩
abbrev yy_A_plainest : MethodName := ⟨"DispatchDesk$Atom", "plainest", "(IIIZ)LDispatchDesk$Atom;"⟩
abbrev yy_A_x : MethodName := ⟨"DispatchDesk$Atom", "x", "()I"⟩
abbrev yy_B_bringForward : MethodName := ⟨"DispatchDesk$GraphBuilder", "bringForward", "(IIJ)I"⟩
abbrev yy_B_build : MethodName := ⟨"DispatchDesk$GraphBuilder", "build", "(LDispatchDesk$Generic;)Z"⟩
abbrev yy_B_differing : MethodName := ⟨"DispatchDesk$GraphBuilder", "differing", "(II)J"⟩
abbrev yy_B_gather : MethodName := ⟨"DispatchDesk$GraphBuilder", "gather", "(LDispatchDesk$Generic;)I"⟩
abbrev yy_B_init : MethodName := ⟨"DispatchDesk$GraphBuilder", "<init>", "()V"⟩
abbrev yy_B_treeFor : MethodName := ⟨"DispatchDesk$GraphBuilder", "treeFor", "(LDispatchDesk$Graph;III)I"⟩
abbrev yy_D_atom : MethodName := ⟨"DispatchDesk", "atom", "(IIIIZ)I"⟩
abbrev yy_D_best : MethodName := ⟨"DispatchDesk", "best", "(III)I"⟩
abbrev yy_D_beyond : MethodName := ⟨"DispatchDesk", "beyond", "(II)Z"⟩
abbrev yy_D_check : MethodName := ⟨"DispatchDesk", "check", "(I)I"⟩
abbrev yy_D_compile : MethodName := ⟨"DispatchDesk", "compile", "(I)I"⟩
abbrev yy_D_compiledAt : MethodName := ⟨"DispatchDesk", "compiledAt", "(II)LDispatchDesk$Generic;"⟩
abbrev yy_D_generic : MethodName := ⟨"DispatchDesk", "generic", "(I)I"⟩
abbrev yy_D_genericAt : MethodName := ⟨"DispatchDesk", "genericAt", "(I)LDispatchDesk$Generic;"⟩
abbrev yy_D_init : MethodName := ⟨"DispatchDesk", "<init>", "()V"⟩
abbrev yy_D_isAtom : MethodName := ⟨"DispatchDesk", "isAtom", "(IIII)Z"⟩
abbrev yy_D_isOperation : MethodName := ⟨"DispatchDesk", "isOperation", "(III)Z"⟩
abbrev yy_D_isRow : MethodName := ⟨"DispatchDesk", "isRow", "(LDispatchDesk$Generic;II)Z"⟩
abbrev yy_D_klass : MethodName := ⟨"DispatchDesk", "klass", "(I)I"⟩
abbrev yy_D_left : MethodName := ⟨"DispatchDesk", "left", "()I"⟩
abbrev yy_D_method : MethodName := ⟨"DispatchDesk", "method", "(I)I"⟩
abbrev yy_D_methodAt : MethodName := ⟨"DispatchDesk", "methodAt", "(I)LDispatchDesk$Method;"⟩
abbrev yy_D_node : MethodName := ⟨"DispatchDesk", "node", "(III)I"⟩
abbrev yy_D_operation : MethodName := ⟨"DispatchDesk", "operation", "(III)I"⟩
abbrev yy_D_run : MethodName := ⟨"DispatchDesk", "run", "(IIII)I"⟩
abbrev yy_D_test : MethodName := ⟨"DispatchDesk", "test", "(III)I"⟩
abbrev yy_D_tests : MethodName := ⟨"DispatchDesk", "tests", "()I"⟩
abbrev yy_D_witness : MethodName := ⟨"DispatchDesk", "witness", "(I)I"⟩
abbrev yy_E_has : MethodName := ⟨"DispatchDesk$Frame", "has", "(I)Z"⟩
abbrev yy_E_init : MethodName := ⟨"DispatchDesk$Frame", "<init>", "()V"⟩
abbrev yy_E_open : MethodName := ⟨"DispatchDesk$Frame", "open", "(LDispatchDesk$Method;II)V"⟩
abbrev yy_E_pop : MethodName := ⟨"DispatchDesk$Frame", "pop", "()I"⟩
abbrev yy_E_push : MethodName := ⟨"DispatchDesk$Frame", "push", "(I)I"⟩
abbrev yy_E_result : MethodName := ⟨"DispatchDesk$Frame", "result", "()I"⟩
abbrev yy_F_forget : MethodName := ⟨"DispatchDesk$Facts", "forget", "()V"⟩
abbrev yy_F_init : MethodName := ⟨"DispatchDesk$Facts", "<init>", "(LDispatchDesk$Hierarchy;)V"⟩
abbrev yy_F_learn : MethodName := ⟨"DispatchDesk$Facts", "learn", "(LDispatchDesk$Atom;)J"⟩
abbrev yy_F_note : MethodName := ⟨"DispatchDesk$Facts", "note", "(LDispatchDesk$Atom;J)V"⟩
abbrev yy_F_ofRow : MethodName := ⟨"DispatchDesk$Facts", "ofRow", "(II)J"⟩
abbrev yy_F_part : MethodName := ⟨"DispatchDesk$Facts", "part", "(II)I"⟩
abbrev yy_F_size : MethodName := ⟨"DispatchDesk$Facts", "size", "()I"⟩
abbrev yy_G_add : MethodName := ⟨"DispatchDesk$Generic", "add", "(LDispatchDesk$Method;)V"⟩
abbrev yy_G_applicable : MethodName := ⟨"DispatchDesk$Generic", "applicable", "(J)I"⟩
abbrev yy_G_choose : MethodName := ⟨"DispatchDesk$Generic", "choose", "(J)I"⟩
abbrev yy_G_chooseBehind : MethodName := ⟨"DispatchDesk$Generic", "chooseBehind", "(LDispatchDesk$Method;J)I"⟩
abbrev yy_G_findBeyond : MethodName := ⟨"DispatchDesk$Generic", "findBeyond", "()V"⟩
abbrev yy_G_findImplied : MethodName := ⟨"DispatchDesk$Generic", "findImplied", "()V"⟩
abbrev yy_G_firstCount : MethodName := ⟨"DispatchDesk$Generic", "firstCount", "()I"⟩
abbrev yy_G_firstFault : MethodName := ⟨"DispatchDesk$Generic", "firstFault", "()I"⟩
abbrev yy_G_firstOfRow : MethodName := ⟨"DispatchDesk$Generic", "firstOfRow", "(I)I"⟩
abbrev yy_G_init : MethodName := ⟨"DispatchDesk$Generic", "<init>", "(ILDispatchDesk$Hierarchy;)V"⟩
abbrev yy_G_noteTogether : MethodName := ⟨"DispatchDesk$Generic", "noteTogether", "(I)V"⟩
abbrev yy_G_outdate : MethodName := ⟨"DispatchDesk$Generic", "outdate", "()V"⟩
abbrev yy_G_pick : MethodName := ⟨"DispatchDesk$Generic", "pick", "(I)I"⟩
abbrev yy_G_refresh : MethodName := ⟨"DispatchDesk$Generic", "refresh", "()V"⟩
abbrev yy_G_secondCount : MethodName := ⟨"DispatchDesk$Generic", "secondCount", "()I"⟩
abbrev yy_G_secondOfRow : MethodName := ⟨"DispatchDesk$Generic", "secondOfRow", "(I)I"⟩
abbrev yy_G_secondOrNone : MethodName := ⟨"DispatchDesk$Generic", "secondOrNone", "(I)I"⟩
abbrev yy_H_add : MethodName := ⟨"DispatchDesk$Hierarchy", "add", "(I)I"⟩
abbrev yy_H_has : MethodName := ⟨"DispatchDesk$Hierarchy", "has", "(I)Z"⟩
abbrev yy_H_hasValue : MethodName := ⟨"DispatchDesk$Hierarchy", "hasValue", "(I)Z"⟩
abbrev yy_H_init : MethodName := ⟨"DispatchDesk$Hierarchy", "<init>", "()V"⟩
abbrev yy_H_is : MethodName := ⟨"DispatchDesk$Hierarchy", "is", "(II)Z"⟩
abbrev yy_H_isFull : MethodName := ⟨"DispatchDesk$Hierarchy", "isFull", "()Z"⟩
abbrev yy_H_valueCount : MethodName := ⟨"DispatchDesk$Hierarchy", "valueCount", "()I"⟩
abbrev yy_L_atom : MethodName := ⟨"DispatchDeskLaw", "atom", "(LDispatchDesk;IIIIZ[J)I"⟩
abbrev yy_L_best : MethodName := ⟨"DispatchDeskLaw", "best", "(LDispatchDesk;III[J)I"⟩
abbrev yy_L_beyond : MethodName := ⟨"DispatchDeskLaw", "beyond", "(LDispatchDesk;II[J)I"⟩
abbrev yy_L_check : MethodName := ⟨"DispatchDeskLaw", "check", "(LDispatchDesk;I[J)I"⟩
abbrev yy_L_compile : MethodName := ⟨"DispatchDeskLaw", "compile", "(LDispatchDesk;I[J)I"⟩
abbrev yy_L_generic : MethodName := ⟨"DispatchDeskLaw", "generic", "(LDispatchDesk;I[J)I"⟩
abbrev yy_L_klass : MethodName := ⟨"DispatchDeskLaw", "klass", "(LDispatchDesk;I[J)I"⟩
abbrev yy_L_method : MethodName := ⟨"DispatchDeskLaw", "method", "(LDispatchDesk;I[J)I"⟩
abbrev yy_L_node : MethodName := ⟨"DispatchDeskLaw", "node", "(LDispatchDesk;III[J)I"⟩
abbrev yy_L_operation : MethodName := ⟨"DispatchDeskLaw", "operation", "(LDispatchDesk;III[J)I"⟩
abbrev yy_L_run : MethodName := ⟨"DispatchDeskLaw", "run", "(LDispatchDesk;IIII[J)I"⟩
abbrev yy_L_test : MethodName := ⟨"DispatchDeskLaw", "test", "(LDispatchDesk;III[J)I"⟩
abbrev yy_L_witness : MethodName := ⟨"DispatchDeskLaw", "witness", "(LDispatchDesk;I[J)I"⟩
abbrev yy_M_addAtom : MethodName := ⟨"DispatchDesk$Method", "addAtom", "(LDispatchDesk$Atom;)I"⟩
abbrev yy_M_addOperation : MethodName := ⟨"DispatchDesk$Method", "addOperation", "(LDispatchDesk$Operation;)I"⟩
abbrev yy_M_bit : MethodName := ⟨"DispatchDesk$Method", "bit", "()I"⟩
abbrev yy_M_holds : MethodName := ⟨"DispatchDesk$Method", "holds", "(J)Z"⟩
abbrev yy_M_init : MethodName := ⟨"DispatchDesk$Method", "<init>", "(ILDispatchDesk$Generic;)V"⟩
abbrev yy_M_learnCondition : MethodName := ⟨"DispatchDesk$Method", "learnCondition", "(LDispatchDesk$Facts;)V"⟩
abbrev yy_N_call : MethodName := ⟨"DispatchDesk$Machine", "call", "(LDispatchDesk$Generic;III)I"⟩
abbrev yy_N_callNext : MethodName := ⟨"DispatchDesk$Machine", "callNext", "(LDispatchDesk$Frame;I)I"⟩
abbrev yy_N_callOnTop : MethodName := ⟨"DispatchDesk$Machine", "callOnTop", "(LDispatchDesk$Generic;LDispatchDesk$Frame;I)I"⟩
abbrev yy_N_combine : MethodName := ⟨"DispatchDesk$Machine", "combine", "(LDispatchDesk$Frame;Z)I"⟩
abbrev yy_N_enter : MethodName := ⟨"DispatchDesk$Machine", "enter", "(I)I"⟩
abbrev yy_N_init : MethodName := ⟨"DispatchDesk$Machine", "<init>", "()V"⟩
abbrev yy_N_load : MethodName := ⟨"DispatchDesk$Machine", "load", "([LDispatchDesk$Generic;[LDispatchDesk$Method;I)V"⟩
abbrev yy_N_perform : MethodName := ⟨"DispatchDesk$Machine", "perform", "(LDispatchDesk$Method;III)I"⟩
abbrev yy_N_pushUnlessEnded : MethodName := ⟨"DispatchDesk$Machine", "pushUnlessEnded", "(LDispatchDesk$Frame;I)I"⟩
abbrev yy_N_recast : MethodName := ⟨"DispatchDesk$Machine", "recast", "(LDispatchDesk$Frame;I)I"⟩
abbrev yy_N_spend : MethodName := ⟨"DispatchDesk$Machine", "spend", "()I"⟩
abbrev yy_N_step : MethodName := ⟨"DispatchDesk$Machine", "step", "(LDispatchDesk$Operation;LDispatchDesk$Frame;I)I"⟩
abbrev yy_N_walk : MethodName := ⟨"DispatchDesk$Machine", "walk", "(LDispatchDesk$Graph;J)I"⟩
abbrev yy_O_init : MethodName := ⟨"DispatchDesk$Operation", "<init>", "(II)V"⟩
abbrev yy_O_kind : MethodName := ⟨"DispatchDesk$Operation", "kind", "()I"⟩
abbrev yy_O_n : MethodName := ⟨"DispatchDesk$Operation", "n", "()I"⟩
abbrev yy_Q_applies : MethodName := ⟨"DispatchDeskModel", "applies", "(III)Z"⟩
abbrev yy_Q_atom : MethodName := ⟨"DispatchDeskModel", "atom", "(IIIIZ)I"⟩
abbrev yy_Q_begin : MethodName := ⟨"DispatchDeskModel", "begin", "(IJJI)V"⟩
abbrev yy_Q_best : MethodName := ⟨"DispatchDeskModel", "best", "(III)I"⟩
abbrev yy_Q_bestAt : MethodName := ⟨"DispatchDeskModel", "bestAt", "(II)I"⟩
abbrev yy_Q_beyond : MethodName := ⟨"DispatchDeskModel", "beyond", "(II)Z"⟩
abbrev yy_Q_build : MethodName := ⟨"DispatchDeskModel", "build", "(I)Z"⟩
abbrev yy_Q_call : MethodName := ⟨"DispatchDeskModel", "call", "(IIII)V"⟩
abbrev yy_Q_check : MethodName := ⟨"DispatchDeskModel", "check", "(I)I"⟩
abbrev yy_Q_choose : MethodName := ⟨"DispatchDeskModel", "choose", "(III)I"⟩
abbrev yy_Q_common : MethodName := ⟨"DispatchDeskModel", "common", "(II)I"⟩
abbrev yy_Q_compile : MethodName := ⟨"DispatchDeskModel", "compile", "(I)I"⟩
abbrev yy_Q_fail : MethodName := ⟨"DispatchDeskModel", "fail", "(I)I"⟩
abbrev yy_Q_firstMethod : MethodName := ⟨"DispatchDeskModel", "firstMethod", "(I)I"⟩
abbrev yy_Q_firstOf : MethodName := ⟨"DispatchDeskModel", "firstOf", "(II)I"⟩
abbrev yy_Q_forget : MethodName := ⟨"DispatchDeskModel", "forget", "(I)V"⟩
abbrev yy_Q_gather : MethodName := ⟨"DispatchDeskModel", "gather", "(I)V"⟩
abbrev yy_Q_generic : MethodName := ⟨"DispatchDeskModel", "generic", "(I)I"⟩
abbrev yy_Q_hasTest : MethodName := ⟨"DispatchDeskModel", "hasTest", "(II)Z"⟩
abbrev yy_Q_holds : MethodName := ⟨"DispatchDeskModel", "holds", "(IIIII)Z"⟩
abbrev yy_Q_in : MethodName := ⟨"DispatchDeskModel", "in", "(III)Z"⟩
abbrev yy_Q_inTree : MethodName := ⟨"DispatchDeskModel", "inTree", "(II)Z"⟩
abbrev yy_Q_init : MethodName := ⟨"DispatchDeskModel", "<init>", "()V"⟩
abbrev yy_Q_isClass : MethodName := ⟨"DispatchDeskModel", "isClass", "(II)Z"⟩
abbrev yy_Q_isRow : MethodName := ⟨"DispatchDeskModel", "isRow", "(III)Z"⟩
abbrev yy_Q_klass : MethodName := ⟨"DispatchDeskModel", "klass", "(I)I"⟩
abbrev yy_Q_know : MethodName := ⟨"DispatchDeskModel", "know", "(I)V"⟩
abbrev yy_Q_left : MethodName := ⟨"DispatchDeskModel", "left", "()I"⟩
abbrev yy_Q_made : MethodName := ⟨"DispatchDeskModel", "made", "(IIII)I"⟩
abbrev yy_Q_method : MethodName := ⟨"DispatchDeskModel", "method", "(I)I"⟩
abbrev yy_Q_node : MethodName := ⟨"DispatchDeskModel", "node", "(III)I"⟩
abbrev yy_Q_operation : MethodName := ⟨"DispatchDeskModel", "operation", "(III)I"⟩
abbrev yy_Q_partingTest : MethodName := ⟨"DispatchDeskModel", "partingTest", "(II)I"⟩
abbrev yy_Q_parts : MethodName := ⟨"DispatchDeskModel", "parts", "(III)Z"⟩
abbrev yy_Q_perform : MethodName := ⟨"DispatchDeskModel", "perform", "()V"⟩
abbrev yy_Q_push : MethodName := ⟨"DispatchDeskModel", "push", "(II)V"⟩
abbrev yy_Q_row : MethodName := ⟨"DispatchDeskModel", "row", "(III)I"⟩
abbrev yy_Q_rows : MethodName := ⟨"DispatchDeskModel", "rows", "(I)I"⟩
abbrev yy_Q_run : MethodName := ⟨"DispatchDeskModel", "run", "(IIII)I"⟩
abbrev yy_Q_secondOf : MethodName := ⟨"DispatchDeskModel", "secondOf", "(II)I"⟩
abbrev yy_Q_spends : MethodName := ⟨"DispatchDeskModel", "spends", "()Z"⟩
abbrev yy_Q_test : MethodName := ⟨"DispatchDeskModel", "test", "(III)I"⟩
abbrev yy_Q_tests : MethodName := ⟨"DispatchDeskModel", "tests", "()I"⟩
abbrev yy_Q_thrown : MethodName := ⟨"DispatchDeskModel", "thrown", "()I"⟩
abbrev yy_Q_values : MethodName := ⟨"DispatchDeskModel", "values", "()I"⟩
abbrev yy_Q_witness : MethodName := ⟨"DispatchDeskModel", "witness", "(I)I"⟩
abbrev yy_R_clear : MethodName := ⟨"DispatchDesk$Graph", "clear", "()V"⟩
abbrev yy_R_follow : MethodName := ⟨"DispatchDesk$Graph", "follow", "(IJ)I"⟩
abbrev yy_R_init : MethodName := ⟨"DispatchDesk$Graph", "<init>", "()V"⟩
abbrev yy_R_isEmpty : MethodName := ⟨"DispatchDesk$Graph", "isEmpty", "()Z"⟩
abbrev yy_R_isLeaf : MethodName := ⟨"DispatchDesk$Graph", "isLeaf", "(I)Z"⟩
abbrev yy_R_leafFor : MethodName := ⟨"DispatchDesk$Graph", "leafFor", "(I)I"⟩
abbrev yy_R_methodAt : MethodName := ⟨"DispatchDesk$Graph", "methodAt", "(I)I"⟩
abbrev yy_R_nodeFor : MethodName := ⟨"DispatchDesk$Graph", "nodeFor", "(III)I"⟩
abbrev yy_R_part : MethodName := ⟨"DispatchDesk$Graph", "part", "(II)I"⟩
abbrev yy_R_root : MethodName := ⟨"DispatchDesk$Graph", "root", "()I"⟩
abbrev yy_R_size : MethodName := ⟨"DispatchDesk$Graph", "size", "()I"⟩
abbrev yy_V_classOf : MethodName := ⟨"DispatchDesk$Value", "classOf", "(I)I"⟩
abbrev yy_V_isNumber : MethodName := ⟨"DispatchDesk$Value", "isNumber", "(I)Z"⟩
abbrev yy_V_numberOf : MethodName := ⟨"DispatchDesk$Value", "numberOf", "(I)I"⟩
abbrev yy_V_of : MethodName := ⟨"DispatchDesk$Value", "of", "(II)I"⟩
abbrev bb_A_asksTheSame : ByteArray := prog_2_method_3_code
abbrev bb_A_holdsFor : ByteArray := prog_2_method_4_code
abbrev bb_A_i : ByteArray := prog_2_method_9_code
abbrev bb_A_init : ByteArray := prog_2_method_1_code
abbrev bb_A_kind : ByteArray := prog_2_method_8_code
abbrev bb_A_negated : ByteArray := prog_2_method_11_code
abbrev bb_A_plainest : ByteArray := prog_2_method_2_code
abbrev bb_A_x : ByteArray := prog_2_method_10_code
abbrev bb_B_bringForward : ByteArray := prog_7_method_6_code
abbrev bb_B_build : ByteArray := prog_7_method_2_code
abbrev bb_B_differing : ByteArray := prog_7_method_5_code
abbrev bb_B_gather : ByteArray := prog_7_method_3_code
abbrev bb_B_init : ByteArray := prog_7_method_1_code
abbrev bb_B_treeFor : ByteArray := prog_7_method_4_code
abbrev bb_D_atom : ByteArray := prog_1_method_5_code
abbrev bb_D_best : ByteArray := prog_1_method_8_code
abbrev bb_D_beyond : ByteArray := prog_1_method_7_code
abbrev bb_D_check : ByteArray := prog_1_method_9_code
abbrev bb_D_compile : ByteArray := prog_1_method_11_code
abbrev bb_D_compiledAt : ByteArray := prog_1_method_19_code
abbrev bb_D_generic : ByteArray := prog_1_method_3_code
abbrev bb_D_genericAt : ByteArray := prog_1_method_17_code
abbrev bb_D_init : ByteArray := prog_1_method_1_code
abbrev bb_D_isAtom : ByteArray := prog_1_method_21_code
abbrev bb_D_isOperation : ByteArray := prog_1_method_22_code
abbrev bb_D_isRow : ByteArray := prog_1_method_20_code
abbrev bb_D_klass : ByteArray := prog_1_method_2_code
abbrev bb_D_left : ByteArray := prog_1_method_15_code
abbrev bb_D_method : ByteArray := prog_1_method_4_code
abbrev bb_D_methodAt : ByteArray := prog_1_method_18_code
abbrev bb_D_node : ByteArray := prog_1_method_12_code
abbrev bb_D_operation : ByteArray := prog_1_method_6_code
abbrev bb_D_run : ByteArray := prog_1_method_14_code
abbrev bb_D_test : ByteArray := prog_1_method_13_code
abbrev bb_D_tests : ByteArray := prog_1_method_16_code
abbrev bb_D_witness : ByteArray := prog_1_method_10_code
abbrev bb_E_has : ByteArray := prog_4_method_3_code
abbrev bb_E_init : ByteArray := prog_4_method_1_code
abbrev bb_E_open : ByteArray := prog_4_method_2_code
abbrev bb_E_pop : ByteArray := prog_4_method_5_code
abbrev bb_E_push : ByteArray := prog_4_method_4_code
abbrev bb_E_result : ByteArray := prog_4_method_6_code
abbrev bb_F_forget : ByteArray := prog_3_method_4_code
abbrev bb_F_init : ByteArray := prog_3_method_1_code
abbrev bb_F_learn : ByteArray := prog_3_method_5_code
abbrev bb_F_note : ByteArray := prog_3_method_6_code
abbrev bb_F_ofRow : ByteArray := prog_3_method_7_code
abbrev bb_F_part : ByteArray := prog_3_method_3_code
abbrev bb_F_size : ByteArray := prog_3_method_2_code
abbrev bb_G_add : ByteArray := prog_5_method_7_code
abbrev bb_G_applicable : ByteArray := prog_5_method_13_code
abbrev bb_G_choose : ByteArray := prog_5_method_15_code
abbrev bb_G_chooseBehind : ByteArray := prog_5_method_16_code
abbrev bb_G_findBeyond : ByteArray := prog_5_method_12_code
abbrev bb_G_findImplied : ByteArray := prog_5_method_10_code
abbrev bb_G_firstCount : ByteArray := prog_5_method_4_code
abbrev bb_G_firstFault : ByteArray := prog_5_method_17_code
abbrev bb_G_firstOfRow : ByteArray := prog_5_method_2_code
abbrev bb_G_init : ByteArray := prog_5_method_1_code
abbrev bb_G_noteTogether : ByteArray := prog_5_method_11_code
abbrev bb_G_outdate : ByteArray := prog_5_method_8_code
abbrev bb_G_pick : ByteArray := prog_5_method_14_code
abbrev bb_G_refresh : ByteArray := prog_5_method_9_code
abbrev bb_G_secondCount : ByteArray := prog_5_method_5_code
abbrev bb_G_secondOfRow : ByteArray := prog_5_method_3_code
abbrev bb_G_secondOrNone : ByteArray := prog_5_method_6_code
abbrev bb_H_add : ByteArray := prog_8_method_4_code
abbrev bb_H_has : ByteArray := prog_8_method_2_code
abbrev bb_H_hasValue : ByteArray := prog_8_method_7_code
abbrev bb_H_init : ByteArray := prog_8_method_1_code
abbrev bb_H_is : ByteArray := prog_8_method_5_code
abbrev bb_H_isFull : ByteArray := prog_8_method_3_code
abbrev bb_H_valueCount : ByteArray := prog_8_method_6_code
abbrev bb_L_atom : ByteArray := method_6_code
abbrev bb_L_best : ByteArray := method_9_code
abbrev bb_L_beyond : ByteArray := method_8_code
abbrev bb_L_check : ByteArray := method_10_code
abbrev bb_L_compile : ByteArray := method_12_code
abbrev bb_L_generic : ByteArray := method_4_code
abbrev bb_L_klass : ByteArray := method_3_code
abbrev bb_L_law : ByteArray := code
abbrev bb_L_method : ByteArray := method_5_code
abbrev bb_L_node : ByteArray := method_13_code
abbrev bb_L_operation : ByteArray := method_7_code
abbrev bb_L_run : ByteArray := method_15_code
abbrev bb_L_test : ByteArray := method_14_code
abbrev bb_L_witness : ByteArray := method_11_code
abbrev bb_M_addAtom : ByteArray := prog_10_method_3_code
abbrev bb_M_addOperation : ByteArray := prog_10_method_4_code
abbrev bb_M_bit : ByteArray := prog_10_method_2_code
abbrev bb_M_holds : ByteArray := prog_10_method_6_code
abbrev bb_M_init : ByteArray := prog_10_method_1_code
abbrev bb_M_learnCondition : ByteArray := prog_10_method_5_code
abbrev bb_N_call : ByteArray := prog_9_method_3_code
abbrev bb_N_callNext : ByteArray := prog_9_method_4_code
abbrev bb_N_callOnTop : ByteArray := prog_9_method_12_code
abbrev bb_N_combine : ByteArray := prog_9_method_10_code
abbrev bb_N_enter : ByteArray := prog_9_method_5_code
abbrev bb_N_init : ByteArray := prog_9_method_1_code
abbrev bb_N_load : ByteArray := prog_9_method_2_code
abbrev bb_N_perform : ByteArray := prog_9_method_8_code
abbrev bb_N_pushUnlessEnded : ByteArray := prog_9_method_13_code
abbrev bb_N_recast : ByteArray := prog_9_method_11_code
abbrev bb_N_spend : ByteArray := prog_9_method_6_code
abbrev bb_N_step : ByteArray := prog_9_method_9_code
abbrev bb_N_walk : ByteArray := prog_9_method_7_code
abbrev bb_O_init : ByteArray := prog_11_method_1_code
abbrev bb_O_kind : ByteArray := prog_11_method_5_code
abbrev bb_O_n : ByteArray := prog_11_method_6_code
abbrev bb_Q_applies : ByteArray := prog_14_method_18_code
abbrev bb_Q_atom : ByteArray := prog_14_method_9_code
abbrev bb_Q_begin : ByteArray := prog_14_method_34_code
abbrev bb_Q_best : ByteArray := prog_14_method_25_code
abbrev bb_Q_bestAt : ByteArray := prog_14_method_22_code
abbrev bb_Q_beyond : ByteArray := prog_14_method_24_code
abbrev bb_Q_build : ByteArray := prog_14_method_35_code
abbrev bb_Q_call : ByteArray := prog_14_method_41_code
abbrev bb_Q_check : ByteArray := prog_14_method_26_code
abbrev bb_Q_choose : ByteArray := prog_14_method_39_code
abbrev bb_Q_common : ByteArray := prog_14_method_32_code
abbrev bb_Q_compile : ByteArray := prog_14_method_36_code
abbrev bb_Q_fail : ByteArray := prog_14_method_4_code
abbrev bb_Q_firstMethod : ByteArray := prog_14_method_21_code
abbrev bb_Q_firstOf : ByteArray := prog_14_method_14_code
abbrev bb_Q_forget : ByteArray := prog_14_method_5_code
abbrev bb_Q_gather : ByteArray := prog_14_method_29_code
abbrev bb_Q_generic : ByteArray := prog_14_method_7_code
abbrev bb_Q_hasTest : ByteArray := prog_14_method_28_code
abbrev bb_Q_holds : ByteArray := prog_14_method_17_code
abbrev bb_Q_in : ByteArray := prog_14_method_3_code
abbrev bb_Q_inTree : ByteArray := prog_14_method_31_code
abbrev bb_Q_init : ByteArray := prog_14_method_1_code
abbrev bb_Q_isClass : ByteArray := prog_14_method_16_code
abbrev bb_Q_isRow : ByteArray := prog_14_method_23_code
abbrev bb_Q_klass : ByteArray := prog_14_method_6_code
abbrev bb_Q_know : ByteArray := prog_14_method_20_code
abbrev bb_Q_left : ByteArray := prog_14_method_45_code
abbrev bb_Q_made : ByteArray := prog_14_method_30_code
abbrev bb_Q_method : ByteArray := prog_14_method_8_code
abbrev bb_Q_node : ByteArray := prog_14_method_37_code
abbrev bb_Q_operation : ByteArray := prog_14_method_10_code
abbrev bb_Q_partingTest : ByteArray := prog_14_method_33_code
abbrev bb_Q_parts : ByteArray := prog_14_method_19_code
abbrev bb_Q_perform : ByteArray := prog_14_method_43_code
abbrev bb_Q_push : ByteArray := prog_14_method_42_code
abbrev bb_Q_row : ByteArray := prog_14_method_13_code
abbrev bb_Q_rows : ByteArray := prog_14_method_12_code
abbrev bb_Q_run : ByteArray := prog_14_method_44_code
abbrev bb_Q_secondOf : ByteArray := prog_14_method_15_code
abbrev bb_Q_spends : ByteArray := prog_14_method_40_code
abbrev bb_Q_test : ByteArray := prog_14_method_38_code
abbrev bb_Q_tests : ByteArray := prog_14_method_46_code
abbrev bb_Q_thrown : ByteArray := prog_14_method_2_code
abbrev bb_Q_values : ByteArray := prog_14_method_11_code
abbrev bb_Q_witness : ByteArray := prog_14_method_27_code
abbrev bb_R_clear : ByteArray := prog_6_method_2_code
abbrev bb_R_follow : ByteArray := prog_6_method_11_code
abbrev bb_R_init : ByteArray := prog_6_method_1_code
abbrev bb_R_isEmpty : ByteArray := prog_6_method_3_code
abbrev bb_R_isLeaf : ByteArray := prog_6_method_9_code
abbrev bb_R_leafFor : ByteArray := prog_6_method_6_code
abbrev bb_R_methodAt : ByteArray := prog_6_method_10_code
abbrev bb_R_nodeFor : ByteArray := prog_6_method_7_code
abbrev bb_R_part : ByteArray := prog_6_method_5_code
abbrev bb_R_root : ByteArray := prog_6_method_8_code
abbrev bb_R_size : ByteArray := prog_6_method_4_code
abbrev bb_V_classOf : ByteArray := prog_12_method_4_code
abbrev bb_V_isNumber : ByteArray := prog_12_method_2_code
abbrev bb_V_numberOf : ByteArray := prog_12_method_5_code
abbrev bb_V_of : ByteArray := prog_12_method_3_code
/-- a word that stays when the tables warm -/
def zz_oa : Cond → Bool
  | .arrayClass _ => true
  | .arrayOver (.object _) => true
  | _ => false
def zz_ok (w : Cond) : Bool := (w.onTables && (w.keepsH || w.keepsFace)) || zz_oa w
theorem zz_warm {w : Cond} (hw : zz_ok w = true) {A A' : Array Value} {s U : State} (hW : s.WarmedH U.vm) (h : w.before A s = true) : w.before A' U = true := by
  unfold zz_ok at hw
  rw [Bool.or_eq_true, Bool.and_eq_true, Bool.or_eq_true] at hw
  rcases hw with ⟨hc, hk | hk⟩ | hw
  · have h1 := Cond.onTables_warmH (T := U) (args' := A') hW hc hk h
    rwa [State.setVm_self] at h1
  · have h1 : w.before A (s.setVm U.vm) = true := Cond.before_shiftedFace (State.Shifted.of_warmed hW) _ hk h
    exact va_tabs hc (u := s.setVm U.vm) (U := U) (show (s.setVm U.vm).vm = U.vm from rfl) h1
  · match w, hw with
    | .arrayClass ty, _ => exact word_at hW (Or.inr ⟨ty, rfl⟩) h
    | .arrayOver (.object Cn), _ => exact (va_AO.moved hW.alike (va_AO.of h)).use
def zz_tb : List Cond := lw_tbl.filter zz_ok
theorem zz_w {w : Cond} (i : Nat) (h : tables_1[i]? = some w) (ok : zz_ok w = true) : w ∈ zz_tb := List.mem_filter.mpr ⟨List.mem_append_right _ (List.mem_of_getElem? h), ok⟩
theorem zz_wp {y : MethodName} {k : Nat} (h : (y, k) ∈ lw_privs) (ok : zz_ok (Cond.selects y.cls y y) = true) : Cond.selects y.cls y y ∈ zz_tb := List.mem_filter.mpr ⟨List.mem_append_left _ (List.mem_map.mpr ⟨_, h, rfl⟩), ok⟩
theorem zz_FX (strs : List (String × Nat × String)) (B : Nat) : zz_F B zz_tb (zz_X strs B) := by
  refine ⟨fun w hw A A' s U hW h => zz_warm (List.mem_filter.mp hw).2 hW h, fun s U H hW hX => ⟨hX.1.moved hW.alike, hX.2.1.moved hW.alike, fun q hq => ?_⟩, fun U H H1 hk hX => ⟨hX.1.kept hk, hX.2.1.kept hk, hX.2.2⟩⟩
  obtain ⟨sa, h⟩ := hX.2.2 q hq
  exact ⟨sa, vk_R.warm hW h⟩
abbrev zz_st : List (String × Nat × String) := [("DispatchDesk", 64, "no such parent"), ("DispatchDesk", 75, "no room for a class"), ("DispatchDesk", 85, "one or two arguments"), ("DispatchDesk", 87, "no room for a generic"), ("DispatchDesk", 250, "no such generic"), ("DispatchDesk", 96, "no room for a method"), ("DispatchDesk", 252, "no such method"), ("DispatchDesk", 119, "no such atom"), ("DispatchDesk", 124, "no room for an atom"), ("DispatchDesk", 140, "no such operation"), ("DispatchDesk", 145, "no room for an operation"), ("DispatchDesk", 156, "methods of different generics"), ("DispatchDesk", 172, "no such value"), ("DispatchDesk", 202, "no such witness"), ("DispatchDesk", 209, "the graph is too large"), ("DispatchDesk", 254, "no such what"), ("DispatchDesk", 259, "not compiled"), ("DispatchDesk", 224, "no such node"), ("DispatchDesk", 231, "no such test"), ("DispatchDesk", 234, "no such fuel")]
abbrev zz_x (B : Nat) : State → Heap → Prop := zz_X zz_st B
abbrev zz_f (B : Nat) : zz_F B zz_tb (zz_x B) := zz_FX zz_st B
end
section
theorem wd_0 : Cond.initialized "DispatchDeskLaw" ∈ zz_tb := zz_w 0 (by decide +kernel) (by decide +kernel)
theorem wd_1 : Cond.initialized "DispatchDesk" ∈ zz_tb := zz_w 1 (by decide +kernel) (by decide +kernel)
theorem wd_2 : Cond.initialized "DispatchDesk$Hierarchy" ∈ zz_tb := zz_w 2 (by decide +kernel) (by decide +kernel)
theorem wd_3 : Cond.initialized "DispatchDesk$GraphBuilder" ∈ zz_tb := zz_w 3 (by decide +kernel) (by decide +kernel)
theorem wd_4 : Cond.initialized "DispatchDesk$Machine" ∈ zz_tb := zz_w 4 (by decide +kernel) (by decide +kernel)
theorem wd_5 : Cond.initialized "DispatchDesk$Frame" ∈ zz_tb := zz_w 5 (by decide +kernel) (by decide +kernel)
theorem wd_6 : Cond.initialized "DispatchDeskModel" ∈ zz_tb := zz_w 6 (by decide +kernel) (by decide +kernel)
theorem wd_7 : Cond.initialized "java/lang/Throwable" ∈ zz_tb := zz_w 7 (by decide +kernel) (by decide +kernel)
theorem wd_8 : Cond.initialized "java/lang/Exception" ∈ zz_tb := zz_w 8 (by decide +kernel) (by decide +kernel)
theorem wd_9 : Cond.initialized "java/lang/RuntimeException" ∈ zz_tb := zz_w 9 (by decide +kernel) (by decide +kernel)
theorem wd_10 : Cond.initialized "java/lang/IllegalArgumentException" ∈ zz_tb := zz_w 10 (by decide +kernel) (by decide +kernel)
theorem wd_11 : Cond.initialized "java/lang/IllegalStateException" ∈ zz_tb := zz_w 11 (by decide +kernel) (by decide +kernel)
theorem wd_12 : Cond.initialized "DispatchDesk$Generic" ∈ zz_tb := zz_w 12 (by decide +kernel) (by decide +kernel)
theorem wd_13 : Cond.initialized "DispatchDesk$Graph" ∈ zz_tb := zz_w 13 (by decide +kernel) (by decide +kernel)
theorem wd_14 : Cond.initialized "DispatchDesk$Facts" ∈ zz_tb := zz_w 14 (by decide +kernel) (by decide +kernel)
theorem wd_15 : Cond.initialized "DispatchDesk$Method" ∈ zz_tb := zz_w 15 (by decide +kernel) (by decide +kernel)
theorem wd_16 : Cond.initialized "DispatchDesk$Value" ∈ zz_tb := zz_w 16 (by decide +kernel) (by decide +kernel)
theorem wd_17 : Cond.initialized "java/lang/Record" ∈ zz_tb := zz_w 17 (by decide +kernel) (by decide +kernel)
theorem wd_18 : Cond.initialized "DispatchDesk$Atom" ∈ zz_tb := zz_w 18 (by decide +kernel) (by decide +kernel)
theorem wd_19 : Cond.initialized "DispatchDesk$Operation" ∈ zz_tb := zz_w 19 (by decide +kernel) (by decide +kernel)
theorem wd_20 : Cond.initialized "java/util/NoSuchElementException" ∈ zz_tb := zz_w 20 (by decide +kernel) (by decide +kernel)
theorem wd_21 : Cond.initialized "java/lang/Long" ∈ zz_tb := zz_w 21 (by decide +kernel) (by decide +kernel)
theorem wd_22 : Cond.initialized "java/lang/Integer" ∈ zz_tb := zz_w 22 (by decide +kernel) (by decide +kernel)
theorem wd_23 : Cond.classLink "DispatchDeskLaw" 8 "DispatchDesk" ∈ zz_tb := zz_w 23 (by decide +kernel) (by decide +kernel)
theorem wd_24 : Cond.instantiable "DispatchDesk" 10 ∈ zz_tb := zz_w 24 (by decide +kernel) (by decide +kernel)
theorem wd_25 : Cond.methodLink "DispatchDeskLaw" 59 yy_D_init ∈ zz_tb := zz_w 25 (by decide +kernel) (by decide +kernel)
theorem wd_26 : Cond.instanceMethod yy_D_init ∈ zz_tb := zz_w 26 (by decide +kernel) (by decide +kernel)
theorem wd_27 : Cond.code yy_D_init prog_1_method_1_code 1 none ∈ zz_tb := zz_w 27 (by decide +kernel) (by decide +kernel)
theorem wd_28 : Cond.methodLink "DispatchDesk" 1 ⟨"java/lang/Object", "<init>", "()V"⟩ ∈ zz_tb := zz_w 28 (by decide +kernel) (by decide +kernel)
theorem wd_29 : Cond.instanceMethod ⟨"java/lang/Object", "<init>", "()V"⟩ ∈ zz_tb := zz_w 29 (by decide +kernel) (by decide +kernel)
theorem wd_30 : Cond.code ⟨"java/lang/Object", "<init>", "()V"⟩ object_method_1_code 1 none ∈ zz_tb := zz_w 30 (by decide +kernel) (by decide +kernel)
theorem wd_31 : Cond.classLink "DispatchDesk" 7 "DispatchDesk$Hierarchy" ∈ zz_tb := zz_w 31 (by decide +kernel) (by decide +kernel)
theorem wd_32 : Cond.instantiable "DispatchDesk$Hierarchy" 2 ∈ zz_tb := zz_w 32 (by decide +kernel) (by decide +kernel)
theorem wd_33 : Cond.methodLink "DispatchDesk" 9 yy_H_init ∈ zz_tb := zz_w 33 (by decide +kernel) (by decide +kernel)
theorem wd_34 : Cond.instanceMethod yy_H_init ∈ zz_tb := zz_w 34 (by decide +kernel) (by decide +kernel)
theorem wd_35 : Cond.code yy_H_init prog_8_method_1_code 1 none ∈ zz_tb := zz_w 35 (by decide +kernel) (by decide +kernel)
theorem wd_36 : Cond.methodLink "DispatchDesk$Hierarchy" 3 ⟨"java/lang/Object", "<init>", "()V"⟩ ∈ zz_tb := zz_w 36 (by decide +kernel) (by decide +kernel)
theorem wd_37 : Cond.fieldLink "DispatchDesk$Hierarchy" 9 "DispatchDesk$Hierarchy" "lineages" "[I" ∈ zz_tb := zz_w 37 (by decide +kernel) (by decide +kernel)
theorem wd_38 : Cond.fieldLink "DispatchDesk$Hierarchy" 13 "DispatchDesk$Hierarchy" "count" "I" ∈ zz_tb := zz_w 38 (by decide +kernel) (by decide +kernel)
theorem wd_39 : Cond.laysFinal "DispatchDesk$Hierarchy" "DispatchDesk$Hierarchy" "lineages" "[I" ∈ zz_tb := zz_w 39 (by decide +kernel) (by decide +kernel)
theorem wd_40 : Cond.soleField "DispatchDesk$Hierarchy" "lineages" ∈ zz_tb := zz_w 40 (by decide +kernel) (by decide +kernel)
theorem wd_41 : Cond.lays "DispatchDesk$Hierarchy" "DispatchDesk$Hierarchy" "count" "I" ∈ zz_tb := zz_w 41 (by decide +kernel) (by decide +kernel)
theorem wd_42 : Cond.soleField "DispatchDesk$Hierarchy" "count" ∈ zz_tb := zz_w 42 (by decide +kernel) (by decide +kernel)
theorem wd_43 : Cond.superclass "DispatchDesk$Hierarchy" "java/lang/Object" ∈ zz_tb := zz_w 43 (by decide +kernel) (by decide +kernel)
theorem wd_44 : Cond.arrayClass FieldType.int ∈ zz_tb := zz_w 44 (by decide +kernel) (by decide +kernel)
theorem wd_45 : Cond.classLink "DispatchDesk" 16 "DispatchDesk$Generic" ∈ zz_tb := zz_w 45 (by decide +kernel) (by decide +kernel)
theorem wd_46 : Cond.arrayOver (FieldType.object "DispatchDesk$Generic") ∈ zz_tb := zz_w 46 (by decide +kernel) (by decide +kernel)
theorem wd_47 : Cond.classLink "DispatchDesk" 26 "DispatchDesk$Method" ∈ zz_tb := zz_w 47 (by decide +kernel) (by decide +kernel)
theorem wd_48 : Cond.arrayOver (FieldType.object "DispatchDesk$Method") ∈ zz_tb := zz_w 48 (by decide +kernel) (by decide +kernel)
theorem wd_49 : Cond.classLink "DispatchDesk" 35 "DispatchDesk$GraphBuilder" ∈ zz_tb := zz_w 49 (by decide +kernel) (by decide +kernel)
theorem wd_50 : Cond.instantiable "DispatchDesk$GraphBuilder" 1 ∈ zz_tb := zz_w 50 (by decide +kernel) (by decide +kernel)
theorem wd_51 : Cond.methodLinkNest "DispatchDesk" 37 yy_B_init "DispatchDesk" ∈ zz_tb := zz_w 51 (by decide +kernel) (by decide +kernel)
theorem wd_52 : Cond.instanceMethod yy_B_init ∈ zz_tb := zz_w 52 (by decide +kernel) (by decide +kernel)
theorem wd_53 : Cond.code yy_B_init prog_7_method_1_code 1 none ∈ zz_tb := zz_w 53 (by decide +kernel) (by decide +kernel)
theorem wd_54 : Cond.methodLink "DispatchDesk$GraphBuilder" 5 ⟨"java/lang/Object", "<init>", "()V"⟩ ∈ zz_tb := zz_w 54 (by decide +kernel) (by decide +kernel)
theorem wd_55 : Cond.fieldLink "DispatchDesk$GraphBuilder" 13 "DispatchDesk$GraphBuilder" "rows" "[J" ∈ zz_tb := zz_w 55 (by decide +kernel) (by decide +kernel)
theorem wd_56 : Cond.laysFinal "DispatchDesk$GraphBuilder" "DispatchDesk$GraphBuilder" "rows" "[J" ∈ zz_tb := zz_w 56 (by decide +kernel) (by decide +kernel)
theorem wd_57 : Cond.soleField "DispatchDesk$GraphBuilder" "rows" ∈ zz_tb := zz_w 57 (by decide +kernel) (by decide +kernel)
theorem wd_58 : Cond.superclass "DispatchDesk$GraphBuilder" "java/lang/Object" ∈ zz_tb := zz_w 58 (by decide +kernel) (by decide +kernel)
theorem wd_59 : Cond.arrayClass FieldType.long ∈ zz_tb := zz_w 59 (by decide +kernel) (by decide +kernel)
theorem wd_60 : Cond.classLink "DispatchDesk" 42 "DispatchDesk$Machine" ∈ zz_tb := zz_w 60 (by decide +kernel) (by decide +kernel)
theorem wd_61 : Cond.instantiable "DispatchDesk$Machine" 5 ∈ zz_tb := zz_w 61 (by decide +kernel) (by decide +kernel)
theorem wd_62 : Cond.methodLink "DispatchDesk" 44 yy_N_init ∈ zz_tb := zz_w 62 (by decide +kernel) (by decide +kernel)
theorem wd_63 : Cond.instanceMethod yy_N_init ∈ zz_tb := zz_w 63 (by decide +kernel) (by decide +kernel)
theorem wd_64 : Cond.code yy_N_init prog_9_method_1_code 2 none ∈ zz_tb := zz_w 64 (by decide +kernel) (by decide +kernel)
theorem wd_65 : Cond.methodLink "DispatchDesk$Machine" 1 ⟨"java/lang/Object", "<init>", "()V"⟩ ∈ zz_tb := zz_w 65 (by decide +kernel) (by decide +kernel)
theorem wd_66 : Cond.classLink "DispatchDesk$Machine" 24 "DispatchDesk$Frame" ∈ zz_tb := zz_w 66 (by decide +kernel) (by decide +kernel)
theorem wd_67 : Cond.arrayOver (FieldType.object "DispatchDesk$Frame") ∈ zz_tb := zz_w 67 (by decide +kernel) (by decide +kernel)
theorem wd_68 : Cond.instantiable "DispatchDesk$Frame" 5 ∈ zz_tb := zz_w 68 (by decide +kernel) (by decide +kernel)
theorem wd_69 : Cond.methodLinkNest "DispatchDesk$Machine" 30 yy_E_init "DispatchDesk" ∈ zz_tb := zz_w 69 (by decide +kernel) (by decide +kernel)
theorem wd_70 : Cond.instanceMethod yy_E_init ∈ zz_tb := zz_w 70 (by decide +kernel) (by decide +kernel)
theorem wd_71 : Cond.code yy_E_init prog_4_method_1_code 1 none ∈ zz_tb := zz_w 71 (by decide +kernel) (by decide +kernel)
theorem wd_72 : Cond.methodLink "DispatchDesk$Frame" 1 ⟨"java/lang/Object", "<init>", "()V"⟩ ∈ zz_tb := zz_w 72 (by decide +kernel) (by decide +kernel)
theorem wd_73 : Cond.fieldLink "DispatchDesk$Frame" 7 "DispatchDesk$Frame" "method" "LDispatchDesk$Method;" ∈ zz_tb := zz_w 73 (by decide +kernel) (by decide +kernel)
theorem wd_74 : Cond.fieldLink "DispatchDesk$Machine" 69 "DispatchDesk$Frame" "method" "LDispatchDesk$Method;" ∈ zz_tb := zz_w 74 (by decide +kernel) (by decide +kernel)
theorem wd_75 : Cond.fieldLink "DispatchDesk$Frame" 13 "DispatchDesk$Frame" "first" "I" ∈ zz_tb := zz_w 75 (by decide +kernel) (by decide +kernel)
theorem wd_76 : Cond.fieldLink "DispatchDesk$Machine" 79 "DispatchDesk$Frame" "first" "I" ∈ zz_tb := zz_w 76 (by decide +kernel) (by decide +kernel)
theorem wd_77 : Cond.fieldLink "DispatchDesk$Frame" 17 "DispatchDesk$Frame" "second" "I" ∈ zz_tb := zz_w 77 (by decide +kernel) (by decide +kernel)
theorem wd_78 : Cond.fieldLink "DispatchDesk$Machine" 82 "DispatchDesk$Frame" "second" "I" ∈ zz_tb := zz_w 78 (by decide +kernel) (by decide +kernel)
theorem wd_79 : Cond.fieldLink "DispatchDesk$Frame" 20 "DispatchDesk$Frame" "stack" "[I" ∈ zz_tb := zz_w 79 (by decide +kernel) (by decide +kernel)
theorem wd_80 : Cond.fieldLink "DispatchDesk$Frame" 24 "DispatchDesk$Frame" "height" "I" ∈ zz_tb := zz_w 80 (by decide +kernel) (by decide +kernel)
theorem wd_81 : Cond.lays "DispatchDesk$Frame" "DispatchDesk$Frame" "method" "LDispatchDesk$Method;" ∈ zz_tb := zz_w 81 (by decide +kernel) (by decide +kernel)
theorem wd_82 : Cond.soleField "DispatchDesk$Frame" "method" ∈ zz_tb := zz_w 82 (by decide +kernel) (by decide +kernel)
theorem wd_83 : Cond.lays "DispatchDesk$Frame" "DispatchDesk$Frame" "first" "I" ∈ zz_tb := zz_w 83 (by decide +kernel) (by decide +kernel)
theorem wd_84 : Cond.soleField "DispatchDesk$Frame" "first" ∈ zz_tb := zz_w 84 (by decide +kernel) (by decide +kernel)
theorem wd_85 : Cond.lays "DispatchDesk$Frame" "DispatchDesk$Frame" "second" "I" ∈ zz_tb := zz_w 85 (by decide +kernel) (by decide +kernel)
theorem wd_86 : Cond.soleField "DispatchDesk$Frame" "second" ∈ zz_tb := zz_w 86 (by decide +kernel) (by decide +kernel)
theorem wd_87 : Cond.laysFinal "DispatchDesk$Frame" "DispatchDesk$Frame" "stack" "[I" ∈ zz_tb := zz_w 87 (by decide +kernel) (by decide +kernel)
theorem wd_88 : Cond.soleField "DispatchDesk$Frame" "stack" ∈ zz_tb := zz_w 88 (by decide +kernel) (by decide +kernel)
theorem wd_89 : Cond.lays "DispatchDesk$Frame" "DispatchDesk$Frame" "height" "I" ∈ zz_tb := zz_w 89 (by decide +kernel) (by decide +kernel)
theorem wd_90 : Cond.soleField "DispatchDesk$Frame" "height" ∈ zz_tb := zz_w 90 (by decide +kernel) (by decide +kernel)
theorem wd_91 : Cond.superclass "DispatchDesk$Frame" "java/lang/Object" ∈ zz_tb := zz_w 91 (by decide +kernel) (by decide +kernel)
theorem wd_92 : Cond.fieldLink "DispatchDesk$Machine" 7 "DispatchDesk$Machine" "fuel" "I" ∈ zz_tb := zz_w 92 (by decide +kernel) (by decide +kernel)
theorem wd_93 : Cond.fieldLink "DispatchDesk" 244 "DispatchDesk$Machine" "fuel" "I" ∈ zz_tb := zz_w 93 (by decide +kernel) (by decide +kernel)
theorem wd_94 : Cond.fieldLink "DispatchDesk$Machine" 13 "DispatchDesk$Machine" "testCount" "I" ∈ zz_tb := zz_w 94 (by decide +kernel) (by decide +kernel)
theorem wd_95 : Cond.fieldLink "DispatchDesk" 247 "DispatchDesk$Machine" "testCount" "I" ∈ zz_tb := zz_w 95 (by decide +kernel) (by decide +kernel)
theorem wd_96 : Cond.fieldLink "DispatchDesk$Machine" 16 "DispatchDesk$Machine" "generics" "[LDispatchDesk$Generic;" ∈ zz_tb := zz_w 96 (by decide +kernel) (by decide +kernel)
theorem wd_97 : Cond.fieldLink "DispatchDesk$Machine" 20 "DispatchDesk$Machine" "methods" "[LDispatchDesk$Method;" ∈ zz_tb := zz_w 97 (by decide +kernel) (by decide +kernel)
theorem wd_98 : Cond.fieldLink "DispatchDesk$Machine" 26 "DispatchDesk$Machine" "frames" "[LDispatchDesk$Frame;" ∈ zz_tb := zz_w 98 (by decide +kernel) (by decide +kernel)
theorem wd_99 : Cond.lays "DispatchDesk$Machine" "DispatchDesk$Machine" "fuel" "I" ∈ zz_tb := zz_w 99 (by decide +kernel) (by decide +kernel)
theorem wd_100 : Cond.soleField "DispatchDesk$Machine" "fuel" ∈ zz_tb := zz_w 100 (by decide +kernel) (by decide +kernel)
theorem wd_101 : Cond.lays "DispatchDesk$Machine" "DispatchDesk$Machine" "testCount" "I" ∈ zz_tb := zz_w 101 (by decide +kernel) (by decide +kernel)
theorem wd_102 : Cond.soleField "DispatchDesk$Machine" "testCount" ∈ zz_tb := zz_w 102 (by decide +kernel) (by decide +kernel)
theorem wd_103 : Cond.lays "DispatchDesk$Machine" "DispatchDesk$Machine" "generics" "[LDispatchDesk$Generic;" ∈ zz_tb := zz_w 103 (by decide +kernel) (by decide +kernel)
theorem wd_104 : Cond.soleField "DispatchDesk$Machine" "generics" ∈ zz_tb := zz_w 104 (by decide +kernel) (by decide +kernel)
theorem wd_105 : Cond.lays "DispatchDesk$Machine" "DispatchDesk$Machine" "methods" "[LDispatchDesk$Method;" ∈ zz_tb := zz_w 105 (by decide +kernel) (by decide +kernel)
theorem wd_106 : Cond.soleField "DispatchDesk$Machine" "methods" ∈ zz_tb := zz_w 106 (by decide +kernel) (by decide +kernel)
theorem wd_107 : Cond.laysFinal "DispatchDesk$Machine" "DispatchDesk$Machine" "frames" "[LDispatchDesk$Frame;" ∈ zz_tb := zz_w 107 (by decide +kernel) (by decide +kernel)
theorem wd_108 : Cond.soleField "DispatchDesk$Machine" "frames" ∈ zz_tb := zz_w 108 (by decide +kernel) (by decide +kernel)
theorem wd_109 : Cond.superclass "DispatchDesk$Machine" "java/lang/Object" ∈ zz_tb := zz_w 109 (by decide +kernel) (by decide +kernel)
theorem wd_110 : Cond.fieldLink "DispatchDesk" 10 "DispatchDesk" "classes" "LDispatchDesk$Hierarchy;" ∈ zz_tb := zz_w 110 (by decide +kernel) (by decide +kernel)
theorem wd_111 : Cond.fieldLink "DispatchDesk" 18 "DispatchDesk" "generics" "[LDispatchDesk$Generic;" ∈ zz_tb := zz_w 111 (by decide +kernel) (by decide +kernel)
theorem wd_112 : Cond.fieldLink "DispatchDesk" 22 "DispatchDesk" "genericCount" "I" ∈ zz_tb := zz_w 112 (by decide +kernel) (by decide +kernel)
theorem wd_113 : Cond.fieldLink "DispatchDesk" 28 "DispatchDesk" "methods" "[LDispatchDesk$Method;" ∈ zz_tb := zz_w 113 (by decide +kernel) (by decide +kernel)
theorem wd_114 : Cond.fieldLink "DispatchDesk" 32 "DispatchDesk" "methodCount" "I" ∈ zz_tb := zz_w 114 (by decide +kernel) (by decide +kernel)
theorem wd_115 : Cond.fieldLink "DispatchDesk" 38 "DispatchDesk" "builder" "LDispatchDesk$GraphBuilder;" ∈ zz_tb := zz_w 115 (by decide +kernel) (by decide +kernel)
theorem wd_116 : Cond.fieldLink "DispatchDesk" 45 "DispatchDesk" "machine" "LDispatchDesk$Machine;" ∈ zz_tb := zz_w 116 (by decide +kernel) (by decide +kernel)
theorem wd_117 : Cond.fieldLink "DispatchDesk" 49 "DispatchDesk" "witnessArguments" "I" ∈ zz_tb := zz_w 117 (by decide +kernel) (by decide +kernel)
theorem wd_118 : Cond.fieldLink "DispatchDesk" 52 "DispatchDesk" "witnessFirst" "I" ∈ zz_tb := zz_w 118 (by decide +kernel) (by decide +kernel)
theorem wd_119 : Cond.fieldLink "DispatchDesk" 55 "DispatchDesk" "witnessSecond" "I" ∈ zz_tb := zz_w 119 (by decide +kernel) (by decide +kernel)
theorem wd_120 : Cond.laysFinal "DispatchDesk" "DispatchDesk" "classes" "LDispatchDesk$Hierarchy;" ∈ zz_tb := zz_w 120 (by decide +kernel) (by decide +kernel)
theorem wd_121 : Cond.soleField "DispatchDesk" "classes" ∈ zz_tb := zz_w 121 (by decide +kernel) (by decide +kernel)
theorem wd_122 : Cond.laysFinal "DispatchDesk" "DispatchDesk" "generics" "[LDispatchDesk$Generic;" ∈ zz_tb := zz_w 122 (by decide +kernel) (by decide +kernel)
theorem wd_123 : Cond.soleField "DispatchDesk" "generics" ∈ zz_tb := zz_w 123 (by decide +kernel) (by decide +kernel)
theorem wd_124 : Cond.lays "DispatchDesk" "DispatchDesk" "genericCount" "I" ∈ zz_tb := zz_w 124 (by decide +kernel) (by decide +kernel)
theorem wd_125 : Cond.soleField "DispatchDesk" "genericCount" ∈ zz_tb := zz_w 125 (by decide +kernel) (by decide +kernel)
theorem wd_126 : Cond.laysFinal "DispatchDesk" "DispatchDesk" "methods" "[LDispatchDesk$Method;" ∈ zz_tb := zz_w 126 (by decide +kernel) (by decide +kernel)
theorem wd_127 : Cond.soleField "DispatchDesk" "methods" ∈ zz_tb := zz_w 127 (by decide +kernel) (by decide +kernel)
theorem wd_128 : Cond.lays "DispatchDesk" "DispatchDesk" "methodCount" "I" ∈ zz_tb := zz_w 128 (by decide +kernel) (by decide +kernel)
theorem wd_129 : Cond.soleField "DispatchDesk" "methodCount" ∈ zz_tb := zz_w 129 (by decide +kernel) (by decide +kernel)
theorem wd_130 : Cond.laysFinal "DispatchDesk" "DispatchDesk" "builder" "LDispatchDesk$GraphBuilder;" ∈ zz_tb := zz_w 130 (by decide +kernel) (by decide +kernel)
theorem wd_131 : Cond.soleField "DispatchDesk" "builder" ∈ zz_tb := zz_w 131 (by decide +kernel) (by decide +kernel)
theorem wd_132 : Cond.laysFinal "DispatchDesk" "DispatchDesk" "machine" "LDispatchDesk$Machine;" ∈ zz_tb := zz_w 132 (by decide +kernel) (by decide +kernel)
theorem wd_133 : Cond.soleField "DispatchDesk" "machine" ∈ zz_tb := zz_w 133 (by decide +kernel) (by decide +kernel)
theorem wd_134 : Cond.lays "DispatchDesk" "DispatchDesk" "witnessArguments" "I" ∈ zz_tb := zz_w 134 (by decide +kernel) (by decide +kernel)
theorem wd_135 : Cond.soleField "DispatchDesk" "witnessArguments" ∈ zz_tb := zz_w 135 (by decide +kernel) (by decide +kernel)
theorem wd_136 : Cond.lays "DispatchDesk" "DispatchDesk" "witnessFirst" "I" ∈ zz_tb := zz_w 136 (by decide +kernel) (by decide +kernel)
theorem wd_137 : Cond.soleField "DispatchDesk" "witnessFirst" ∈ zz_tb := zz_w 137 (by decide +kernel) (by decide +kernel)
theorem wd_138 : Cond.lays "DispatchDesk" "DispatchDesk" "witnessSecond" "I" ∈ zz_tb := zz_w 138 (by decide +kernel) (by decide +kernel)
theorem wd_139 : Cond.soleField "DispatchDesk" "witnessSecond" ∈ zz_tb := zz_w 139 (by decide +kernel) (by decide +kernel)
theorem wd_140 : Cond.superclass "DispatchDesk" "java/lang/Object" ∈ zz_tb := zz_w 140 (by decide +kernel) (by decide +kernel)
theorem wd_141 : Cond.methodLink "DispatchDeskLaw" 113 yy_D_left ∈ zz_tb := zz_w 141 (by decide +kernel) (by decide +kernel)
theorem wd_142 : Cond.instanceMethod yy_D_left ∈ zz_tb := zz_w 142 (by decide +kernel) (by decide +kernel)
theorem wd_143 : Cond.selects "DispatchDesk" yy_D_left yy_D_left ∈ zz_tb := zz_w 143 (by decide +kernel) (by decide +kernel)
theorem wd_144 : Cond.code yy_D_left prog_1_method_15_code 1 (some FieldType.int) ∈ zz_tb := zz_w 144 (by decide +kernel) (by decide +kernel)
theorem wd_145 : Cond.methodLink "DispatchDeskLaw" 117 yy_D_tests ∈ zz_tb := zz_w 145 (by decide +kernel) (by decide +kernel)
theorem wd_146 : Cond.instanceMethod yy_D_tests ∈ zz_tb := zz_w 146 (by decide +kernel) (by decide +kernel)
theorem wd_147 : Cond.selects "DispatchDesk" yy_D_tests yy_D_tests ∈ zz_tb := zz_w 147 (by decide +kernel) (by decide +kernel)
theorem wd_148 : Cond.code yy_D_tests prog_1_method_16_code 1 (some FieldType.int) ∈ zz_tb := zz_w 148 (by decide +kernel) (by decide +kernel)
theorem wd_149 : Cond.methodLink "DispatchDeskLaw" 63 yy_L_klass ∈ zz_tb := zz_w 149 (by decide +kernel) (by decide +kernel)
theorem wd_150 : Cond.static yy_L_klass ∈ zz_tb := zz_w 150 (by decide +kernel) (by decide +kernel)
theorem wd_151 : Cond.codeWith yy_L_klass method_3_code 4 (some FieldType.int) [(0, 9, 12, 13), (0, 9, 15, 15)] ∈ zz_tb := zz_w 151 (by decide +kernel) (by decide +kernel)
theorem wd_152 : Cond.classLink "DispatchDeskLaw" 13 "java/lang/IllegalArgumentException" ∈ zz_tb := zz_w 152 (by decide +kernel) (by decide +kernel)
theorem wd_153 : Cond.classLink "DispatchDeskLaw" 15 "java/lang/IllegalStateException" ∈ zz_tb := zz_w 153 (by decide +kernel) (by decide +kernel)
theorem wd_154 : Cond.methodLink "DispatchDeskLaw" 7 yy_D_klass ∈ zz_tb := zz_w 154 (by decide +kernel) (by decide +kernel)
theorem wd_155 : Cond.instanceMethod yy_D_klass ∈ zz_tb := zz_w 155 (by decide +kernel) (by decide +kernel)
theorem wd_156 : Cond.selects "DispatchDesk" yy_D_klass yy_D_klass ∈ zz_tb := zz_w 156 (by decide +kernel) (by decide +kernel)
theorem wd_157 : Cond.code yy_D_klass prog_1_method_2_code 3 (some FieldType.int) ∈ zz_tb := zz_w 157 (by decide +kernel) (by decide +kernel)
theorem wd_158 : Cond.methodLink "DispatchDesk" 58 yy_H_has ∈ zz_tb := zz_w 158 (by decide +kernel) (by decide +kernel)
theorem wd_159 : Cond.instanceMethod yy_H_has ∈ zz_tb := zz_w 159 (by decide +kernel) (by decide +kernel)
theorem wd_160 : Cond.selects "DispatchDesk$Hierarchy" yy_H_has yy_H_has ∈ zz_tb := zz_w 160 (by decide +kernel) (by decide +kernel)
theorem wd_161 : Cond.code yy_H_has prog_8_method_2_code 2 (some FieldType.boolean) ∈ zz_tb := zz_w 161 (by decide +kernel) (by decide +kernel)
theorem wd_162 : Cond.classLink "DispatchDesk" 62 "java/lang/IllegalArgumentException" ∈ zz_tb := zz_w 162 (by decide +kernel) (by decide +kernel)
theorem wd_163 : Cond.instantiable "java/lang/IllegalArgumentException" 6 ∈ zz_tb := zz_w 163 (by decide +kernel) (by decide +kernel)
theorem wd_164 : Cond.castable "java/lang/IllegalArgumentException" "java/lang/IllegalArgumentException" ∈ zz_tb := zz_w 164 (by decide +kernel) (by decide +kernel)
theorem wd_165 : Cond.declares ⟨"java/lang/RuntimeException", "<init>", "()V"⟩ ∈ zz_tb := zz_w 165 (by decide +kernel) (by decide +kernel)
theorem wd_166 : Cond.declares ⟨"java/lang/RuntimeException", "<init>", "(Ljava/lang/String;)V"⟩ ∈ zz_tb := zz_w 166 (by decide +kernel) (by decide +kernel)
theorem wd_167 : Cond.declares ⟨"java/lang/Exception", "<init>", "()V"⟩ ∈ zz_tb := zz_w 167 (by decide +kernel) (by decide +kernel)
theorem wd_168 : Cond.declares ⟨"java/lang/Exception", "<init>", "(Ljava/lang/String;)V"⟩ ∈ zz_tb := zz_w 168 (by decide +kernel) (by decide +kernel)
theorem wd_169 : Cond.declares ⟨"java/lang/Throwable", "<init>", "()V"⟩ ∈ zz_tb := zz_w 169 (by decide +kernel) (by decide +kernel)
theorem wd_170 : Cond.declares ⟨"java/lang/Throwable", "<init>", "(Ljava/lang/String;)V"⟩ ∈ zz_tb := zz_w 170 (by decide +kernel) (by decide +kernel)
theorem wd_171 : Cond.selects "java/lang/IllegalArgumentException" ⟨"java/lang/Throwable", "fillInStackTrace", "(I)Ljava/lang/Throwable;"⟩ ⟨"java/lang/Throwable", "fillInStackTrace", "(I)Ljava/lang/Throwable;"⟩ ∈ zz_tb := zz_w 171 (by decide +kernel) (by decide +kernel)
theorem wd_172 : Cond.selects "java/lang/IllegalArgumentException" ⟨"java/lang/Throwable", "fillInStackTrace", "()Ljava/lang/Throwable;"⟩ ⟨"java/lang/Throwable", "fillInStackTrace", "()Ljava/lang/Throwable;"⟩ ∈ zz_tb := zz_w 172 (by decide +kernel) (by decide +kernel)
theorem wd_173 : Cond.lays "java/lang/IllegalArgumentException" "java/lang/Throwable" "cause" "Ljava/lang/Throwable;" ∈ zz_tb := zz_w 173 (by decide +kernel) (by decide +kernel)
theorem wd_174 : Cond.lays "java/lang/Throwable" "java/lang/Throwable" "cause" "Ljava/lang/Throwable;" ∈ zz_tb := zz_w 174 (by decide +kernel) (by decide +kernel)
theorem wd_175 : Cond.lays "java/lang/IllegalArgumentException" "java/lang/Throwable" "stackTrace" "[Ljava/lang/StackTraceElement;" ∈ zz_tb := zz_w 175 (by decide +kernel) (by decide +kernel)
theorem wd_176 : Cond.lays "java/lang/Throwable" "java/lang/Throwable" "stackTrace" "[Ljava/lang/StackTraceElement;" ∈ zz_tb := zz_w 176 (by decide +kernel) (by decide +kernel)
theorem wd_177 : Cond.lays "java/lang/IllegalArgumentException" "java/lang/Throwable" "suppressedExceptions" "Ljava/util/List;" ∈ zz_tb := zz_w 177 (by decide +kernel) (by decide +kernel)
theorem wd_178 : Cond.lays "java/lang/Throwable" "java/lang/Throwable" "suppressedExceptions" "Ljava/util/List;" ∈ zz_tb := zz_w 178 (by decide +kernel) (by decide +kernel)
theorem wd_179 : Cond.lays "java/lang/IllegalArgumentException" "java/lang/Throwable" "detailMessage" "Ljava/lang/String;" ∈ zz_tb := zz_w 179 (by decide +kernel) (by decide +kernel)
theorem wd_180 : Cond.lays "java/lang/Throwable" "java/lang/Throwable" "detailMessage" "Ljava/lang/String;" ∈ zz_tb := zz_w 180 (by decide +kernel) (by decide +kernel)
theorem wd_181 : Cond.lays "java/lang/IllegalArgumentException" "java/lang/Throwable" "backtrace" "Ljava/lang/Object;" ∈ zz_tb := zz_w 181 (by decide +kernel) (by decide +kernel)
theorem wd_182 : Cond.lays "java/lang/Throwable" "java/lang/Throwable" "backtrace" "Ljava/lang/Object;" ∈ zz_tb := zz_w 182 (by decide +kernel) (by decide +kernel)
theorem wd_183 : Cond.fieldLink "java/lang/Throwable" 198 "java/lang/Throwable" "backtrace" "Ljava/lang/Object;" ∈ zz_tb := zz_w 183 (by decide +kernel) (by decide +kernel)
theorem wd_184 : Cond.superclass "java/lang/Throwable" "java/lang/Object" ∈ zz_tb := zz_w 184 (by decide +kernel) (by decide +kernel)
theorem wd_185 : Cond.instanceMethod ⟨"java/lang/Throwable", "<init>", "()V"⟩ ∈ zz_tb := zz_w 185 (by decide +kernel) (by decide +kernel)
theorem wd_186 : Cond.code ⟨"java/lang/Throwable", "<init>", "()V"⟩ prog_23_method_1_code 1 none ∈ zz_tb := zz_w 186 (by decide +kernel) (by decide +kernel)
theorem wd_187 : Cond.methodLink "java/lang/Throwable" 1 ⟨"java/lang/Object", "<init>", "()V"⟩ ∈ zz_tb := zz_w 187 (by decide +kernel) (by decide +kernel)
theorem wd_188 : Cond.fieldLink "java/lang/Throwable" 13 "java/lang/Throwable" "UNASSIGNED_STACK" "[Ljava/lang/StackTraceElement;" ∈ zz_tb := zz_w 188 (by decide +kernel) (by decide +kernel)
theorem wd_190 : Cond.fieldLink "java/lang/Throwable" 20 "java/lang/Throwable" "SUPPRESSED_SENTINEL" "Ljava/util/List;" ∈ zz_tb := zz_w 190 (by decide +kernel) (by decide +kernel)
theorem wd_192 : Cond.methodLink "java/lang/Throwable" 27 ⟨"java/lang/Throwable", "fillInStackTrace", "()Ljava/lang/Throwable;"⟩ ∈ zz_tb := zz_w 192 (by decide +kernel) (by decide +kernel)
theorem wd_193 : Cond.instanceMethod ⟨"java/lang/Throwable", "fillInStackTrace", "()Ljava/lang/Throwable;"⟩ ∈ zz_tb := zz_w 193 (by decide +kernel) (by decide +kernel)
theorem wd_194 : Cond.sameMethod "java/lang/Throwable" "java/lang/Throwable" "fillInStackTrace" "()Ljava/lang/Throwable;" ∈ zz_tb := zz_w 194 (by decide +kernel) (by decide +kernel)
theorem wd_195 : Cond.selects "java/lang/IllegalStateException" ⟨"java/lang/Throwable", "fillInStackTrace", "()Ljava/lang/Throwable;"⟩ ⟨"java/lang/Throwable", "fillInStackTrace", "()Ljava/lang/Throwable;"⟩ ∈ zz_tb := zz_w 195 (by decide +kernel) (by decide +kernel)
theorem wd_196 : Cond.selects "java/util/NoSuchElementException" ⟨"java/lang/Throwable", "fillInStackTrace", "()Ljava/lang/Throwable;"⟩ ⟨"java/lang/Throwable", "fillInStackTrace", "()Ljava/lang/Throwable;"⟩ ∈ zz_tb := zz_w 196 (by decide +kernel) (by decide +kernel)
theorem wd_197 : Cond.codeSync ⟨"java/lang/Throwable", "fillInStackTrace", "()Ljava/lang/Throwable;"⟩ prog_23_method_18_code 1 (some (FieldType.object "java/lang/Throwable")) ∈ zz_tb := zz_w 197 (by decide +kernel) (by decide +kernel)
theorem wd_198 : Cond.methodLink "java/lang/Throwable" 202 ⟨"java/lang/Throwable", "fillInStackTrace", "(I)Ljava/lang/Throwable;"⟩ ∈ zz_tb := zz_w 198 (by decide +kernel) (by decide +kernel)
theorem wd_199 : Cond.privateMethod ⟨"java/lang/Throwable", "fillInStackTrace", "(I)Ljava/lang/Throwable;"⟩ ∈ zz_tb := zz_w 199 (by decide +kernel) (by decide +kernel)
theorem wd_200 : Cond.instanceMethod ⟨"java/lang/Throwable", "fillInStackTrace", "(I)Ljava/lang/Throwable;"⟩ ∈ zz_tb := zz_w 200 (by decide +kernel) (by decide +kernel)
theorem wd_201 : Cond.instantiable "java/lang/Throwable" 6 ∈ zz_tb := zz_w 201 (by decide +kernel) (by decide +kernel)
theorem wd_202 : Cond.native ⟨"java/lang/Throwable", "fillInStackTrace", "(I)Ljava/lang/Throwable;"⟩ ∈ zz_tb := zz_w 202 (by decide +kernel) (by decide +kernel)
theorem wd_204 : Cond.methodLink "DispatchDesk" 66 ⟨"java/lang/IllegalArgumentException", "<init>", "(Ljava/lang/String;)V"⟩ ∈ zz_tb := zz_w 204 (by decide +kernel) (by decide +kernel)
theorem wd_205 : Cond.instanceMethod ⟨"java/lang/IllegalArgumentException", "<init>", "(Ljava/lang/String;)V"⟩ ∈ zz_tb := zz_w 205 (by decide +kernel) (by decide +kernel)
theorem wd_206 : Cond.code ⟨"java/lang/IllegalArgumentException", "<init>", "(Ljava/lang/String;)V"⟩ prog_16_method_2_code 2 none ∈ zz_tb := zz_w 206 (by decide +kernel) (by decide +kernel)
theorem wd_207 : Cond.methodLink "java/lang/IllegalArgumentException" 7 ⟨"java/lang/RuntimeException", "<init>", "(Ljava/lang/String;)V"⟩ ∈ zz_tb := zz_w 207 (by decide +kernel) (by decide +kernel)
theorem wd_208 : Cond.instanceMethod ⟨"java/lang/RuntimeException", "<init>", "(Ljava/lang/String;)V"⟩ ∈ zz_tb := zz_w 208 (by decide +kernel) (by decide +kernel)
theorem wd_209 : Cond.code ⟨"java/lang/RuntimeException", "<init>", "(Ljava/lang/String;)V"⟩ prog_21_method_2_code 2 none ∈ zz_tb := zz_w 209 (by decide +kernel) (by decide +kernel)
theorem wd_210 : Cond.methodLink "java/lang/RuntimeException" 7 ⟨"java/lang/Exception", "<init>", "(Ljava/lang/String;)V"⟩ ∈ zz_tb := zz_w 210 (by decide +kernel) (by decide +kernel)
theorem wd_211 : Cond.instanceMethod ⟨"java/lang/Exception", "<init>", "(Ljava/lang/String;)V"⟩ ∈ zz_tb := zz_w 211 (by decide +kernel) (by decide +kernel)
theorem wd_212 : Cond.code ⟨"java/lang/Exception", "<init>", "(Ljava/lang/String;)V"⟩ prog_15_method_2_code 2 none ∈ zz_tb := zz_w 212 (by decide +kernel) (by decide +kernel)
theorem wd_213 : Cond.methodLink "java/lang/Exception" 7 ⟨"java/lang/Throwable", "<init>", "(Ljava/lang/String;)V"⟩ ∈ zz_tb := zz_w 213 (by decide +kernel) (by decide +kernel)
theorem wd_214 : Cond.instanceMethod ⟨"java/lang/Throwable", "<init>", "(Ljava/lang/String;)V"⟩ ∈ zz_tb := zz_w 214 (by decide +kernel) (by decide +kernel)
theorem wd_215 : Cond.code ⟨"java/lang/Throwable", "<init>", "(Ljava/lang/String;)V"⟩ prog_23_method_2_code 2 none ∈ zz_tb := zz_w 215 (by decide +kernel) (by decide +kernel)
theorem wd_217 : Cond.fieldLink "java/lang/Throwable" 31 "java/lang/Throwable" "detailMessage" "Ljava/lang/String;" ∈ zz_tb := zz_w 217 (by decide +kernel) (by decide +kernel)
theorem wd_218 : Cond.fieldLink "java/lang/Throwable" 7 "java/lang/Throwable" "cause" "Ljava/lang/Throwable;" ∈ zz_tb := zz_w 218 (by decide +kernel) (by decide +kernel)
theorem wd_219 : Cond.fieldLink "java/lang/Throwable" 17 "java/lang/Throwable" "stackTrace" "[Ljava/lang/StackTraceElement;" ∈ zz_tb := zz_w 219 (by decide +kernel) (by decide +kernel)
theorem wd_220 : Cond.fieldLink "java/lang/Throwable" 24 "java/lang/Throwable" "suppressedExceptions" "Ljava/util/List;" ∈ zz_tb := zz_w 220 (by decide +kernel) (by decide +kernel)
theorem wd_221 : Cond.soleField "java/lang/Throwable" "backtrace" ∈ zz_tb := zz_w 221 (by decide +kernel) (by decide +kernel)
theorem wd_222 : Cond.soleField "java/lang/Throwable" "detailMessage" ∈ zz_tb := zz_w 222 (by decide +kernel) (by decide +kernel)
theorem wd_223 : Cond.soleField "java/lang/Throwable" "cause" ∈ zz_tb := zz_w 223 (by decide +kernel) (by decide +kernel)
theorem wd_224 : Cond.soleField "java/lang/Throwable" "stackTrace" ∈ zz_tb := zz_w 224 (by decide +kernel) (by decide +kernel)
theorem wd_225 : Cond.lays "java/lang/IllegalArgumentException" "java/lang/Throwable" "depth" "I" ∈ zz_tb := zz_w 225 (by decide +kernel) (by decide +kernel)
theorem wd_226 : Cond.soleField "java/lang/Throwable" "depth" ∈ zz_tb := zz_w 226 (by decide +kernel) (by decide +kernel)
theorem wd_227 : Cond.soleField "java/lang/Throwable" "suppressedExceptions" ∈ zz_tb := zz_w 227 (by decide +kernel) (by decide +kernel)
theorem wd_228 : Cond.superclass "java/lang/IllegalArgumentException" "java/lang/RuntimeException" ∈ zz_tb := zz_w 228 (by decide +kernel) (by decide +kernel)
theorem wd_229 : Cond.arrayClass FieldType.byte ∈ zz_tb := zz_w 229 (by decide +kernel) (by decide +kernel)
theorem wd_230 : Cond.methodLink "DispatchDesk" 69 yy_H_isFull ∈ zz_tb := zz_w 230 (by decide +kernel) (by decide +kernel)
theorem wd_231 : Cond.instanceMethod yy_H_isFull ∈ zz_tb := zz_w 231 (by decide +kernel) (by decide +kernel)
theorem wd_232 : Cond.selects "DispatchDesk$Hierarchy" yy_H_isFull yy_H_isFull ∈ zz_tb := zz_w 232 (by decide +kernel) (by decide +kernel)
theorem wd_233 : Cond.code yy_H_isFull prog_8_method_3_code 1 (some FieldType.boolean) ∈ zz_tb := zz_w 233 (by decide +kernel) (by decide +kernel)
theorem wd_234 : Cond.classLink "DispatchDesk" 73 "java/lang/IllegalStateException" ∈ zz_tb := zz_w 234 (by decide +kernel) (by decide +kernel)
theorem wd_235 : Cond.instantiable "java/lang/IllegalStateException" 6 ∈ zz_tb := zz_w 235 (by decide +kernel) (by decide +kernel)
theorem wd_236 : Cond.castable "java/lang/IllegalStateException" "java/lang/IllegalStateException" ∈ zz_tb := zz_w 236 (by decide +kernel) (by decide +kernel)
theorem wd_237 : Cond.selects "java/lang/IllegalStateException" ⟨"java/lang/Throwable", "fillInStackTrace", "(I)Ljava/lang/Throwable;"⟩ ⟨"java/lang/Throwable", "fillInStackTrace", "(I)Ljava/lang/Throwable;"⟩ ∈ zz_tb := zz_w 237 (by decide +kernel) (by decide +kernel)
theorem wd_238 : Cond.lays "java/lang/IllegalStateException" "java/lang/Throwable" "cause" "Ljava/lang/Throwable;" ∈ zz_tb := zz_w 238 (by decide +kernel) (by decide +kernel)
theorem wd_239 : Cond.lays "java/lang/IllegalStateException" "java/lang/Throwable" "stackTrace" "[Ljava/lang/StackTraceElement;" ∈ zz_tb := zz_w 239 (by decide +kernel) (by decide +kernel)
theorem wd_240 : Cond.lays "java/lang/IllegalStateException" "java/lang/Throwable" "suppressedExceptions" "Ljava/util/List;" ∈ zz_tb := zz_w 240 (by decide +kernel) (by decide +kernel)
theorem wd_241 : Cond.lays "java/lang/IllegalStateException" "java/lang/Throwable" "detailMessage" "Ljava/lang/String;" ∈ zz_tb := zz_w 241 (by decide +kernel) (by decide +kernel)
theorem wd_242 : Cond.lays "java/lang/IllegalStateException" "java/lang/Throwable" "backtrace" "Ljava/lang/Object;" ∈ zz_tb := zz_w 242 (by decide +kernel) (by decide +kernel)
theorem wd_244 : Cond.methodLink "DispatchDesk" 77 ⟨"java/lang/IllegalStateException", "<init>", "(Ljava/lang/String;)V"⟩ ∈ zz_tb := zz_w 244 (by decide +kernel) (by decide +kernel)
theorem wd_245 : Cond.instanceMethod ⟨"java/lang/IllegalStateException", "<init>", "(Ljava/lang/String;)V"⟩ ∈ zz_tb := zz_w 245 (by decide +kernel) (by decide +kernel)
theorem wd_246 : Cond.code ⟨"java/lang/IllegalStateException", "<init>", "(Ljava/lang/String;)V"⟩ prog_17_method_2_code 2 none ∈ zz_tb := zz_w 246 (by decide +kernel) (by decide +kernel)
theorem wd_247 : Cond.methodLink "java/lang/IllegalStateException" 7 ⟨"java/lang/RuntimeException", "<init>", "(Ljava/lang/String;)V"⟩ ∈ zz_tb := zz_w 247 (by decide +kernel) (by decide +kernel)
theorem wd_248 : Cond.lays "java/lang/IllegalStateException" "java/lang/Throwable" "depth" "I" ∈ zz_tb := zz_w 248 (by decide +kernel) (by decide +kernel)
theorem wd_249 : Cond.superclass "java/lang/IllegalStateException" "java/lang/RuntimeException" ∈ zz_tb := zz_w 249 (by decide +kernel) (by decide +kernel)
theorem wd_250 : Cond.methodLink "DispatchDesk" 78 yy_G_outdate ∈ zz_tb := zz_w 250 (by decide +kernel) (by decide +kernel)
theorem wd_251 : Cond.instanceMethod yy_G_outdate ∈ zz_tb := zz_w 251 (by decide +kernel) (by decide +kernel)
theorem wd_252 : Cond.selects "DispatchDesk$Generic" yy_G_outdate yy_G_outdate ∈ zz_tb := zz_w 252 (by decide +kernel) (by decide +kernel)
theorem wd_253 : Cond.code yy_G_outdate prog_5_method_8_code 1 none ∈ zz_tb := zz_w 253 (by decide +kernel) (by decide +kernel)
theorem wd_254 : Cond.methodLink "DispatchDesk$Generic" 73 yy_R_clear ∈ zz_tb := zz_w 254 (by decide +kernel) (by decide +kernel)
theorem wd_255 : Cond.instanceMethod yy_R_clear ∈ zz_tb := zz_w 255 (by decide +kernel) (by decide +kernel)
theorem wd_256 : Cond.selects "DispatchDesk$Graph" yy_R_clear yy_R_clear ∈ zz_tb := zz_w 256 (by decide +kernel) (by decide +kernel)
theorem wd_257 : Cond.code yy_R_clear prog_6_method_2_code 1 none ∈ zz_tb := zz_w 257 (by decide +kernel) (by decide +kernel)
theorem wd_258 : Cond.methodLink "DispatchDesk" 81 yy_H_add ∈ zz_tb := zz_w 258 (by decide +kernel) (by decide +kernel)
theorem wd_259 : Cond.instanceMethod yy_H_add ∈ zz_tb := zz_w 259 (by decide +kernel) (by decide +kernel)
theorem wd_260 : Cond.selects "DispatchDesk$Hierarchy" yy_H_add yy_H_add ∈ zz_tb := zz_w 260 (by decide +kernel) (by decide +kernel)
theorem wd_261 : Cond.code yy_H_add prog_8_method_4_code 2 (some FieldType.int) ∈ zz_tb := zz_w 261 (by decide +kernel) (by decide +kernel)
theorem wd_262 : Cond.methodLink "DispatchDeskLaw" 73 yy_L_generic ∈ zz_tb := zz_w 262 (by decide +kernel) (by decide +kernel)
theorem wd_263 : Cond.static yy_L_generic ∈ zz_tb := zz_w 263 (by decide +kernel) (by decide +kernel)
theorem wd_264 : Cond.codeWith yy_L_generic method_4_code 4 (some FieldType.int) [(0, 9, 12, 13), (0, 9, 15, 15)] ∈ zz_tb := zz_w 264 (by decide +kernel) (by decide +kernel)
theorem wd_265 : Cond.methodLink "DispatchDeskLaw" 17 yy_D_generic ∈ zz_tb := zz_w 265 (by decide +kernel) (by decide +kernel)
theorem wd_266 : Cond.instanceMethod yy_D_generic ∈ zz_tb := zz_w 266 (by decide +kernel) (by decide +kernel)
theorem wd_267 : Cond.selects "DispatchDesk" yy_D_generic yy_D_generic ∈ zz_tb := zz_w 267 (by decide +kernel) (by decide +kernel)
theorem wd_268 : Cond.code yy_D_generic prog_1_method_3_code 2 (some FieldType.int) ∈ zz_tb := zz_w 268 (by decide +kernel) (by decide +kernel)
theorem wd_271 : Cond.instantiable "DispatchDesk$Generic" 11 ∈ zz_tb := zz_w 271 (by decide +kernel) (by decide +kernel)
theorem wd_272 : Cond.methodLink "DispatchDesk" 89 yy_G_init ∈ zz_tb := zz_w 272 (by decide +kernel) (by decide +kernel)
theorem wd_273 : Cond.instanceMethod yy_G_init ∈ zz_tb := zz_w 273 (by decide +kernel) (by decide +kernel)
theorem wd_274 : Cond.code yy_G_init prog_5_method_1_code 3 none ∈ zz_tb := zz_w 274 (by decide +kernel) (by decide +kernel)
theorem wd_275 : Cond.methodLink "DispatchDesk$Generic" 3 ⟨"java/lang/Object", "<init>", "()V"⟩ ∈ zz_tb := zz_w 275 (by decide +kernel) (by decide +kernel)
theorem wd_276 : Cond.classLink "DispatchDesk$Generic" 9 "DispatchDesk$Graph" ∈ zz_tb := zz_w 276 (by decide +kernel) (by decide +kernel)
theorem wd_277 : Cond.instantiable "DispatchDesk$Graph" 4 ∈ zz_tb := zz_w 277 (by decide +kernel) (by decide +kernel)
theorem wd_278 : Cond.methodLinkNest "DispatchDesk$Generic" 11 yy_R_init "DispatchDesk" ∈ zz_tb := zz_w 278 (by decide +kernel) (by decide +kernel)
theorem wd_279 : Cond.instanceMethod yy_R_init ∈ zz_tb := zz_w 279 (by decide +kernel) (by decide +kernel)
theorem wd_280 : Cond.code yy_R_init prog_6_method_1_code 1 none ∈ zz_tb := zz_w 280 (by decide +kernel) (by decide +kernel)
theorem wd_281 : Cond.methodLink "DispatchDesk$Graph" 1 ⟨"java/lang/Object", "<init>", "()V"⟩ ∈ zz_tb := zz_w 281 (by decide +kernel) (by decide +kernel)
theorem wd_282 : Cond.fieldLink "DispatchDesk$Graph" 9 "DispatchDesk$Graph" "tests" "[I" ∈ zz_tb := zz_w 282 (by decide +kernel) (by decide +kernel)
theorem wd_283 : Cond.fieldLink "DispatchDesk$Graph" 13 "DispatchDesk$Graph" "passing" "[I" ∈ zz_tb := zz_w 283 (by decide +kernel) (by decide +kernel)
theorem wd_284 : Cond.fieldLink "DispatchDesk$Graph" 16 "DispatchDesk$Graph" "failing" "[I" ∈ zz_tb := zz_w 284 (by decide +kernel) (by decide +kernel)
theorem wd_285 : Cond.fieldLink "DispatchDesk$Graph" 19 "DispatchDesk$Graph" "count" "I" ∈ zz_tb := zz_w 285 (by decide +kernel) (by decide +kernel)
theorem wd_286 : Cond.laysFinal "DispatchDesk$Graph" "DispatchDesk$Graph" "tests" "[I" ∈ zz_tb := zz_w 286 (by decide +kernel) (by decide +kernel)
theorem wd_287 : Cond.soleField "DispatchDesk$Graph" "tests" ∈ zz_tb := zz_w 287 (by decide +kernel) (by decide +kernel)
theorem wd_288 : Cond.laysFinal "DispatchDesk$Graph" "DispatchDesk$Graph" "passing" "[I" ∈ zz_tb := zz_w 288 (by decide +kernel) (by decide +kernel)
theorem wd_289 : Cond.soleField "DispatchDesk$Graph" "passing" ∈ zz_tb := zz_w 289 (by decide +kernel) (by decide +kernel)
theorem wd_290 : Cond.laysFinal "DispatchDesk$Graph" "DispatchDesk$Graph" "failing" "[I" ∈ zz_tb := zz_w 290 (by decide +kernel) (by decide +kernel)
theorem wd_291 : Cond.soleField "DispatchDesk$Graph" "failing" ∈ zz_tb := zz_w 291 (by decide +kernel) (by decide +kernel)
theorem wd_292 : Cond.lays "DispatchDesk$Graph" "DispatchDesk$Graph" "count" "I" ∈ zz_tb := zz_w 292 (by decide +kernel) (by decide +kernel)
theorem wd_293 : Cond.soleField "DispatchDesk$Graph" "count" ∈ zz_tb := zz_w 293 (by decide +kernel) (by decide +kernel)
theorem wd_294 : Cond.superclass "DispatchDesk$Graph" "java/lang/Object" ∈ zz_tb := zz_w 294 (by decide +kernel) (by decide +kernel)
theorem wd_295 : Cond.classLink "DispatchDesk$Generic" 18 "DispatchDesk$Method" ∈ zz_tb := zz_w 295 (by decide +kernel) (by decide +kernel)
theorem wd_296 : Cond.classLink "DispatchDesk$Generic" 52 "DispatchDesk$Facts" ∈ zz_tb := zz_w 296 (by decide +kernel) (by decide +kernel)
theorem wd_297 : Cond.instantiable "DispatchDesk$Facts" 7 ∈ zz_tb := zz_w 297 (by decide +kernel) (by decide +kernel)
theorem wd_298 : Cond.methodLink "DispatchDesk$Generic" 54 yy_F_init ∈ zz_tb := zz_w 298 (by decide +kernel) (by decide +kernel)
theorem wd_299 : Cond.instanceMethod yy_F_init ∈ zz_tb := zz_w 299 (by decide +kernel) (by decide +kernel)
theorem wd_300 : Cond.code yy_F_init prog_3_method_1_code 2 none ∈ zz_tb := zz_w 300 (by decide +kernel) (by decide +kernel)
theorem wd_301 : Cond.methodLink "DispatchDesk$Facts" 5 ⟨"java/lang/Object", "<init>", "()V"⟩ ∈ zz_tb := zz_w 301 (by decide +kernel) (by decide +kernel)
theorem wd_302 : Cond.classLink "DispatchDesk$Facts" 13 "DispatchDesk$Atom" ∈ zz_tb := zz_w 302 (by decide +kernel) (by decide +kernel)
theorem wd_303 : Cond.arrayOver (FieldType.object "DispatchDesk$Atom") ∈ zz_tb := zz_w 303 (by decide +kernel) (by decide +kernel)
theorem wd_304 : Cond.fieldLink "DispatchDesk$Facts" 39 "DispatchDesk$Facts" "classes" "LDispatchDesk$Hierarchy;" ∈ zz_tb := zz_w 304 (by decide +kernel) (by decide +kernel)
theorem wd_305 : Cond.fieldLink "DispatchDesk$Facts" 15 "DispatchDesk$Facts" "tests" "[LDispatchDesk$Atom;" ∈ zz_tb := zz_w 305 (by decide +kernel) (by decide +kernel)
theorem wd_306 : Cond.fieldLink "DispatchDesk$Facts" 19 "DispatchDesk$Facts" "count" "I" ∈ zz_tb := zz_w 306 (by decide +kernel) (by decide +kernel)
theorem wd_307 : Cond.fieldLink "DispatchDesk$Facts" 25 "DispatchDesk$Facts" "firstFacts" "[J" ∈ zz_tb := zz_w 307 (by decide +kernel) (by decide +kernel)
theorem wd_308 : Cond.fieldLink "DispatchDesk$Facts" 29 "DispatchDesk$Facts" "secondFacts" "[J" ∈ zz_tb := zz_w 308 (by decide +kernel) (by decide +kernel)
theorem wd_309 : Cond.fieldLink "DispatchDesk$Facts" 32 "DispatchDesk$Facts" "belowFact" "J" ∈ zz_tb := zz_w 309 (by decide +kernel) (by decide +kernel)
theorem wd_310 : Cond.fieldLink "DispatchDesk$Facts" 36 "DispatchDesk$Facts" "sameClassFact" "J" ∈ zz_tb := zz_w 310 (by decide +kernel) (by decide +kernel)
theorem wd_311 : Cond.laysFinal "DispatchDesk$Facts" "DispatchDesk$Facts" "classes" "LDispatchDesk$Hierarchy;" ∈ zz_tb := zz_w 311 (by decide +kernel) (by decide +kernel)
theorem wd_312 : Cond.soleField "DispatchDesk$Facts" "classes" ∈ zz_tb := zz_w 312 (by decide +kernel) (by decide +kernel)
theorem wd_313 : Cond.laysFinal "DispatchDesk$Facts" "DispatchDesk$Facts" "tests" "[LDispatchDesk$Atom;" ∈ zz_tb := zz_w 313 (by decide +kernel) (by decide +kernel)
theorem wd_314 : Cond.soleField "DispatchDesk$Facts" "tests" ∈ zz_tb := zz_w 314 (by decide +kernel) (by decide +kernel)
theorem wd_315 : Cond.lays "DispatchDesk$Facts" "DispatchDesk$Facts" "count" "I" ∈ zz_tb := zz_w 315 (by decide +kernel) (by decide +kernel)
theorem wd_316 : Cond.soleField "DispatchDesk$Facts" "count" ∈ zz_tb := zz_w 316 (by decide +kernel) (by decide +kernel)
theorem wd_317 : Cond.laysFinal "DispatchDesk$Facts" "DispatchDesk$Facts" "firstFacts" "[J" ∈ zz_tb := zz_w 317 (by decide +kernel) (by decide +kernel)
theorem wd_318 : Cond.soleField "DispatchDesk$Facts" "firstFacts" ∈ zz_tb := zz_w 318 (by decide +kernel) (by decide +kernel)
theorem wd_319 : Cond.laysFinal "DispatchDesk$Facts" "DispatchDesk$Facts" "secondFacts" "[J" ∈ zz_tb := zz_w 319 (by decide +kernel) (by decide +kernel)
theorem wd_320 : Cond.soleField "DispatchDesk$Facts" "secondFacts" ∈ zz_tb := zz_w 320 (by decide +kernel) (by decide +kernel)
theorem wd_321 : Cond.lays "DispatchDesk$Facts" "DispatchDesk$Facts" "belowFact" "J" ∈ zz_tb := zz_w 321 (by decide +kernel) (by decide +kernel)
theorem wd_322 : Cond.soleField "DispatchDesk$Facts" "belowFact" ∈ zz_tb := zz_w 322 (by decide +kernel) (by decide +kernel)
theorem wd_323 : Cond.lays "DispatchDesk$Facts" "DispatchDesk$Facts" "sameClassFact" "J" ∈ zz_tb := zz_w 323 (by decide +kernel) (by decide +kernel)
theorem wd_324 : Cond.soleField "DispatchDesk$Facts" "sameClassFact" ∈ zz_tb := zz_w 324 (by decide +kernel) (by decide +kernel)
theorem wd_325 : Cond.superclass "DispatchDesk$Facts" "java/lang/Object" ∈ zz_tb := zz_w 325 (by decide +kernel) (by decide +kernel)
theorem wd_326 : Cond.fieldLink "DispatchDesk$Generic" 45 "DispatchDesk$Generic" "arguments" "I" ∈ zz_tb := zz_w 326 (by decide +kernel) (by decide +kernel)
theorem wd_327 : Cond.fieldLink "DispatchDesk" 112 "DispatchDesk$Generic" "arguments" "I" ∈ zz_tb := zz_w 327 (by decide +kernel) (by decide +kernel)
theorem wd_328 : Cond.fieldLink "DispatchDesk$Machine" 172 "DispatchDesk$Generic" "arguments" "I" ∈ zz_tb := zz_w 328 (by decide +kernel) (by decide +kernel)
theorem wd_329 : Cond.fieldLink "DispatchDesk$Generic" 57 "DispatchDesk$Generic" "facts" "LDispatchDesk$Facts;" ∈ zz_tb := zz_w 329 (by decide +kernel) (by decide +kernel)
theorem wd_330 : Cond.fieldLink "DispatchDesk$Machine" 35 "DispatchDesk$Generic" "facts" "LDispatchDesk$Facts;" ∈ zz_tb := zz_w 330 (by decide +kernel) (by decide +kernel)
theorem wd_331 : Cond.fieldLink "DispatchDesk$GraphBuilder" 45 "DispatchDesk$Generic" "facts" "LDispatchDesk$Facts;" ∈ zz_tb := zz_w 331 (by decide +kernel) (by decide +kernel)
theorem wd_332 : Cond.fieldLink "DispatchDesk" 174 "DispatchDesk$Generic" "facts" "LDispatchDesk$Facts;" ∈ zz_tb := zz_w 332 (by decide +kernel) (by decide +kernel)
theorem wd_333 : Cond.fieldLink "DispatchDesk$Generic" 12 "DispatchDesk$Generic" "graph" "LDispatchDesk$Graph;" ∈ zz_tb := zz_w 333 (by decide +kernel) (by decide +kernel)
theorem wd_334 : Cond.fieldLink "DispatchDesk$GraphBuilder" 19 "DispatchDesk$Generic" "graph" "LDispatchDesk$Graph;" ∈ zz_tb := zz_w 334 (by decide +kernel) (by decide +kernel)
theorem wd_335 : Cond.fieldLink "DispatchDesk$Machine" 47 "DispatchDesk$Generic" "graph" "LDispatchDesk$Graph;" ∈ zz_tb := zz_w 335 (by decide +kernel) (by decide +kernel)
theorem wd_336 : Cond.fieldLink "DispatchDesk" 211 "DispatchDesk$Generic" "graph" "LDispatchDesk$Graph;" ∈ zz_tb := zz_w 336 (by decide +kernel) (by decide +kernel)
theorem wd_337 : Cond.fieldLink "DispatchDesk$Generic" 48 "DispatchDesk$Generic" "classes" "LDispatchDesk$Hierarchy;" ∈ zz_tb := zz_w 337 (by decide +kernel) (by decide +kernel)
theorem wd_338 : Cond.fieldLink "DispatchDesk$Generic" 20 "DispatchDesk$Generic" "own" "[LDispatchDesk$Method;" ∈ zz_tb := zz_w 338 (by decide +kernel) (by decide +kernel)
theorem wd_339 : Cond.fieldLink "DispatchDesk$Generic" 24 "DispatchDesk$Generic" "ownCount" "I" ∈ zz_tb := zz_w 339 (by decide +kernel) (by decide +kernel)
theorem wd_340 : Cond.fieldLink "DispatchDesk$Generic" 28 "DispatchDesk$Generic" "ownSet" "I" ∈ zz_tb := zz_w 340 (by decide +kernel) (by decide +kernel)
theorem wd_341 : Cond.fieldLink "DispatchDesk$Generic" 31 "DispatchDesk$Generic" "isFresh" "Z" ∈ zz_tb := zz_w 341 (by decide +kernel) (by decide +kernel)
theorem wd_342 : Cond.fieldLink "DispatchDesk$Generic" 35 "DispatchDesk$Generic" "hasChosen" "Z" ∈ zz_tb := zz_w 342 (by decide +kernel) (by decide +kernel)
theorem wd_343 : Cond.fieldLink "DispatchDesk$Generic" 38 "DispatchDesk$Generic" "chosenFacts" "J" ∈ zz_tb := zz_w 343 (by decide +kernel) (by decide +kernel)
theorem wd_344 : Cond.fieldLink "DispatchDesk$Generic" 42 "DispatchDesk$Generic" "chosen" "I" ∈ zz_tb := zz_w 344 (by decide +kernel) (by decide +kernel)
theorem wd_345 : Cond.laysFinal "DispatchDesk$Generic" "DispatchDesk$Generic" "arguments" "I" ∈ zz_tb := zz_w 345 (by decide +kernel) (by decide +kernel)
theorem wd_346 : Cond.soleField "DispatchDesk$Generic" "arguments" ∈ zz_tb := zz_w 346 (by decide +kernel) (by decide +kernel)
theorem wd_347 : Cond.laysFinal "DispatchDesk$Generic" "DispatchDesk$Generic" "facts" "LDispatchDesk$Facts;" ∈ zz_tb := zz_w 347 (by decide +kernel) (by decide +kernel)
theorem wd_348 : Cond.soleField "DispatchDesk$Generic" "facts" ∈ zz_tb := zz_w 348 (by decide +kernel) (by decide +kernel)
theorem wd_349 : Cond.laysFinal "DispatchDesk$Generic" "DispatchDesk$Generic" "graph" "LDispatchDesk$Graph;" ∈ zz_tb := zz_w 349 (by decide +kernel) (by decide +kernel)
theorem wd_350 : Cond.soleField "DispatchDesk$Generic" "graph" ∈ zz_tb := zz_w 350 (by decide +kernel) (by decide +kernel)
theorem wd_351 : Cond.laysFinal "DispatchDesk$Generic" "DispatchDesk$Generic" "classes" "LDispatchDesk$Hierarchy;" ∈ zz_tb := zz_w 351 (by decide +kernel) (by decide +kernel)
theorem wd_352 : Cond.soleField "DispatchDesk$Generic" "classes" ∈ zz_tb := zz_w 352 (by decide +kernel) (by decide +kernel)
theorem wd_353 : Cond.laysFinal "DispatchDesk$Generic" "DispatchDesk$Generic" "own" "[LDispatchDesk$Method;" ∈ zz_tb := zz_w 353 (by decide +kernel) (by decide +kernel)
theorem wd_354 : Cond.soleField "DispatchDesk$Generic" "own" ∈ zz_tb := zz_w 354 (by decide +kernel) (by decide +kernel)
theorem wd_355 : Cond.lays "DispatchDesk$Generic" "DispatchDesk$Generic" "ownCount" "I" ∈ zz_tb := zz_w 355 (by decide +kernel) (by decide +kernel)
theorem wd_356 : Cond.soleField "DispatchDesk$Generic" "ownCount" ∈ zz_tb := zz_w 356 (by decide +kernel) (by decide +kernel)
theorem wd_357 : Cond.lays "DispatchDesk$Generic" "DispatchDesk$Generic" "ownSet" "I" ∈ zz_tb := zz_w 357 (by decide +kernel) (by decide +kernel)
theorem wd_358 : Cond.soleField "DispatchDesk$Generic" "ownSet" ∈ zz_tb := zz_w 358 (by decide +kernel) (by decide +kernel)
theorem wd_359 : Cond.lays "DispatchDesk$Generic" "DispatchDesk$Generic" "isFresh" "Z" ∈ zz_tb := zz_w 359 (by decide +kernel) (by decide +kernel)
theorem wd_360 : Cond.soleField "DispatchDesk$Generic" "isFresh" ∈ zz_tb := zz_w 360 (by decide +kernel) (by decide +kernel)
theorem wd_361 : Cond.lays "DispatchDesk$Generic" "DispatchDesk$Generic" "hasChosen" "Z" ∈ zz_tb := zz_w 361 (by decide +kernel) (by decide +kernel)
theorem wd_362 : Cond.soleField "DispatchDesk$Generic" "hasChosen" ∈ zz_tb := zz_w 362 (by decide +kernel) (by decide +kernel)
theorem wd_363 : Cond.lays "DispatchDesk$Generic" "DispatchDesk$Generic" "chosenFacts" "J" ∈ zz_tb := zz_w 363 (by decide +kernel) (by decide +kernel)
theorem wd_364 : Cond.soleField "DispatchDesk$Generic" "chosenFacts" ∈ zz_tb := zz_w 364 (by decide +kernel) (by decide +kernel)
theorem wd_365 : Cond.lays "DispatchDesk$Generic" "DispatchDesk$Generic" "chosen" "I" ∈ zz_tb := zz_w 365 (by decide +kernel) (by decide +kernel)
theorem wd_366 : Cond.soleField "DispatchDesk$Generic" "chosen" ∈ zz_tb := zz_w 366 (by decide +kernel) (by decide +kernel)
theorem wd_367 : Cond.superclass "DispatchDesk$Generic" "java/lang/Object" ∈ zz_tb := zz_w 367 (by decide +kernel) (by decide +kernel)
theorem wd_368 : Cond.methodLink "DispatchDeskLaw" 76 yy_L_method ∈ zz_tb := zz_w 368 (by decide +kernel) (by decide +kernel)
theorem wd_369 : Cond.static yy_L_method ∈ zz_tb := zz_w 369 (by decide +kernel) (by decide +kernel)
theorem wd_370 : Cond.codeWith yy_L_method method_5_code 4 (some FieldType.int) [(0, 9, 12, 13), (0, 9, 15, 15)] ∈ zz_tb := zz_w 370 (by decide +kernel) (by decide +kernel)
theorem wd_371 : Cond.methodLink "DispatchDeskLaw" 20 yy_D_method ∈ zz_tb := zz_w 371 (by decide +kernel) (by decide +kernel)
theorem wd_372 : Cond.instanceMethod yy_D_method ∈ zz_tb := zz_w 372 (by decide +kernel) (by decide +kernel)
theorem wd_373 : Cond.selects "DispatchDesk" yy_D_method yy_D_method ∈ zz_tb := zz_w 373 (by decide +kernel) (by decide +kernel)
theorem wd_374 : Cond.code yy_D_method prog_1_method_4_code 4 (some FieldType.int) ∈ zz_tb := zz_w 374 (by decide +kernel) (by decide +kernel)
theorem wd_375 : Cond.methodLink "DispatchDesk" 92 yy_D_genericAt ∈ zz_tb := zz_w 375 (by decide +kernel) (by decide +kernel)
theorem wd_376 : Cond.privateMethod yy_D_genericAt ∈ zz_tb := zz_w 376 (by decide +kernel) (by decide +kernel)
theorem wd_377 : Cond.instanceMethod yy_D_genericAt ∈ zz_tb := zz_w 377 (by decide +kernel) (by decide +kernel)
theorem wd_378 : Cond.code yy_D_genericAt prog_1_method_17_code 2 (some (FieldType.object "DispatchDesk$Generic")) ∈ zz_tb := zz_w 378 (by decide +kernel) (by decide +kernel)
theorem wd_381 : Cond.instantiable "DispatchDesk$Method" 10 ∈ zz_tb := zz_w 381 (by decide +kernel) (by decide +kernel)
theorem wd_382 : Cond.methodLink "DispatchDesk" 98 yy_M_init ∈ zz_tb := zz_w 382 (by decide +kernel) (by decide +kernel)
theorem wd_383 : Cond.instanceMethod yy_M_init ∈ zz_tb := zz_w 383 (by decide +kernel) (by decide +kernel)
theorem wd_384 : Cond.code yy_M_init prog_10_method_1_code 3 none ∈ zz_tb := zz_w 384 (by decide +kernel) (by decide +kernel)
theorem wd_385 : Cond.methodLink "DispatchDesk$Method" 1 ⟨"java/lang/Object", "<init>", "()V"⟩ ∈ zz_tb := zz_w 385 (by decide +kernel) (by decide +kernel)
theorem wd_386 : Cond.classLink "DispatchDesk$Method" 9 "DispatchDesk$Atom" ∈ zz_tb := zz_w 386 (by decide +kernel) (by decide +kernel)
theorem wd_387 : Cond.classLink "DispatchDesk$Method" 19 "DispatchDesk$Operation" ∈ zz_tb := zz_w 387 (by decide +kernel) (by decide +kernel)
theorem wd_388 : Cond.arrayOver (FieldType.object "DispatchDesk$Operation") ∈ zz_tb := zz_w 388 (by decide +kernel) (by decide +kernel)
theorem wd_389 : Cond.fieldLink "DispatchDesk$Method" 41 "DispatchDesk$Method" "number" "I" ∈ zz_tb := zz_w 389 (by decide +kernel) (by decide +kernel)
theorem wd_390 : Cond.fieldLink "DispatchDesk$Generic" 119 "DispatchDesk$Method" "number" "I" ∈ zz_tb := zz_w 390 (by decide +kernel) (by decide +kernel)
theorem wd_391 : Cond.fieldLink "DispatchDesk$Method" 44 "DispatchDesk$Method" "owner" "LDispatchDesk$Generic;" ∈ zz_tb := zz_w 391 (by decide +kernel) (by decide +kernel)
theorem wd_392 : Cond.fieldLink "DispatchDesk$Machine" 73 "DispatchDesk$Method" "owner" "LDispatchDesk$Generic;" ∈ zz_tb := zz_w 392 (by decide +kernel) (by decide +kernel)
theorem wd_393 : Cond.fieldLink "DispatchDesk" 108 "DispatchDesk$Method" "owner" "LDispatchDesk$Generic;" ∈ zz_tb := zz_w 393 (by decide +kernel) (by decide +kernel)
theorem wd_394 : Cond.fieldLink "DispatchDesk$Method" 11 "DispatchDesk$Method" "atoms" "[LDispatchDesk$Atom;" ∈ zz_tb := zz_w 394 (by decide +kernel) (by decide +kernel)
theorem wd_395 : Cond.fieldLink "DispatchDesk$Method" 15 "DispatchDesk$Method" "atomCount" "I" ∈ zz_tb := zz_w 395 (by decide +kernel) (by decide +kernel)
theorem wd_396 : Cond.fieldLink "DispatchDesk" 121 "DispatchDesk$Method" "atomCount" "I" ∈ zz_tb := zz_w 396 (by decide +kernel) (by decide +kernel)
theorem wd_397 : Cond.fieldLink "DispatchDesk$Method" 21 "DispatchDesk$Method" "body" "[LDispatchDesk$Operation;" ∈ zz_tb := zz_w 397 (by decide +kernel) (by decide +kernel)
theorem wd_398 : Cond.fieldLink "DispatchDesk$Machine" 114 "DispatchDesk$Method" "body" "[LDispatchDesk$Operation;" ∈ zz_tb := zz_w 398 (by decide +kernel) (by decide +kernel)
theorem wd_399 : Cond.fieldLink "DispatchDesk$Method" 25 "DispatchDesk$Method" "operationCount" "I" ∈ zz_tb := zz_w 399 (by decide +kernel) (by decide +kernel)
theorem wd_400 : Cond.fieldLink "DispatchDesk" 142 "DispatchDesk$Method" "operationCount" "I" ∈ zz_tb := zz_w 400 (by decide +kernel) (by decide +kernel)
theorem wd_401 : Cond.fieldLink "DispatchDesk$Machine" 111 "DispatchDesk$Method" "operationCount" "I" ∈ zz_tb := zz_w 401 (by decide +kernel) (by decide +kernel)
theorem wd_402 : Cond.fieldLink "DispatchDesk$Method" 28 "DispatchDesk$Method" "wanted" "J" ∈ zz_tb := zz_w 402 (by decide +kernel) (by decide +kernel)
theorem wd_403 : Cond.fieldLink "DispatchDesk$Method" 32 "DispatchDesk$Method" "unwanted" "J" ∈ zz_tb := zz_w 403 (by decide +kernel) (by decide +kernel)
theorem wd_404 : Cond.fieldLink "DispatchDesk$Method" 35 "DispatchDesk$Method" "impliedSet" "I" ∈ zz_tb := zz_w 404 (by decide +kernel) (by decide +kernel)
theorem wd_405 : Cond.fieldLink "DispatchDesk$Generic" 89 "DispatchDesk$Method" "impliedSet" "I" ∈ zz_tb := zz_w 405 (by decide +kernel) (by decide +kernel)
theorem wd_406 : Cond.fieldLink "DispatchDesk$Method" 38 "DispatchDesk$Method" "beyondSet" "I" ∈ zz_tb := zz_w 406 (by decide +kernel) (by decide +kernel)
theorem wd_407 : Cond.fieldLink "DispatchDesk" 161 "DispatchDesk$Method" "beyondSet" "I" ∈ zz_tb := zz_w 407 (by decide +kernel) (by decide +kernel)
theorem wd_408 : Cond.fieldLink "DispatchDesk$Generic" 112 "DispatchDesk$Method" "beyondSet" "I" ∈ zz_tb := zz_w 408 (by decide +kernel) (by decide +kernel)
theorem wd_409 : Cond.laysFinal "DispatchDesk$Method" "DispatchDesk$Method" "number" "I" ∈ zz_tb := zz_w 409 (by decide +kernel) (by decide +kernel)
theorem wd_410 : Cond.soleField "DispatchDesk$Method" "number" ∈ zz_tb := zz_w 410 (by decide +kernel) (by decide +kernel)
theorem wd_411 : Cond.laysFinal "DispatchDesk$Method" "DispatchDesk$Method" "owner" "LDispatchDesk$Generic;" ∈ zz_tb := zz_w 411 (by decide +kernel) (by decide +kernel)
theorem wd_412 : Cond.soleField "DispatchDesk$Method" "owner" ∈ zz_tb := zz_w 412 (by decide +kernel) (by decide +kernel)
theorem wd_413 : Cond.laysFinal "DispatchDesk$Method" "DispatchDesk$Method" "atoms" "[LDispatchDesk$Atom;" ∈ zz_tb := zz_w 413 (by decide +kernel) (by decide +kernel)
theorem wd_414 : Cond.soleField "DispatchDesk$Method" "atoms" ∈ zz_tb := zz_w 414 (by decide +kernel) (by decide +kernel)
theorem wd_415 : Cond.lays "DispatchDesk$Method" "DispatchDesk$Method" "atomCount" "I" ∈ zz_tb := zz_w 415 (by decide +kernel) (by decide +kernel)
theorem wd_416 : Cond.soleField "DispatchDesk$Method" "atomCount" ∈ zz_tb := zz_w 416 (by decide +kernel) (by decide +kernel)
theorem wd_417 : Cond.laysFinal "DispatchDesk$Method" "DispatchDesk$Method" "body" "[LDispatchDesk$Operation;" ∈ zz_tb := zz_w 417 (by decide +kernel) (by decide +kernel)
theorem wd_418 : Cond.soleField "DispatchDesk$Method" "body" ∈ zz_tb := zz_w 418 (by decide +kernel) (by decide +kernel)
theorem wd_419 : Cond.lays "DispatchDesk$Method" "DispatchDesk$Method" "operationCount" "I" ∈ zz_tb := zz_w 419 (by decide +kernel) (by decide +kernel)
theorem wd_420 : Cond.soleField "DispatchDesk$Method" "operationCount" ∈ zz_tb := zz_w 420 (by decide +kernel) (by decide +kernel)
theorem wd_421 : Cond.lays "DispatchDesk$Method" "DispatchDesk$Method" "wanted" "J" ∈ zz_tb := zz_w 421 (by decide +kernel) (by decide +kernel)
theorem wd_422 : Cond.soleField "DispatchDesk$Method" "wanted" ∈ zz_tb := zz_w 422 (by decide +kernel) (by decide +kernel)
theorem wd_423 : Cond.lays "DispatchDesk$Method" "DispatchDesk$Method" "unwanted" "J" ∈ zz_tb := zz_w 423 (by decide +kernel) (by decide +kernel)
theorem wd_424 : Cond.soleField "DispatchDesk$Method" "unwanted" ∈ zz_tb := zz_w 424 (by decide +kernel) (by decide +kernel)
theorem wd_425 : Cond.lays "DispatchDesk$Method" "DispatchDesk$Method" "impliedSet" "I" ∈ zz_tb := zz_w 425 (by decide +kernel) (by decide +kernel)
theorem wd_426 : Cond.soleField "DispatchDesk$Method" "impliedSet" ∈ zz_tb := zz_w 426 (by decide +kernel) (by decide +kernel)
theorem wd_427 : Cond.lays "DispatchDesk$Method" "DispatchDesk$Method" "beyondSet" "I" ∈ zz_tb := zz_w 427 (by decide +kernel) (by decide +kernel)
theorem wd_428 : Cond.soleField "DispatchDesk$Method" "beyondSet" ∈ zz_tb := zz_w 428 (by decide +kernel) (by decide +kernel)
theorem wd_429 : Cond.superclass "DispatchDesk$Method" "java/lang/Object" ∈ zz_tb := zz_w 429 (by decide +kernel) (by decide +kernel)
theorem wd_430 : Cond.methodLink "DispatchDesk" 101 yy_G_add ∈ zz_tb := zz_w 430 (by decide +kernel) (by decide +kernel)
theorem wd_431 : Cond.instanceMethod yy_G_add ∈ zz_tb := zz_w 431 (by decide +kernel) (by decide +kernel)
theorem wd_432 : Cond.selects "DispatchDesk$Generic" yy_G_add yy_G_add ∈ zz_tb := zz_w 432 (by decide +kernel) (by decide +kernel)
theorem wd_433 : Cond.code yy_G_add prog_5_method_7_code 2 none ∈ zz_tb := zz_w 433 (by decide +kernel) (by decide +kernel)
theorem wd_434 : Cond.methodLink "DispatchDesk$Generic" 67 yy_M_bit ∈ zz_tb := zz_w 434 (by decide +kernel) (by decide +kernel)
theorem wd_435 : Cond.instanceMethod yy_M_bit ∈ zz_tb := zz_w 435 (by decide +kernel) (by decide +kernel)
theorem wd_436 : Cond.selects "DispatchDesk$Method" yy_M_bit yy_M_bit ∈ zz_tb := zz_w 436 (by decide +kernel) (by decide +kernel)
theorem wd_437 : Cond.code yy_M_bit prog_10_method_2_code 1 (some FieldType.int) ∈ zz_tb := zz_w 437 (by decide +kernel) (by decide +kernel)
theorem wd_438 : Cond.methodLink "DispatchDesk$Generic" 70 yy_G_outdate ∈ zz_tb := zz_w 438 (by decide +kernel) (by decide +kernel)
theorem wd_439 : Cond.methodLink "DispatchDeskLaw" 79 yy_L_atom ∈ zz_tb := zz_w 439 (by decide +kernel) (by decide +kernel)
theorem wd_440 : Cond.static yy_L_atom ∈ zz_tb := zz_w 440 (by decide +kernel) (by decide +kernel)
theorem wd_441 : Cond.codeWith yy_L_atom method_6_code 8 (some FieldType.int) [(0, 16, 19, 13), (0, 16, 23, 15)] ∈ zz_tb := zz_w 441 (by decide +kernel) (by decide +kernel)
theorem wd_442 : Cond.methodLink "DispatchDeskLaw" 23 yy_D_atom ∈ zz_tb := zz_w 442 (by decide +kernel) (by decide +kernel)
theorem wd_443 : Cond.instanceMethod yy_D_atom ∈ zz_tb := zz_w 443 (by decide +kernel) (by decide +kernel)
theorem wd_444 : Cond.selects "DispatchDesk" yy_D_atom yy_D_atom ∈ zz_tb := zz_w 444 (by decide +kernel) (by decide +kernel)
theorem wd_445 : Cond.code yy_D_atom prog_1_method_5_code 7 (some FieldType.int) ∈ zz_tb := zz_w 445 (by decide +kernel) (by decide +kernel)
theorem wd_446 : Cond.methodLink "DispatchDesk" 104 yy_D_methodAt ∈ zz_tb := zz_w 446 (by decide +kernel) (by decide +kernel)
theorem wd_447 : Cond.privateMethod yy_D_methodAt ∈ zz_tb := zz_w 447 (by decide +kernel) (by decide +kernel)
theorem wd_448 : Cond.instanceMethod yy_D_methodAt ∈ zz_tb := zz_w 448 (by decide +kernel) (by decide +kernel)
theorem wd_449 : Cond.code yy_D_methodAt prog_1_method_18_code 2 (some (FieldType.object "DispatchDesk$Method")) ∈ zz_tb := zz_w 449 (by decide +kernel) (by decide +kernel)
theorem wd_451 : Cond.methodLink "DispatchDesk" 115 yy_D_isAtom ∈ zz_tb := zz_w 451 (by decide +kernel) (by decide +kernel)
theorem wd_452 : Cond.privateMethod yy_D_isAtom ∈ zz_tb := zz_w 452 (by decide +kernel) (by decide +kernel)
theorem wd_453 : Cond.instanceMethod yy_D_isAtom ∈ zz_tb := zz_w 453 (by decide +kernel) (by decide +kernel)
theorem wd_454 : Cond.code yy_D_isAtom prog_1_method_21_code 6 (some FieldType.boolean) ∈ zz_tb := zz_w 454 (by decide +kernel) (by decide +kernel)
theorem wd_455 : Cond.methodLink "DispatchDesk" 266 yy_V_isNumber ∈ zz_tb := zz_w 455 (by decide +kernel) (by decide +kernel)
theorem wd_456 : Cond.static yy_V_isNumber ∈ zz_tb := zz_w 456 (by decide +kernel) (by decide +kernel)
theorem wd_457 : Cond.code yy_V_isNumber prog_12_method_2_code 1 (some FieldType.boolean) ∈ zz_tb := zz_w 457 (by decide +kernel) (by decide +kernel)
theorem wd_460 : Cond.methodLink "DispatchDesk" 126 yy_A_plainest ∈ zz_tb := zz_w 460 (by decide +kernel) (by decide +kernel)
theorem wd_461 : Cond.static yy_A_plainest ∈ zz_tb := zz_w 461 (by decide +kernel) (by decide +kernel)
theorem wd_462 : Cond.code yy_A_plainest prog_2_method_2_code 5 (some (FieldType.object "DispatchDesk$Atom")) ∈ zz_tb := zz_w 462 (by decide +kernel) (by decide +kernel)
theorem wd_463 : Cond.classLink "DispatchDesk$Atom" 8 "DispatchDesk$Atom" ∈ zz_tb := zz_w 463 (by decide +kernel) (by decide +kernel)
theorem wd_464 : Cond.instantiable "DispatchDesk$Atom" 4 ∈ zz_tb := zz_w 464 (by decide +kernel) (by decide +kernel)
theorem wd_465 : Cond.methodLink "DispatchDesk$Atom" 23 yy_A_init ∈ zz_tb := zz_w 465 (by decide +kernel) (by decide +kernel)
theorem wd_466 : Cond.instanceMethod yy_A_init ∈ zz_tb := zz_w 466 (by decide +kernel) (by decide +kernel)
theorem wd_467 : Cond.code yy_A_init prog_2_method_1_code 5 none ∈ zz_tb := zz_w 467 (by decide +kernel) (by decide +kernel)
theorem wd_468 : Cond.methodLink "DispatchDesk$Atom" 1 ⟨"java/lang/Record", "<init>", "()V"⟩ ∈ zz_tb := zz_w 468 (by decide +kernel) (by decide +kernel)
theorem wd_469 : Cond.instanceMethod ⟨"java/lang/Record", "<init>", "()V"⟩ ∈ zz_tb := zz_w 469 (by decide +kernel) (by decide +kernel)
theorem wd_470 : Cond.code ⟨"java/lang/Record", "<init>", "()V"⟩ prog_20_method_1_code 1 none ∈ zz_tb := zz_w 470 (by decide +kernel) (by decide +kernel)
theorem wd_471 : Cond.methodLink "java/lang/Record" 1 ⟨"java/lang/Object", "<init>", "()V"⟩ ∈ zz_tb := zz_w 471 (by decide +kernel) (by decide +kernel)
theorem wd_472 : Cond.fieldLink "DispatchDesk$Atom" 7 "DispatchDesk$Atom" "kind" "I" ∈ zz_tb := zz_w 472 (by decide +kernel) (by decide +kernel)
theorem wd_473 : Cond.fieldLink "DispatchDesk$Atom" 13 "DispatchDesk$Atom" "i" "I" ∈ zz_tb := zz_w 473 (by decide +kernel) (by decide +kernel)
theorem wd_474 : Cond.fieldLink "DispatchDesk$Atom" 16 "DispatchDesk$Atom" "x" "I" ∈ zz_tb := zz_w 474 (by decide +kernel) (by decide +kernel)
theorem wd_475 : Cond.fieldLink "DispatchDesk$Atom" 19 "DispatchDesk$Atom" "negated" "Z" ∈ zz_tb := zz_w 475 (by decide +kernel) (by decide +kernel)
theorem wd_476 : Cond.laysFinal "DispatchDesk$Atom" "DispatchDesk$Atom" "kind" "I" ∈ zz_tb := zz_w 476 (by decide +kernel) (by decide +kernel)
theorem wd_477 : Cond.soleField "DispatchDesk$Atom" "kind" ∈ zz_tb := zz_w 477 (by decide +kernel) (by decide +kernel)
theorem wd_478 : Cond.laysFinal "DispatchDesk$Atom" "DispatchDesk$Atom" "i" "I" ∈ zz_tb := zz_w 478 (by decide +kernel) (by decide +kernel)
theorem wd_479 : Cond.soleField "DispatchDesk$Atom" "i" ∈ zz_tb := zz_w 479 (by decide +kernel) (by decide +kernel)
theorem wd_480 : Cond.laysFinal "DispatchDesk$Atom" "DispatchDesk$Atom" "x" "I" ∈ zz_tb := zz_w 480 (by decide +kernel) (by decide +kernel)
theorem wd_481 : Cond.soleField "DispatchDesk$Atom" "x" ∈ zz_tb := zz_w 481 (by decide +kernel) (by decide +kernel)
theorem wd_482 : Cond.laysFinal "DispatchDesk$Atom" "DispatchDesk$Atom" "negated" "Z" ∈ zz_tb := zz_w 482 (by decide +kernel) (by decide +kernel)
theorem wd_483 : Cond.soleField "DispatchDesk$Atom" "negated" ∈ zz_tb := zz_w 483 (by decide +kernel) (by decide +kernel)
theorem wd_484 : Cond.superclass "DispatchDesk$Atom" "java/lang/Record" ∈ zz_tb := zz_w 484 (by decide +kernel) (by decide +kernel)
theorem wd_485 : Cond.methodLink "DispatchDesk" 132 yy_M_addAtom ∈ zz_tb := zz_w 485 (by decide +kernel) (by decide +kernel)
theorem wd_486 : Cond.instanceMethod yy_M_addAtom ∈ zz_tb := zz_w 486 (by decide +kernel) (by decide +kernel)
theorem wd_487 : Cond.selects "DispatchDesk$Method" yy_M_addAtom yy_M_addAtom ∈ zz_tb := zz_w 487 (by decide +kernel) (by decide +kernel)
theorem wd_488 : Cond.code yy_M_addAtom prog_10_method_3_code 2 (some FieldType.int) ∈ zz_tb := zz_w 488 (by decide +kernel) (by decide +kernel)
theorem wd_489 : Cond.methodLink "DispatchDeskLaw" 83 yy_L_operation ∈ zz_tb := zz_w 489 (by decide +kernel) (by decide +kernel)
theorem wd_490 : Cond.static yy_L_operation ∈ zz_tb := zz_w 490 (by decide +kernel) (by decide +kernel)
theorem wd_491 : Cond.codeWith yy_L_operation method_7_code 6 (some FieldType.int) [(0, 12, 15, 13), (0, 12, 19, 15)] ∈ zz_tb := zz_w 491 (by decide +kernel) (by decide +kernel)
theorem wd_492 : Cond.methodLink "DispatchDeskLaw" 27 yy_D_operation ∈ zz_tb := zz_w 492 (by decide +kernel) (by decide +kernel)
theorem wd_493 : Cond.instanceMethod yy_D_operation ∈ zz_tb := zz_w 493 (by decide +kernel) (by decide +kernel)
theorem wd_494 : Cond.selects "DispatchDesk" yy_D_operation yy_D_operation ∈ zz_tb := zz_w 494 (by decide +kernel) (by decide +kernel)
theorem wd_495 : Cond.code yy_D_operation prog_1_method_6_code 5 (some FieldType.int) ∈ zz_tb := zz_w 495 (by decide +kernel) (by decide +kernel)
theorem wd_496 : Cond.methodLink "DispatchDesk" 136 yy_D_isOperation ∈ zz_tb := zz_w 496 (by decide +kernel) (by decide +kernel)
theorem wd_497 : Cond.privateMethod yy_D_isOperation ∈ zz_tb := zz_w 497 (by decide +kernel) (by decide +kernel)
theorem wd_498 : Cond.instanceMethod yy_D_isOperation ∈ zz_tb := zz_w 498 (by decide +kernel) (by decide +kernel)
theorem wd_499 : Cond.code yy_D_isOperation prog_1_method_22_code 4 (some FieldType.boolean) ∈ zz_tb := zz_w 499 (by decide +kernel) (by decide +kernel)
theorem wd_502 : Cond.classLink "DispatchDesk" 147 "DispatchDesk$Operation" ∈ zz_tb := zz_w 502 (by decide +kernel) (by decide +kernel)
theorem wd_503 : Cond.instantiable "DispatchDesk$Operation" 2 ∈ zz_tb := zz_w 503 (by decide +kernel) (by decide +kernel)
theorem wd_504 : Cond.methodLinkNest "DispatchDesk" 149 yy_O_init "DispatchDesk" ∈ zz_tb := zz_w 504 (by decide +kernel) (by decide +kernel)
theorem wd_505 : Cond.instanceMethod yy_O_init ∈ zz_tb := zz_w 505 (by decide +kernel) (by decide +kernel)
theorem wd_506 : Cond.code yy_O_init prog_11_method_1_code 3 none ∈ zz_tb := zz_w 506 (by decide +kernel) (by decide +kernel)
theorem wd_507 : Cond.methodLink "DispatchDesk$Operation" 1 ⟨"java/lang/Record", "<init>", "()V"⟩ ∈ zz_tb := zz_w 507 (by decide +kernel) (by decide +kernel)
theorem wd_508 : Cond.fieldLink "DispatchDesk$Operation" 7 "DispatchDesk$Operation" "kind" "I" ∈ zz_tb := zz_w 508 (by decide +kernel) (by decide +kernel)
theorem wd_509 : Cond.fieldLink "DispatchDesk$Operation" 13 "DispatchDesk$Operation" "n" "I" ∈ zz_tb := zz_w 509 (by decide +kernel) (by decide +kernel)
theorem wd_510 : Cond.laysFinal "DispatchDesk$Operation" "DispatchDesk$Operation" "kind" "I" ∈ zz_tb := zz_w 510 (by decide +kernel) (by decide +kernel)
theorem wd_511 : Cond.soleField "DispatchDesk$Operation" "kind" ∈ zz_tb := zz_w 511 (by decide +kernel) (by decide +kernel)
theorem wd_512 : Cond.laysFinal "DispatchDesk$Operation" "DispatchDesk$Operation" "n" "I" ∈ zz_tb := zz_w 512 (by decide +kernel) (by decide +kernel)
theorem wd_513 : Cond.soleField "DispatchDesk$Operation" "n" ∈ zz_tb := zz_w 513 (by decide +kernel) (by decide +kernel)
theorem wd_514 : Cond.superclass "DispatchDesk$Operation" "java/lang/Record" ∈ zz_tb := zz_w 514 (by decide +kernel) (by decide +kernel)
theorem wd_515 : Cond.methodLink "DispatchDesk" 152 yy_M_addOperation ∈ zz_tb := zz_w 515 (by decide +kernel) (by decide +kernel)
theorem wd_516 : Cond.instanceMethod yy_M_addOperation ∈ zz_tb := zz_w 516 (by decide +kernel) (by decide +kernel)
theorem wd_517 : Cond.selects "DispatchDesk$Method" yy_M_addOperation yy_M_addOperation ∈ zz_tb := zz_w 517 (by decide +kernel) (by decide +kernel)
theorem wd_518 : Cond.code yy_M_addOperation prog_10_method_4_code 2 (some FieldType.int) ∈ zz_tb := zz_w 518 (by decide +kernel) (by decide +kernel)
theorem wd_519 : Cond.methodLink "DispatchDeskLaw" 87 yy_L_beyond ∈ zz_tb := zz_w 519 (by decide +kernel) (by decide +kernel)
theorem wd_520 : Cond.static yy_L_beyond ∈ zz_tb := zz_w 520 (by decide +kernel) (by decide +kernel)
theorem wd_521 : Cond.codeWith yy_L_beyond method_8_code 5 (some FieldType.int) [(0, 17, 20, 13)] ∈ zz_tb := zz_w 521 (by decide +kernel) (by decide +kernel)
theorem wd_522 : Cond.methodLink "DispatchDeskLaw" 31 yy_D_beyond ∈ zz_tb := zz_w 522 (by decide +kernel) (by decide +kernel)
theorem wd_523 : Cond.instanceMethod yy_D_beyond ∈ zz_tb := zz_w 523 (by decide +kernel) (by decide +kernel)
theorem wd_524 : Cond.selects "DispatchDesk" yy_D_beyond yy_D_beyond ∈ zz_tb := zz_w 524 (by decide +kernel) (by decide +kernel)
theorem wd_525 : Cond.code yy_D_beyond prog_1_method_7_code 5 (some FieldType.boolean) ∈ zz_tb := zz_w 525 (by decide +kernel) (by decide +kernel)
theorem wd_527 : Cond.methodLink "DispatchDesk" 158 yy_G_refresh ∈ zz_tb := zz_w 527 (by decide +kernel) (by decide +kernel)
theorem wd_528 : Cond.instanceMethod yy_G_refresh ∈ zz_tb := zz_w 528 (by decide +kernel) (by decide +kernel)
theorem wd_529 : Cond.selects "DispatchDesk$Generic" yy_G_refresh yy_G_refresh ∈ zz_tb := zz_w 529 (by decide +kernel) (by decide +kernel)
theorem wd_530 : Cond.code yy_G_refresh prog_5_method_9_code 2 none ∈ zz_tb := zz_w 530 (by decide +kernel) (by decide +kernel)
theorem wd_531 : Cond.methodLink "DispatchDesk$Generic" 76 yy_F_forget ∈ zz_tb := zz_w 531 (by decide +kernel) (by decide +kernel)
theorem wd_532 : Cond.instanceMethod yy_F_forget ∈ zz_tb := zz_w 532 (by decide +kernel) (by decide +kernel)
theorem wd_533 : Cond.selects "DispatchDesk$Facts" yy_F_forget yy_F_forget ∈ zz_tb := zz_w 533 (by decide +kernel) (by decide +kernel)
theorem wd_534 : Cond.code yy_F_forget prog_3_method_4_code 2 none ∈ zz_tb := zz_w 534 (by decide +kernel) (by decide +kernel)
theorem wd_535 : Cond.methodLink "DispatchDesk$Generic" 79 yy_M_learnCondition ∈ zz_tb := zz_w 535 (by decide +kernel) (by decide +kernel)
theorem wd_536 : Cond.instanceMethod yy_M_learnCondition ∈ zz_tb := zz_w 536 (by decide +kernel) (by decide +kernel)
theorem wd_537 : Cond.selects "DispatchDesk$Method" yy_M_learnCondition yy_M_learnCondition ∈ zz_tb := zz_w 537 (by decide +kernel) (by decide +kernel)
theorem wd_538 : Cond.code yy_M_learnCondition prog_10_method_5_code 5 none ∈ zz_tb := zz_w 538 (by decide +kernel) (by decide +kernel)
theorem wd_539 : Cond.methodLink "DispatchDesk$Method" 48 yy_F_learn ∈ zz_tb := zz_w 539 (by decide +kernel) (by decide +kernel)
theorem wd_540 : Cond.instanceMethod yy_F_learn ∈ zz_tb := zz_w 540 (by decide +kernel) (by decide +kernel)
theorem wd_541 : Cond.selects "DispatchDesk$Facts" yy_F_learn yy_F_learn ∈ zz_tb := zz_w 541 (by decide +kernel) (by decide +kernel)
theorem wd_542 : Cond.code yy_F_learn prog_3_method_5_code 4 (some FieldType.long) ∈ zz_tb := zz_w 542 (by decide +kernel) (by decide +kernel)
theorem wd_543 : Cond.methodLink "DispatchDesk$Facts" 53 yy_A_asksTheSame ∈ zz_tb := zz_w 543 (by decide +kernel) (by decide +kernel)
theorem wd_544 : Cond.instanceMethod yy_A_asksTheSame ∈ zz_tb := zz_w 544 (by decide +kernel) (by decide +kernel)
theorem wd_545 : Cond.selects "DispatchDesk$Atom" yy_A_asksTheSame yy_A_asksTheSame ∈ zz_tb := zz_w 545 (by decide +kernel) (by decide +kernel)
theorem wd_546 : Cond.code yy_A_asksTheSame prog_2_method_3_code 2 (some FieldType.boolean) ∈ zz_tb := zz_w 546 (by decide +kernel) (by decide +kernel)
theorem wd_547 : Cond.methodLink "DispatchDesk$Facts" 57 yy_F_note ∈ zz_tb := zz_w 547 (by decide +kernel) (by decide +kernel)
theorem wd_548 : Cond.privateMethod yy_F_note ∈ zz_tb := zz_w 548 (by decide +kernel) (by decide +kernel)
theorem wd_549 : Cond.instanceMethod yy_F_note ∈ zz_tb := zz_w 549 (by decide +kernel) (by decide +kernel)
theorem wd_550 : Cond.code yy_F_note prog_3_method_6_code 6 none ∈ zz_tb := zz_w 550 (by decide +kernel) (by decide +kernel)
theorem wd_551 : Cond.methodLink "DispatchDesk$Facts" 43 yy_A_kind ∈ zz_tb := zz_w 551 (by decide +kernel) (by decide +kernel)
theorem wd_552 : Cond.instanceMethod yy_A_kind ∈ zz_tb := zz_w 552 (by decide +kernel) (by decide +kernel)
theorem wd_553 : Cond.selects "DispatchDesk$Atom" yy_A_kind yy_A_kind ∈ zz_tb := zz_w 553 (by decide +kernel) (by decide +kernel)
theorem wd_554 : Cond.code yy_A_kind prog_2_method_8_code 1 (some FieldType.int) ∈ zz_tb := zz_w 554 (by decide +kernel) (by decide +kernel)
theorem wd_555 : Cond.methodLink "DispatchDesk$Facts" 47 yy_A_i ∈ zz_tb := zz_w 555 (by decide +kernel) (by decide +kernel)
theorem wd_556 : Cond.instanceMethod yy_A_i ∈ zz_tb := zz_w 556 (by decide +kernel) (by decide +kernel)
theorem wd_557 : Cond.selects "DispatchDesk$Atom" yy_A_i yy_A_i ∈ zz_tb := zz_w 557 (by decide +kernel) (by decide +kernel)
theorem wd_558 : Cond.code yy_A_i prog_2_method_9_code 1 (some FieldType.int) ∈ zz_tb := zz_w 558 (by decide +kernel) (by decide +kernel)
theorem wd_559 : Cond.methodLink "DispatchDesk$Facts" 61 yy_H_valueCount ∈ zz_tb := zz_w 559 (by decide +kernel) (by decide +kernel)
theorem wd_560 : Cond.instanceMethod yy_H_valueCount ∈ zz_tb := zz_w 560 (by decide +kernel) (by decide +kernel)
theorem wd_561 : Cond.selects "DispatchDesk$Hierarchy" yy_H_valueCount yy_H_valueCount ∈ zz_tb := zz_w 561 (by decide +kernel) (by decide +kernel)
theorem wd_562 : Cond.code yy_H_valueCount prog_8_method_6_code 1 (some FieldType.int) ∈ zz_tb := zz_w 562 (by decide +kernel) (by decide +kernel)
theorem wd_563 : Cond.methodLink "DispatchDesk$Facts" 64 yy_A_holdsFor ∈ zz_tb := zz_w 563 (by decide +kernel) (by decide +kernel)
theorem wd_564 : Cond.instanceMethod yy_A_holdsFor ∈ zz_tb := zz_w 564 (by decide +kernel) (by decide +kernel)
theorem wd_565 : Cond.selects "DispatchDesk$Atom" yy_A_holdsFor yy_A_holdsFor ∈ zz_tb := zz_w 565 (by decide +kernel) (by decide +kernel)
theorem wd_566 : Cond.code yy_A_holdsFor prog_2_method_4_code 4 (some FieldType.boolean) ∈ zz_tb := zz_w 566 (by decide +kernel) (by decide +kernel)
theorem wd_567 : Cond.methodLink "DispatchDesk$Atom" 26 yy_V_numberOf ∈ zz_tb := zz_w 567 (by decide +kernel) (by decide +kernel)
theorem wd_568 : Cond.static yy_V_numberOf ∈ zz_tb := zz_w 568 (by decide +kernel) (by decide +kernel)
theorem wd_569 : Cond.code yy_V_numberOf prog_12_method_5_code 1 (some FieldType.int) ∈ zz_tb := zz_w 569 (by decide +kernel) (by decide +kernel)
theorem wd_570 : Cond.methodLink "DispatchDesk$Atom" 32 yy_V_classOf ∈ zz_tb := zz_w 570 (by decide +kernel) (by decide +kernel)
theorem wd_571 : Cond.static yy_V_classOf ∈ zz_tb := zz_w 571 (by decide +kernel) (by decide +kernel)
theorem wd_572 : Cond.code yy_V_classOf prog_12_method_4_code 1 (some FieldType.int) ∈ zz_tb := zz_w 572 (by decide +kernel) (by decide +kernel)
theorem wd_573 : Cond.methodLink "DispatchDesk$Atom" 35 yy_H_is ∈ zz_tb := zz_w 573 (by decide +kernel) (by decide +kernel)
theorem wd_574 : Cond.instanceMethod yy_H_is ∈ zz_tb := zz_w 574 (by decide +kernel) (by decide +kernel)
theorem wd_575 : Cond.selects "DispatchDesk$Hierarchy" yy_H_is yy_H_is ∈ zz_tb := zz_w 575 (by decide +kernel) (by decide +kernel)
theorem wd_576 : Cond.code yy_H_is prog_8_method_5_code 3 (some FieldType.boolean) ∈ zz_tb := zz_w 576 (by decide +kernel) (by decide +kernel)
theorem wd_577 : Cond.methodLink "DispatchDesk$Method" 54 yy_A_negated ∈ zz_tb := zz_w 577 (by decide +kernel) (by decide +kernel)
theorem wd_578 : Cond.instanceMethod yy_A_negated ∈ zz_tb := zz_w 578 (by decide +kernel) (by decide +kernel)
theorem wd_579 : Cond.selects "DispatchDesk$Atom" yy_A_negated yy_A_negated ∈ zz_tb := zz_w 579 (by decide +kernel) (by decide +kernel)
theorem wd_580 : Cond.code yy_A_negated prog_2_method_11_code 1 (some FieldType.boolean) ∈ zz_tb := zz_w 580 (by decide +kernel) (by decide +kernel)
theorem wd_581 : Cond.methodLink "DispatchDesk$Generic" 83 yy_G_findImplied ∈ zz_tb := zz_w 581 (by decide +kernel) (by decide +kernel)
theorem wd_582 : Cond.privateMethod yy_G_findImplied ∈ zz_tb := zz_w 582 (by decide +kernel) (by decide +kernel)
theorem wd_583 : Cond.instanceMethod yy_G_findImplied ∈ zz_tb := zz_w 583 (by decide +kernel) (by decide +kernel)
theorem wd_584 : Cond.code yy_G_findImplied prog_5_method_10_code 7 none ∈ zz_tb := zz_w 584 (by decide +kernel) (by decide +kernel)
theorem wd_585 : Cond.constantLong "DispatchDesk$Generic" 92 (-1) ∈ zz_tb := zz_w 585 (by decide +kernel) (by decide +kernel)
theorem wd_586 : Cond.methodLink "DispatchDesk$Generic" 94 yy_G_firstCount ∈ zz_tb := zz_w 586 (by decide +kernel) (by decide +kernel)
theorem wd_587 : Cond.instanceMethod yy_G_firstCount ∈ zz_tb := zz_w 587 (by decide +kernel) (by decide +kernel)
theorem wd_588 : Cond.selects "DispatchDesk$Generic" yy_G_firstCount yy_G_firstCount ∈ zz_tb := zz_w 588 (by decide +kernel) (by decide +kernel)
theorem wd_589 : Cond.code yy_G_firstCount prog_5_method_4_code 1 (some FieldType.int) ∈ zz_tb := zz_w 589 (by decide +kernel) (by decide +kernel)
theorem wd_590 : Cond.methodLink "DispatchDesk$Generic" 63 yy_H_valueCount ∈ zz_tb := zz_w 590 (by decide +kernel) (by decide +kernel)
theorem wd_591 : Cond.methodLink "DispatchDesk$Generic" 97 yy_G_secondCount ∈ zz_tb := zz_w 591 (by decide +kernel) (by decide +kernel)
theorem wd_592 : Cond.instanceMethod yy_G_secondCount ∈ zz_tb := zz_w 592 (by decide +kernel) (by decide +kernel)
theorem wd_593 : Cond.selects "DispatchDesk$Generic" yy_G_secondCount yy_G_secondCount ∈ zz_tb := zz_w 593 (by decide +kernel) (by decide +kernel)
theorem wd_594 : Cond.code yy_G_secondCount prog_5_method_5_code 1 (some FieldType.int) ∈ zz_tb := zz_w 594 (by decide +kernel) (by decide +kernel)
theorem wd_595 : Cond.methodLink "DispatchDesk$Generic" 100 yy_F_ofRow ∈ zz_tb := zz_w 595 (by decide +kernel) (by decide +kernel)
theorem wd_596 : Cond.instanceMethod yy_F_ofRow ∈ zz_tb := zz_w 596 (by decide +kernel) (by decide +kernel)
theorem wd_597 : Cond.selects "DispatchDesk$Facts" yy_F_ofRow yy_F_ofRow ∈ zz_tb := zz_w 597 (by decide +kernel) (by decide +kernel)
theorem wd_598 : Cond.code yy_F_ofRow prog_3_method_7_code 5 (some FieldType.long) ∈ zz_tb := zz_w 598 (by decide +kernel) (by decide +kernel)
theorem wd_599 : Cond.methodLink "DispatchDesk$Facts" 68 yy_V_numberOf ∈ zz_tb := zz_w 599 (by decide +kernel) (by decide +kernel)
theorem wd_600 : Cond.methodLink "DispatchDesk$Facts" 74 yy_V_classOf ∈ zz_tb := zz_w 600 (by decide +kernel) (by decide +kernel)
theorem wd_601 : Cond.methodLink "DispatchDesk$Generic" 104 yy_G_applicable ∈ zz_tb := zz_w 601 (by decide +kernel) (by decide +kernel)
theorem wd_602 : Cond.privateMethod yy_G_applicable ∈ zz_tb := zz_w 602 (by decide +kernel) (by decide +kernel)
theorem wd_603 : Cond.instanceMethod yy_G_applicable ∈ zz_tb := zz_w 603 (by decide +kernel) (by decide +kernel)
theorem wd_604 : Cond.code yy_G_applicable prog_5_method_13_code 5 (some FieldType.int) ∈ zz_tb := zz_w 604 (by decide +kernel) (by decide +kernel)
theorem wd_605 : Cond.methodLink "DispatchDesk$Generic" 115 yy_M_holds ∈ zz_tb := zz_w 605 (by decide +kernel) (by decide +kernel)
theorem wd_606 : Cond.instanceMethod yy_M_holds ∈ zz_tb := zz_w 606 (by decide +kernel) (by decide +kernel)
theorem wd_607 : Cond.selects "DispatchDesk$Method" yy_M_holds yy_M_holds ∈ zz_tb := zz_w 607 (by decide +kernel) (by decide +kernel)
theorem wd_608 : Cond.code yy_M_holds prog_10_method_6_code 3 (some FieldType.boolean) ∈ zz_tb := zz_w 608 (by decide +kernel) (by decide +kernel)
theorem wd_609 : Cond.methodLink "DispatchDesk$Generic" 108 yy_G_noteTogether ∈ zz_tb := zz_w 609 (by decide +kernel) (by decide +kernel)
theorem wd_610 : Cond.privateMethod yy_G_noteTogether ∈ zz_tb := zz_w 610 (by decide +kernel) (by decide +kernel)
theorem wd_611 : Cond.instanceMethod yy_G_noteTogether ∈ zz_tb := zz_w 611 (by decide +kernel) (by decide +kernel)
theorem wd_612 : Cond.code yy_G_noteTogether prog_5_method_11_code 3 none ∈ zz_tb := zz_w 612 (by decide +kernel) (by decide +kernel)
theorem wd_613 : Cond.methodLink "DispatchDesk$Generic" 86 yy_G_findBeyond ∈ zz_tb := zz_w 613 (by decide +kernel) (by decide +kernel)
theorem wd_614 : Cond.privateMethod yy_G_findBeyond ∈ zz_tb := zz_w 614 (by decide +kernel) (by decide +kernel)
theorem wd_615 : Cond.instanceMethod yy_G_findBeyond ∈ zz_tb := zz_w 615 (by decide +kernel) (by decide +kernel)
theorem wd_616 : Cond.code yy_G_findBeyond prog_5_method_12_code 5 none ∈ zz_tb := zz_w 616 (by decide +kernel) (by decide +kernel)
theorem wd_617 : Cond.methodLink "DispatchDesk" 164 yy_M_bit ∈ zz_tb := zz_w 617 (by decide +kernel) (by decide +kernel)
theorem wd_618 : Cond.methodLink "DispatchDeskLaw" 91 yy_L_best ∈ zz_tb := zz_w 618 (by decide +kernel) (by decide +kernel)
theorem wd_619 : Cond.static yy_L_best ∈ zz_tb := zz_w 619 (by decide +kernel) (by decide +kernel)
theorem wd_620 : Cond.codeWith yy_L_best method_9_code 6 (some FieldType.int) [(0, 12, 15, 13)] ∈ zz_tb := zz_w 620 (by decide +kernel) (by decide +kernel)
theorem wd_621 : Cond.methodLink "DispatchDeskLaw" 35 yy_D_best ∈ zz_tb := zz_w 621 (by decide +kernel) (by decide +kernel)
theorem wd_622 : Cond.instanceMethod yy_D_best ∈ zz_tb := zz_w 622 (by decide +kernel) (by decide +kernel)
theorem wd_623 : Cond.selects "DispatchDesk" yy_D_best yy_D_best ∈ zz_tb := zz_w 623 (by decide +kernel) (by decide +kernel)
theorem wd_624 : Cond.code yy_D_best prog_1_method_8_code 5 (some FieldType.int) ∈ zz_tb := zz_w 624 (by decide +kernel) (by decide +kernel)
theorem wd_625 : Cond.methodLink "DispatchDesk" 168 yy_D_isRow ∈ zz_tb := zz_w 625 (by decide +kernel) (by decide +kernel)
theorem wd_626 : Cond.privateMethod yy_D_isRow ∈ zz_tb := zz_w 626 (by decide +kernel) (by decide +kernel)
theorem wd_627 : Cond.instanceMethod yy_D_isRow ∈ zz_tb := zz_w 627 (by decide +kernel) (by decide +kernel)
theorem wd_628 : Cond.code yy_D_isRow prog_1_method_20_code 4 (some FieldType.boolean) ∈ zz_tb := zz_w 628 (by decide +kernel) (by decide +kernel)
theorem wd_629 : Cond.methodLink "DispatchDesk" 261 yy_H_hasValue ∈ zz_tb := zz_w 629 (by decide +kernel) (by decide +kernel)
theorem wd_630 : Cond.instanceMethod yy_H_hasValue ∈ zz_tb := zz_w 630 (by decide +kernel) (by decide +kernel)
theorem wd_631 : Cond.selects "DispatchDesk$Hierarchy" yy_H_hasValue yy_H_hasValue ∈ zz_tb := zz_w 631 (by decide +kernel) (by decide +kernel)
theorem wd_632 : Cond.code yy_H_hasValue prog_8_method_7_code 2 (some FieldType.boolean) ∈ zz_tb := zz_w 632 (by decide +kernel) (by decide +kernel)
theorem wd_633 : Cond.methodLink "DispatchDesk$Hierarchy" 17 yy_H_valueCount ∈ zz_tb := zz_w 633 (by decide +kernel) (by decide +kernel)
theorem wd_635 : Cond.methodLink "DispatchDesk" 178 yy_G_secondOrNone ∈ zz_tb := zz_w 635 (by decide +kernel) (by decide +kernel)
theorem wd_636 : Cond.instanceMethod yy_G_secondOrNone ∈ zz_tb := zz_w 636 (by decide +kernel) (by decide +kernel)
theorem wd_637 : Cond.selects "DispatchDesk$Generic" yy_G_secondOrNone yy_G_secondOrNone ∈ zz_tb := zz_w 637 (by decide +kernel) (by decide +kernel)
theorem wd_638 : Cond.code yy_G_secondOrNone prog_5_method_6_code 2 (some FieldType.int) ∈ zz_tb := zz_w 638 (by decide +kernel) (by decide +kernel)
theorem wd_639 : Cond.methodLink "DispatchDesk" 181 yy_F_ofRow ∈ zz_tb := zz_w 639 (by decide +kernel) (by decide +kernel)
theorem wd_640 : Cond.methodLink "DispatchDesk" 187 yy_G_choose ∈ zz_tb := zz_w 640 (by decide +kernel) (by decide +kernel)
theorem wd_641 : Cond.instanceMethod yy_G_choose ∈ zz_tb := zz_w 641 (by decide +kernel) (by decide +kernel)
theorem wd_642 : Cond.selects "DispatchDesk$Generic" yy_G_choose yy_G_choose ∈ zz_tb := zz_w 642 (by decide +kernel) (by decide +kernel)
theorem wd_643 : Cond.code yy_G_choose prog_5_method_15_code 3 (some FieldType.int) ∈ zz_tb := zz_w 643 (by decide +kernel) (by decide +kernel)
theorem wd_644 : Cond.methodLink "DispatchDesk$Generic" 122 yy_G_pick ∈ zz_tb := zz_w 644 (by decide +kernel) (by decide +kernel)
theorem wd_645 : Cond.privateMethod yy_G_pick ∈ zz_tb := zz_w 645 (by decide +kernel) (by decide +kernel)
theorem wd_646 : Cond.instanceMethod yy_G_pick ∈ zz_tb := zz_w 646 (by decide +kernel) (by decide +kernel)
theorem wd_647 : Cond.code yy_G_pick prog_5_method_14_code 5 (some FieldType.int) ∈ zz_tb := zz_w 647 (by decide +kernel) (by decide +kernel)
theorem wd_648 : Cond.methodLink "DispatchDeskLaw" 94 yy_L_check ∈ zz_tb := zz_w 648 (by decide +kernel) (by decide +kernel)
theorem wd_649 : Cond.static yy_L_check ∈ zz_tb := zz_w 649 (by decide +kernel) (by decide +kernel)
theorem wd_650 : Cond.codeWith yy_L_check method_10_code 4 (some FieldType.int) [(0, 9, 12, 13)] ∈ zz_tb := zz_w 650 (by decide +kernel) (by decide +kernel)
theorem wd_651 : Cond.methodLink "DispatchDeskLaw" 38 yy_D_check ∈ zz_tb := zz_w 651 (by decide +kernel) (by decide +kernel)
theorem wd_652 : Cond.instanceMethod yy_D_check ∈ zz_tb := zz_w 652 (by decide +kernel) (by decide +kernel)
theorem wd_653 : Cond.selects "DispatchDesk" yy_D_check yy_D_check ∈ zz_tb := zz_w 653 (by decide +kernel) (by decide +kernel)
theorem wd_654 : Cond.code yy_D_check prog_1_method_9_code 4 (some FieldType.int) ∈ zz_tb := zz_w 654 (by decide +kernel) (by decide +kernel)
theorem wd_655 : Cond.methodLink "DispatchDesk" 191 yy_G_firstFault ∈ zz_tb := zz_w 655 (by decide +kernel) (by decide +kernel)
theorem wd_656 : Cond.instanceMethod yy_G_firstFault ∈ zz_tb := zz_w 656 (by decide +kernel) (by decide +kernel)
theorem wd_657 : Cond.selects "DispatchDesk$Generic" yy_G_firstFault yy_G_firstFault ∈ zz_tb := zz_w 657 (by decide +kernel) (by decide +kernel)
theorem wd_658 : Cond.code yy_G_firstFault prog_5_method_17_code 3 (some FieldType.int) ∈ zz_tb := zz_w 658 (by decide +kernel) (by decide +kernel)
theorem wd_659 : Cond.methodLink "DispatchDesk$Generic" 126 yy_G_choose ∈ zz_tb := zz_w 659 (by decide +kernel) (by decide +kernel)
theorem wd_660 : Cond.methodLink "DispatchDesk" 194 yy_G_firstOfRow ∈ zz_tb := zz_w 660 (by decide +kernel) (by decide +kernel)
theorem wd_661 : Cond.static yy_G_firstOfRow ∈ zz_tb := zz_w 661 (by decide +kernel) (by decide +kernel)
theorem wd_662 : Cond.code yy_G_firstOfRow prog_5_method_2_code 1 (some FieldType.int) ∈ zz_tb := zz_w 662 (by decide +kernel) (by decide +kernel)
theorem wd_663 : Cond.methodLink "DispatchDesk" 197 yy_G_secondOfRow ∈ zz_tb := zz_w 663 (by decide +kernel) (by decide +kernel)
theorem wd_664 : Cond.static yy_G_secondOfRow ∈ zz_tb := zz_w 664 (by decide +kernel) (by decide +kernel)
theorem wd_665 : Cond.code yy_G_secondOfRow prog_5_method_3_code 1 (some FieldType.int) ∈ zz_tb := zz_w 665 (by decide +kernel) (by decide +kernel)
theorem wd_666 : Cond.methodLink "DispatchDeskLaw" 97 yy_L_witness ∈ zz_tb := zz_w 666 (by decide +kernel) (by decide +kernel)
theorem wd_667 : Cond.static yy_L_witness ∈ zz_tb := zz_w 667 (by decide +kernel) (by decide +kernel)
theorem wd_668 : Cond.codeWith yy_L_witness method_11_code 4 (some FieldType.int) [(0, 9, 12, 44)] ∈ zz_tb := zz_w 668 (by decide +kernel) (by decide +kernel)
theorem wd_669 : Cond.classLink "DispatchDeskLaw" 44 "java/util/NoSuchElementException" ∈ zz_tb := zz_w 669 (by decide +kernel) (by decide +kernel)
theorem wd_670 : Cond.methodLink "DispatchDeskLaw" 41 yy_D_witness ∈ zz_tb := zz_w 670 (by decide +kernel) (by decide +kernel)
theorem wd_671 : Cond.instanceMethod yy_D_witness ∈ zz_tb := zz_w 671 (by decide +kernel) (by decide +kernel)
theorem wd_672 : Cond.selects "DispatchDesk" yy_D_witness yy_D_witness ∈ zz_tb := zz_w 672 (by decide +kernel) (by decide +kernel)
theorem wd_673 : Cond.code yy_D_witness prog_1_method_10_code 2 (some FieldType.int) ∈ zz_tb := zz_w 673 (by decide +kernel) (by decide +kernel)
theorem wd_674 : Cond.classLink "DispatchDesk" 200 "java/util/NoSuchElementException" ∈ zz_tb := zz_w 674 (by decide +kernel) (by decide +kernel)
theorem wd_675 : Cond.instantiable "java/util/NoSuchElementException" 6 ∈ zz_tb := zz_w 675 (by decide +kernel) (by decide +kernel)
theorem wd_676 : Cond.castable "java/util/NoSuchElementException" "java/util/NoSuchElementException" ∈ zz_tb := zz_w 676 (by decide +kernel) (by decide +kernel)
theorem wd_677 : Cond.selects "java/util/NoSuchElementException" ⟨"java/lang/Throwable", "fillInStackTrace", "(I)Ljava/lang/Throwable;"⟩ ⟨"java/lang/Throwable", "fillInStackTrace", "(I)Ljava/lang/Throwable;"⟩ ∈ zz_tb := zz_w 677 (by decide +kernel) (by decide +kernel)
theorem wd_678 : Cond.lays "java/util/NoSuchElementException" "java/lang/Throwable" "cause" "Ljava/lang/Throwable;" ∈ zz_tb := zz_w 678 (by decide +kernel) (by decide +kernel)
theorem wd_679 : Cond.lays "java/util/NoSuchElementException" "java/lang/Throwable" "stackTrace" "[Ljava/lang/StackTraceElement;" ∈ zz_tb := zz_w 679 (by decide +kernel) (by decide +kernel)
theorem wd_680 : Cond.lays "java/util/NoSuchElementException" "java/lang/Throwable" "suppressedExceptions" "Ljava/util/List;" ∈ zz_tb := zz_w 680 (by decide +kernel) (by decide +kernel)
theorem wd_681 : Cond.lays "java/util/NoSuchElementException" "java/lang/Throwable" "detailMessage" "Ljava/lang/String;" ∈ zz_tb := zz_w 681 (by decide +kernel) (by decide +kernel)
theorem wd_682 : Cond.lays "java/util/NoSuchElementException" "java/lang/Throwable" "backtrace" "Ljava/lang/Object;" ∈ zz_tb := zz_w 682 (by decide +kernel) (by decide +kernel)
theorem wd_684 : Cond.methodLink "DispatchDesk" 204 ⟨"java/util/NoSuchElementException", "<init>", "(Ljava/lang/String;)V"⟩ ∈ zz_tb := zz_w 684 (by decide +kernel) (by decide +kernel)
theorem wd_685 : Cond.instanceMethod ⟨"java/util/NoSuchElementException", "<init>", "(Ljava/lang/String;)V"⟩ ∈ zz_tb := zz_w 685 (by decide +kernel) (by decide +kernel)
theorem wd_686 : Cond.code ⟨"java/util/NoSuchElementException", "<init>", "(Ljava/lang/String;)V"⟩ prog_24_method_4_code 2 none ∈ zz_tb := zz_w 686 (by decide +kernel) (by decide +kernel)
theorem wd_687 : Cond.methodLink "java/util/NoSuchElementException" 13 ⟨"java/lang/RuntimeException", "<init>", "(Ljava/lang/String;)V"⟩ ∈ zz_tb := zz_w 687 (by decide +kernel) (by decide +kernel)
theorem wd_688 : Cond.lays "java/util/NoSuchElementException" "java/lang/Throwable" "depth" "I" ∈ zz_tb := zz_w 688 (by decide +kernel) (by decide +kernel)
theorem wd_689 : Cond.superclass "java/util/NoSuchElementException" "java/lang/RuntimeException" ∈ zz_tb := zz_w 689 (by decide +kernel) (by decide +kernel)
theorem wd_690 : Cond.methodLink "DispatchDeskLaw" 100 yy_L_compile ∈ zz_tb := zz_w 690 (by decide +kernel) (by decide +kernel)
theorem wd_691 : Cond.static yy_L_compile ∈ zz_tb := zz_w 691 (by decide +kernel) (by decide +kernel)
theorem wd_692 : Cond.codeWith yy_L_compile method_12_code 4 (some FieldType.int) [(0, 9, 12, 13), (0, 9, 15, 15)] ∈ zz_tb := zz_w 692 (by decide +kernel) (by decide +kernel)
theorem wd_693 : Cond.methodLink "DispatchDeskLaw" 46 yy_D_compile ∈ zz_tb := zz_w 693 (by decide +kernel) (by decide +kernel)
theorem wd_694 : Cond.instanceMethod yy_D_compile ∈ zz_tb := zz_w 694 (by decide +kernel) (by decide +kernel)
theorem wd_695 : Cond.selects "DispatchDesk" yy_D_compile yy_D_compile ∈ zz_tb := zz_w 695 (by decide +kernel) (by decide +kernel)
theorem wd_696 : Cond.code yy_D_compile prog_1_method_11_code 3 (some FieldType.int) ∈ zz_tb := zz_w 696 (by decide +kernel) (by decide +kernel)
theorem wd_697 : Cond.methodLink "DispatchDesk" 205 yy_B_build ∈ zz_tb := zz_w 697 (by decide +kernel) (by decide +kernel)
theorem wd_698 : Cond.instanceMethod yy_B_build ∈ zz_tb := zz_w 698 (by decide +kernel) (by decide +kernel)
theorem wd_699 : Cond.selects "DispatchDesk$GraphBuilder" yy_B_build yy_B_build ∈ zz_tb := zz_w 699 (by decide +kernel) (by decide +kernel)
theorem wd_700 : Cond.code yy_B_build prog_7_method_2_code 4 (some FieldType.boolean) ∈ zz_tb := zz_w 700 (by decide +kernel) (by decide +kernel)
theorem wd_701 : Cond.methodLink "DispatchDesk$GraphBuilder" 25 yy_R_clear ∈ zz_tb := zz_w 701 (by decide +kernel) (by decide +kernel)
theorem wd_702 : Cond.methodLink "DispatchDesk$GraphBuilder" 30 yy_B_gather ∈ zz_tb := zz_w 702 (by decide +kernel) (by decide +kernel)
theorem wd_703 : Cond.privateMethod yy_B_gather ∈ zz_tb := zz_w 703 (by decide +kernel) (by decide +kernel)
theorem wd_704 : Cond.instanceMethod yy_B_gather ∈ zz_tb := zz_w 704 (by decide +kernel) (by decide +kernel)
theorem wd_705 : Cond.code yy_B_gather prog_7_method_3_code 9 (some FieldType.int) ∈ zz_tb := zz_w 705 (by decide +kernel) (by decide +kernel)
theorem wd_706 : Cond.methodLink "DispatchDesk$GraphBuilder" 38 yy_G_firstCount ∈ zz_tb := zz_w 706 (by decide +kernel) (by decide +kernel)
theorem wd_707 : Cond.methodLink "DispatchDesk$GraphBuilder" 42 yy_G_secondCount ∈ zz_tb := zz_w 707 (by decide +kernel) (by decide +kernel)
theorem wd_708 : Cond.methodLink "DispatchDesk$GraphBuilder" 49 yy_F_ofRow ∈ zz_tb := zz_w 708 (by decide +kernel) (by decide +kernel)
theorem wd_709 : Cond.methodLink "DispatchDesk$GraphBuilder" 53 yy_G_choose ∈ zz_tb := zz_w 709 (by decide +kernel) (by decide +kernel)
theorem wd_710 : Cond.methodLink "DispatchDesk$GraphBuilder" 34 yy_B_treeFor ∈ zz_tb := zz_w 710 (by decide +kernel) (by decide +kernel)
theorem wd_711 : Cond.privateMethod yy_B_treeFor ∈ zz_tb := zz_w 711 (by decide +kernel) (by decide +kernel)
theorem wd_712 : Cond.instanceMethod yy_B_treeFor ∈ zz_tb := zz_w 712 (by decide +kernel) (by decide +kernel)
theorem wd_713 : Cond.code yy_B_treeFor prog_7_method_4_code 11 (some FieldType.int) ∈ zz_tb := zz_w 713 (by decide +kernel) (by decide +kernel)
theorem wd_714 : Cond.methodLink "DispatchDesk$GraphBuilder" 57 yy_B_differing ∈ zz_tb := zz_w 714 (by decide +kernel) (by decide +kernel)
theorem wd_715 : Cond.privateMethod yy_B_differing ∈ zz_tb := zz_w 715 (by decide +kernel) (by decide +kernel)
theorem wd_716 : Cond.instanceMethod yy_B_differing ∈ zz_tb := zz_w 716 (by decide +kernel) (by decide +kernel)
theorem wd_717 : Cond.code yy_B_differing prog_7_method_5_code 8 (some FieldType.long) ∈ zz_tb := zz_w 717 (by decide +kernel) (by decide +kernel)
theorem wd_718 : Cond.constantLong "DispatchDesk$GraphBuilder" 77 (-1) ∈ zz_tb := zz_w 718 (by decide +kernel) (by decide +kernel)
theorem wd_719 : Cond.methodLink "DispatchDesk$GraphBuilder" 60 yy_R_leafFor ∈ zz_tb := zz_w 719 (by decide +kernel) (by decide +kernel)
theorem wd_720 : Cond.instanceMethod yy_R_leafFor ∈ zz_tb := zz_w 720 (by decide +kernel) (by decide +kernel)
theorem wd_721 : Cond.selects "DispatchDesk$Graph" yy_R_leafFor yy_R_leafFor ∈ zz_tb := zz_w 721 (by decide +kernel) (by decide +kernel)
theorem wd_722 : Cond.code yy_R_leafFor prog_6_method_6_code 2 (some FieldType.int) ∈ zz_tb := zz_w 722 (by decide +kernel) (by decide +kernel)
theorem wd_723 : Cond.methodLink "DispatchDesk$Graph" 23 yy_R_nodeFor ∈ zz_tb := zz_w 723 (by decide +kernel) (by decide +kernel)
theorem wd_724 : Cond.instanceMethod yy_R_nodeFor ∈ zz_tb := zz_w 724 (by decide +kernel) (by decide +kernel)
theorem wd_725 : Cond.selects "DispatchDesk$Graph" yy_R_nodeFor yy_R_nodeFor ∈ zz_tb := zz_w 725 (by decide +kernel) (by decide +kernel)
theorem wd_726 : Cond.code yy_R_nodeFor prog_6_method_7_code 5 (some FieldType.int) ∈ zz_tb := zz_w 726 (by decide +kernel) (by decide +kernel)
theorem wd_727 : Cond.methodLink "DispatchDesk$GraphBuilder" 64 ⟨"java/lang/Long", "numberOfTrailingZeros", "(J)I"⟩ ∈ zz_tb := zz_w 727 (by decide +kernel) (by decide +kernel)
theorem wd_728 : Cond.static ⟨"java/lang/Long", "numberOfTrailingZeros", "(J)I"⟩ ∈ zz_tb := zz_w 728 (by decide +kernel) (by decide +kernel)
theorem wd_729 : Cond.code ⟨"java/lang/Long", "numberOfTrailingZeros", "(J)I"⟩ prog_19_method_49_code 3 (some FieldType.int) ∈ zz_tb := zz_w 729 (by decide +kernel) (by decide +kernel)
theorem wd_730 : Cond.methodLink "java/lang/Long" 311 ⟨"java/lang/Integer", "numberOfTrailingZeros", "(I)I"⟩ ∈ zz_tb := zz_w 730 (by decide +kernel) (by decide +kernel)
theorem wd_731 : Cond.static ⟨"java/lang/Integer", "numberOfTrailingZeros", "(I)I"⟩ ∈ zz_tb := zz_w 731 (by decide +kernel) (by decide +kernel)
theorem wd_732 : Cond.code ⟨"java/lang/Integer", "numberOfTrailingZeros", "(I)I"⟩ prog_18_method_48_code 2 (some FieldType.int) ∈ zz_tb := zz_w 732 (by decide +kernel) (by decide +kernel)
theorem wd_733 : Cond.constant "java/lang/Integer" 264 65536 ∈ zz_tb := zz_w 733 (by decide +kernel) (by decide +kernel)
theorem wd_734 : Cond.methodLink "DispatchDesk$GraphBuilder" 69 yy_B_bringForward ∈ zz_tb := zz_w 734 (by decide +kernel) (by decide +kernel)
theorem wd_735 : Cond.privateMethod yy_B_bringForward ∈ zz_tb := zz_w 735 (by decide +kernel) (by decide +kernel)
theorem wd_736 : Cond.instanceMethod yy_B_bringForward ∈ zz_tb := zz_w 736 (by decide +kernel) (by decide +kernel)
theorem wd_737 : Cond.code yy_B_bringForward prog_7_method_6_code 9 (some FieldType.int) ∈ zz_tb := zz_w 737 (by decide +kernel) (by decide +kernel)
theorem wd_738 : Cond.methodLink "DispatchDesk$GraphBuilder" 73 yy_R_nodeFor ∈ zz_tb := zz_w 738 (by decide +kernel) (by decide +kernel)
theorem wd_740 : Cond.methodLink "DispatchDesk" 215 yy_R_size ∈ zz_tb := zz_w 740 (by decide +kernel) (by decide +kernel)
theorem wd_741 : Cond.instanceMethod yy_R_size ∈ zz_tb := zz_w 741 (by decide +kernel) (by decide +kernel)
theorem wd_742 : Cond.selects "DispatchDesk$Graph" yy_R_size yy_R_size ∈ zz_tb := zz_w 742 (by decide +kernel) (by decide +kernel)
theorem wd_743 : Cond.code yy_R_size prog_6_method_4_code 1 (some FieldType.int) ∈ zz_tb := zz_w 743 (by decide +kernel) (by decide +kernel)
theorem wd_744 : Cond.methodLink "DispatchDeskLaw" 103 yy_L_node ∈ zz_tb := zz_w 744 (by decide +kernel) (by decide +kernel)
theorem wd_745 : Cond.static yy_L_node ∈ zz_tb := zz_w 745 (by decide +kernel) (by decide +kernel)
theorem wd_746 : Cond.codeWith yy_L_node method_13_code 6 (some FieldType.int) [(0, 12, 15, 13), (0, 12, 19, 15), (0, 12, 23, 44)] ∈ zz_tb := zz_w 746 (by decide +kernel) (by decide +kernel)
theorem wd_747 : Cond.methodLink "DispatchDeskLaw" 49 yy_D_node ∈ zz_tb := zz_w 747 (by decide +kernel) (by decide +kernel)
theorem wd_748 : Cond.instanceMethod yy_D_node ∈ zz_tb := zz_w 748 (by decide +kernel) (by decide +kernel)
theorem wd_749 : Cond.selects "DispatchDesk" yy_D_node yy_D_node ∈ zz_tb := zz_w 749 (by decide +kernel) (by decide +kernel)
theorem wd_750 : Cond.code yy_D_node prog_1_method_12_code 5 (some FieldType.int) ∈ zz_tb := zz_w 750 (by decide +kernel) (by decide +kernel)
theorem wd_751 : Cond.methodLink "DispatchDesk" 220 yy_D_compiledAt ∈ zz_tb := zz_w 751 (by decide +kernel) (by decide +kernel)
theorem wd_752 : Cond.privateMethod yy_D_compiledAt ∈ zz_tb := zz_w 752 (by decide +kernel) (by decide +kernel)
theorem wd_753 : Cond.instanceMethod yy_D_compiledAt ∈ zz_tb := zz_w 753 (by decide +kernel) (by decide +kernel)
theorem wd_754 : Cond.code yy_D_compiledAt prog_1_method_19_code 4 (some (FieldType.object "DispatchDesk$Generic")) ∈ zz_tb := zz_w 754 (by decide +kernel) (by decide +kernel)
theorem wd_756 : Cond.methodLink "DispatchDesk" 256 yy_R_isEmpty ∈ zz_tb := zz_w 756 (by decide +kernel) (by decide +kernel)
theorem wd_757 : Cond.instanceMethod yy_R_isEmpty ∈ zz_tb := zz_w 757 (by decide +kernel) (by decide +kernel)
theorem wd_758 : Cond.selects "DispatchDesk$Graph" yy_R_isEmpty yy_R_isEmpty ∈ zz_tb := zz_w 758 (by decide +kernel) (by decide +kernel)
theorem wd_759 : Cond.code yy_R_isEmpty prog_6_method_3_code 1 (some FieldType.boolean) ∈ zz_tb := zz_w 759 (by decide +kernel) (by decide +kernel)
theorem wd_762 : Cond.methodLink "DispatchDesk" 226 yy_R_part ∈ zz_tb := zz_w 762 (by decide +kernel) (by decide +kernel)
theorem wd_763 : Cond.instanceMethod yy_R_part ∈ zz_tb := zz_w 763 (by decide +kernel) (by decide +kernel)
theorem wd_764 : Cond.selects "DispatchDesk$Graph" yy_R_part yy_R_part ∈ zz_tb := zz_w 764 (by decide +kernel) (by decide +kernel)
theorem wd_765 : Cond.code yy_R_part prog_6_method_5_code 3 (some FieldType.int) ∈ zz_tb := zz_w 765 (by decide +kernel) (by decide +kernel)
theorem wd_766 : Cond.methodLink "DispatchDeskLaw" 106 yy_L_test ∈ zz_tb := zz_w 766 (by decide +kernel) (by decide +kernel)
theorem wd_767 : Cond.static yy_L_test ∈ zz_tb := zz_w 767 (by decide +kernel) (by decide +kernel)
theorem wd_768 : Cond.codeWith yy_L_test method_14_code 6 (some FieldType.int) [(0, 12, 15, 13), (0, 12, 19, 15), (0, 12, 23, 44)] ∈ zz_tb := zz_w 768 (by decide +kernel) (by decide +kernel)
theorem wd_769 : Cond.methodLink "DispatchDeskLaw" 52 yy_D_test ∈ zz_tb := zz_w 769 (by decide +kernel) (by decide +kernel)
theorem wd_770 : Cond.instanceMethod yy_D_test ∈ zz_tb := zz_w 770 (by decide +kernel) (by decide +kernel)
theorem wd_771 : Cond.selects "DispatchDesk" yy_D_test yy_D_test ∈ zz_tb := zz_w 771 (by decide +kernel) (by decide +kernel)
theorem wd_772 : Cond.code yy_D_test prog_1_method_13_code 5 (some FieldType.int) ∈ zz_tb := zz_w 772 (by decide +kernel) (by decide +kernel)
theorem wd_773 : Cond.methodLink "DispatchDesk" 230 yy_F_size ∈ zz_tb := zz_w 773 (by decide +kernel) (by decide +kernel)
theorem wd_774 : Cond.instanceMethod yy_F_size ∈ zz_tb := zz_w 774 (by decide +kernel) (by decide +kernel)
theorem wd_775 : Cond.selects "DispatchDesk$Facts" yy_F_size yy_F_size ∈ zz_tb := zz_w 775 (by decide +kernel) (by decide +kernel)
theorem wd_776 : Cond.code yy_F_size prog_3_method_2_code 1 (some FieldType.int) ∈ zz_tb := zz_w 776 (by decide +kernel) (by decide +kernel)
theorem wd_778 : Cond.methodLink "DispatchDesk" 233 yy_F_part ∈ zz_tb := zz_w 778 (by decide +kernel) (by decide +kernel)
theorem wd_779 : Cond.instanceMethod yy_F_part ∈ zz_tb := zz_w 779 (by decide +kernel) (by decide +kernel)
theorem wd_780 : Cond.selects "DispatchDesk$Facts" yy_F_part yy_F_part ∈ zz_tb := zz_w 780 (by decide +kernel) (by decide +kernel)
theorem wd_781 : Cond.code yy_F_part prog_3_method_3_code 4 (some FieldType.int) ∈ zz_tb := zz_w 781 (by decide +kernel) (by decide +kernel)
theorem wd_782 : Cond.methodLink "DispatchDesk$Facts" 50 yy_A_x ∈ zz_tb := zz_w 782 (by decide +kernel) (by decide +kernel)
theorem wd_783 : Cond.instanceMethod yy_A_x ∈ zz_tb := zz_w 783 (by decide +kernel) (by decide +kernel)
theorem wd_784 : Cond.selects "DispatchDesk$Atom" yy_A_x yy_A_x ∈ zz_tb := zz_w 784 (by decide +kernel) (by decide +kernel)
theorem wd_785 : Cond.code yy_A_x prog_2_method_10_code 1 (some FieldType.int) ∈ zz_tb := zz_w 785 (by decide +kernel) (by decide +kernel)
theorem wd_786 : Cond.methodLink "DispatchDeskLaw" 109 yy_L_run ∈ zz_tb := zz_w 786 (by decide +kernel) (by decide +kernel)
theorem wd_787 : Cond.static yy_L_run ∈ zz_tb := zz_w 787 (by decide +kernel) (by decide +kernel)
theorem wd_788 : Cond.codeWith yy_L_run method_15_code 7 (some FieldType.int) [(0, 14, 17, 13)] ∈ zz_tb := zz_w 788 (by decide +kernel) (by decide +kernel)
theorem wd_789 : Cond.methodLink "DispatchDeskLaw" 55 yy_D_run ∈ zz_tb := zz_w 789 (by decide +kernel) (by decide +kernel)
theorem wd_790 : Cond.instanceMethod yy_D_run ∈ zz_tb := zz_w 790 (by decide +kernel) (by decide +kernel)
theorem wd_791 : Cond.selects "DispatchDesk" yy_D_run yy_D_run ∈ zz_tb := zz_w 791 (by decide +kernel) (by decide +kernel)
theorem wd_792 : Cond.code yy_D_run prog_1_method_14_code 7 (some FieldType.int) ∈ zz_tb := zz_w 792 (by decide +kernel) (by decide +kernel)
theorem wd_794 : Cond.methodLink "DispatchDesk" 236 yy_N_load ∈ zz_tb := zz_w 794 (by decide +kernel) (by decide +kernel)
theorem wd_795 : Cond.instanceMethod yy_N_load ∈ zz_tb := zz_w 795 (by decide +kernel) (by decide +kernel)
theorem wd_796 : Cond.selects "DispatchDesk$Machine" yy_N_load yy_N_load ∈ zz_tb := zz_w 796 (by decide +kernel) (by decide +kernel)
theorem wd_797 : Cond.code yy_N_load prog_9_method_2_code 4 none ∈ zz_tb := zz_w 797 (by decide +kernel) (by decide +kernel)
theorem wd_798 : Cond.methodLink "DispatchDesk" 240 yy_N_call ∈ zz_tb := zz_w 798 (by decide +kernel) (by decide +kernel)
theorem wd_799 : Cond.instanceMethod yy_N_call ∈ zz_tb := zz_w 799 (by decide +kernel) (by decide +kernel)
theorem wd_800 : Cond.selects "DispatchDesk$Machine" yy_N_call yy_N_call ∈ zz_tb := zz_w 800 (by decide +kernel) (by decide +kernel)
theorem wd_801 : Cond.code yy_N_call prog_9_method_3_code 9 (some FieldType.int) ∈ zz_tb := zz_w 801 (by decide +kernel) (by decide +kernel)
theorem wd_802 : Cond.methodLink "DispatchDesk$Machine" 31 yy_N_enter ∈ zz_tb := zz_w 802 (by decide +kernel) (by decide +kernel)
theorem wd_803 : Cond.privateMethod yy_N_enter ∈ zz_tb := zz_w 803 (by decide +kernel) (by decide +kernel)
theorem wd_804 : Cond.instanceMethod yy_N_enter ∈ zz_tb := zz_w 804 (by decide +kernel) (by decide +kernel)
theorem wd_805 : Cond.code yy_N_enter prog_9_method_5_code 2 (some FieldType.int) ∈ zz_tb := zz_w 805 (by decide +kernel) (by decide +kernel)
theorem wd_806 : Cond.methodLink "DispatchDesk$Machine" 89 yy_N_spend ∈ zz_tb := zz_w 806 (by decide +kernel) (by decide +kernel)
theorem wd_807 : Cond.privateMethod yy_N_spend ∈ zz_tb := zz_w 807 (by decide +kernel) (by decide +kernel)
theorem wd_808 : Cond.instanceMethod yy_N_spend ∈ zz_tb := zz_w 808 (by decide +kernel) (by decide +kernel)
theorem wd_809 : Cond.code yy_N_spend prog_9_method_6_code 1 (some FieldType.int) ∈ zz_tb := zz_w 809 (by decide +kernel) (by decide +kernel)
theorem wd_810 : Cond.methodLink "DispatchDesk$Machine" 41 yy_F_ofRow ∈ zz_tb := zz_w 810 (by decide +kernel) (by decide +kernel)
theorem wd_811 : Cond.methodLink "DispatchDesk$Machine" 51 yy_R_isEmpty ∈ zz_tb := zz_w 811 (by decide +kernel) (by decide +kernel)
theorem wd_812 : Cond.methodLink "DispatchDesk$Machine" 57 yy_G_choose ∈ zz_tb := zz_w 812 (by decide +kernel) (by decide +kernel)
theorem wd_813 : Cond.methodLink "DispatchDesk$Machine" 61 yy_N_walk ∈ zz_tb := zz_w 813 (by decide +kernel) (by decide +kernel)
theorem wd_814 : Cond.privateMethod yy_N_walk ∈ zz_tb := zz_w 814 (by decide +kernel) (by decide +kernel)
theorem wd_815 : Cond.instanceMethod yy_N_walk ∈ zz_tb := zz_w 815 (by decide +kernel) (by decide +kernel)
theorem wd_816 : Cond.code yy_N_walk prog_9_method_7_code 6 (some FieldType.int) ∈ zz_tb := zz_w 816 (by decide +kernel) (by decide +kernel)
theorem wd_817 : Cond.methodLink "DispatchDesk$Machine" 93 yy_R_root ∈ zz_tb := zz_w 817 (by decide +kernel) (by decide +kernel)
theorem wd_818 : Cond.instanceMethod yy_R_root ∈ zz_tb := zz_w 818 (by decide +kernel) (by decide +kernel)
theorem wd_819 : Cond.selects "DispatchDesk$Graph" yy_R_root yy_R_root ∈ zz_tb := zz_w 819 (by decide +kernel) (by decide +kernel)
theorem wd_820 : Cond.code yy_R_root prog_6_method_8_code 1 (some FieldType.int) ∈ zz_tb := zz_w 820 (by decide +kernel) (by decide +kernel)
theorem wd_821 : Cond.methodLink "DispatchDesk$Machine" 96 yy_R_isLeaf ∈ zz_tb := zz_w 821 (by decide +kernel) (by decide +kernel)
theorem wd_822 : Cond.instanceMethod yy_R_isLeaf ∈ zz_tb := zz_w 822 (by decide +kernel) (by decide +kernel)
theorem wd_823 : Cond.selects "DispatchDesk$Graph" yy_R_isLeaf yy_R_isLeaf ∈ zz_tb := zz_w 823 (by decide +kernel) (by decide +kernel)
theorem wd_824 : Cond.code yy_R_isLeaf prog_6_method_9_code 2 (some FieldType.boolean) ∈ zz_tb := zz_w 824 (by decide +kernel) (by decide +kernel)
theorem wd_825 : Cond.methodLink "DispatchDesk$Machine" 100 yy_R_follow ∈ zz_tb := zz_w 825 (by decide +kernel) (by decide +kernel)
theorem wd_826 : Cond.instanceMethod yy_R_follow ∈ zz_tb := zz_w 826 (by decide +kernel) (by decide +kernel)
theorem wd_827 : Cond.selects "DispatchDesk$Graph" yy_R_follow yy_R_follow ∈ zz_tb := zz_w 827 (by decide +kernel) (by decide +kernel)
theorem wd_828 : Cond.code yy_R_follow prog_6_method_11_code 4 (some FieldType.int) ∈ zz_tb := zz_w 828 (by decide +kernel) (by decide +kernel)
theorem wd_829 : Cond.methodLink "DispatchDesk$Machine" 104 yy_R_methodAt ∈ zz_tb := zz_w 829 (by decide +kernel) (by decide +kernel)
theorem wd_830 : Cond.instanceMethod yy_R_methodAt ∈ zz_tb := zz_w 830 (by decide +kernel) (by decide +kernel)
theorem wd_831 : Cond.selects "DispatchDesk$Graph" yy_R_methodAt yy_R_methodAt ∈ zz_tb := zz_w 831 (by decide +kernel) (by decide +kernel)
theorem wd_832 : Cond.code yy_R_methodAt prog_6_method_10_code 2 (some FieldType.int) ∈ zz_tb := zz_w 832 (by decide +kernel) (by decide +kernel)
theorem wd_833 : Cond.methodLink "DispatchDesk$Machine" 65 yy_N_perform ∈ zz_tb := zz_w 833 (by decide +kernel) (by decide +kernel)
theorem wd_834 : Cond.privateMethod yy_N_perform ∈ zz_tb := zz_w 834 (by decide +kernel) (by decide +kernel)
theorem wd_835 : Cond.instanceMethod yy_N_perform ∈ zz_tb := zz_w 835 (by decide +kernel) (by decide +kernel)
theorem wd_836 : Cond.code yy_N_perform prog_9_method_8_code 9 (some FieldType.int) ∈ zz_tb := zz_w 836 (by decide +kernel) (by decide +kernel)
theorem wd_837 : Cond.methodLink "DispatchDesk$Machine" 107 yy_E_open ∈ zz_tb := zz_w 837 (by decide +kernel) (by decide +kernel)
theorem wd_838 : Cond.instanceMethod yy_E_open ∈ zz_tb := zz_w 838 (by decide +kernel) (by decide +kernel)
theorem wd_839 : Cond.selects "DispatchDesk$Frame" yy_E_open yy_E_open ∈ zz_tb := zz_w 839 (by decide +kernel) (by decide +kernel)
theorem wd_840 : Cond.code yy_E_open prog_4_method_2_code 4 none ∈ zz_tb := zz_w 840 (by decide +kernel) (by decide +kernel)
theorem wd_841 : Cond.methodLink "DispatchDesk$Machine" 118 yy_N_step ∈ zz_tb := zz_w 841 (by decide +kernel) (by decide +kernel)
theorem wd_842 : Cond.privateMethod yy_N_step ∈ zz_tb := zz_w 842 (by decide +kernel) (by decide +kernel)
theorem wd_843 : Cond.instanceMethod yy_N_step ∈ zz_tb := zz_w 843 (by decide +kernel) (by decide +kernel)
theorem wd_844 : Cond.code yy_N_step prog_9_method_9_code 4 (some FieldType.int) ∈ zz_tb := zz_w 844 (by decide +kernel) (by decide +kernel)
theorem wd_845 : Cond.methodLink "DispatchDesk$Machine" 125 yy_O_kind ∈ zz_tb := zz_w 845 (by decide +kernel) (by decide +kernel)
theorem wd_846 : Cond.instanceMethod yy_O_kind ∈ zz_tb := zz_w 846 (by decide +kernel) (by decide +kernel)
theorem wd_847 : Cond.selects "DispatchDesk$Operation" yy_O_kind yy_O_kind ∈ zz_tb := zz_w 847 (by decide +kernel) (by decide +kernel)
theorem wd_848 : Cond.code yy_O_kind prog_11_method_5_code 1 (some FieldType.int) ∈ zz_tb := zz_w 848 (by decide +kernel) (by decide +kernel)
theorem wd_849 : Cond.methodLink "DispatchDesk$Machine" 130 yy_O_n ∈ zz_tb := zz_w 849 (by decide +kernel) (by decide +kernel)
theorem wd_850 : Cond.instanceMethod yy_O_n ∈ zz_tb := zz_w 850 (by decide +kernel) (by decide +kernel)
theorem wd_851 : Cond.selects "DispatchDesk$Operation" yy_O_n yy_O_n ∈ zz_tb := zz_w 851 (by decide +kernel) (by decide +kernel)
theorem wd_852 : Cond.code yy_O_n prog_11_method_6_code 1 (some FieldType.int) ∈ zz_tb := zz_w 852 (by decide +kernel) (by decide +kernel)
theorem wd_853 : Cond.methodLink "DispatchDesk$Machine" 133 yy_V_of ∈ zz_tb := zz_w 853 (by decide +kernel) (by decide +kernel)
theorem wd_854 : Cond.static yy_V_of ∈ zz_tb := zz_w 854 (by decide +kernel) (by decide +kernel)
theorem wd_855 : Cond.code yy_V_of prog_12_method_3_code 2 (some FieldType.int) ∈ zz_tb := zz_w 855 (by decide +kernel) (by decide +kernel)
theorem wd_856 : Cond.methodLink "DispatchDesk$Machine" 139 yy_E_push ∈ zz_tb := zz_w 856 (by decide +kernel) (by decide +kernel)
theorem wd_857 : Cond.instanceMethod yy_E_push ∈ zz_tb := zz_w 857 (by decide +kernel) (by decide +kernel)
theorem wd_858 : Cond.selects "DispatchDesk$Frame" yy_E_push yy_E_push ∈ zz_tb := zz_w 858 (by decide +kernel) (by decide +kernel)
theorem wd_859 : Cond.code yy_E_push prog_4_method_4_code 2 (some FieldType.int) ∈ zz_tb := zz_w 859 (by decide +kernel) (by decide +kernel)
theorem wd_860 : Cond.methodLink "DispatchDesk$Machine" 142 yy_N_combine ∈ zz_tb := zz_w 860 (by decide +kernel) (by decide +kernel)
theorem wd_861 : Cond.static yy_N_combine ∈ zz_tb := zz_w 861 (by decide +kernel) (by decide +kernel)
theorem wd_862 : Cond.code yy_N_combine prog_9_method_10_code 5 (some FieldType.int) ∈ zz_tb := zz_w 862 (by decide +kernel) (by decide +kernel)
theorem wd_863 : Cond.methodLink "DispatchDesk$Machine" 160 yy_E_has ∈ zz_tb := zz_w 863 (by decide +kernel) (by decide +kernel)
theorem wd_864 : Cond.instanceMethod yy_E_has ∈ zz_tb := zz_w 864 (by decide +kernel) (by decide +kernel)
theorem wd_865 : Cond.selects "DispatchDesk$Frame" yy_E_has yy_E_has ∈ zz_tb := zz_w 865 (by decide +kernel) (by decide +kernel)
theorem wd_866 : Cond.code yy_E_has prog_4_method_3_code 2 (some FieldType.boolean) ∈ zz_tb := zz_w 866 (by decide +kernel) (by decide +kernel)
theorem wd_867 : Cond.methodLink "DispatchDesk$Machine" 163 yy_E_pop ∈ zz_tb := zz_w 867 (by decide +kernel) (by decide +kernel)
theorem wd_868 : Cond.instanceMethod yy_E_pop ∈ zz_tb := zz_w 868 (by decide +kernel) (by decide +kernel)
theorem wd_869 : Cond.selects "DispatchDesk$Frame" yy_E_pop yy_E_pop ∈ zz_tb := zz_w 869 (by decide +kernel) (by decide +kernel)
theorem wd_870 : Cond.code yy_E_pop prog_4_method_5_code 1 (some FieldType.int) ∈ zz_tb := zz_w 870 (by decide +kernel) (by decide +kernel)
theorem wd_871 : Cond.methodLink "DispatchDesk$Machine" 166 yy_V_numberOf ∈ zz_tb := zz_w 871 (by decide +kernel) (by decide +kernel)
theorem wd_872 : Cond.methodLink "DispatchDesk$Machine" 169 yy_V_classOf ∈ zz_tb := zz_w 872 (by decide +kernel) (by decide +kernel)
theorem wd_873 : Cond.methodLink "DispatchDesk$Machine" 146 yy_N_recast ∈ zz_tb := zz_w 873 (by decide +kernel) (by decide +kernel)
theorem wd_874 : Cond.static yy_N_recast ∈ zz_tb := zz_w 874 (by decide +kernel) (by decide +kernel)
theorem wd_875 : Cond.code yy_N_recast prog_9_method_11_code 2 (some FieldType.int) ∈ zz_tb := zz_w 875 (by decide +kernel) (by decide +kernel)
theorem wd_876 : Cond.methodLink "DispatchDesk$Machine" 150 yy_N_callOnTop ∈ zz_tb := zz_w 876 (by decide +kernel) (by decide +kernel)
theorem wd_877 : Cond.privateMethod yy_N_callOnTop ∈ zz_tb := zz_w 877 (by decide +kernel) (by decide +kernel)
theorem wd_878 : Cond.instanceMethod yy_N_callOnTop ∈ zz_tb := zz_w 878 (by decide +kernel) (by decide +kernel)
theorem wd_879 : Cond.code yy_N_callOnTop prog_9_method_12_code 6 (some FieldType.int) ∈ zz_tb := zz_w 879 (by decide +kernel) (by decide +kernel)
theorem wd_880 : Cond.methodLink "DispatchDesk$Machine" 175 yy_N_call ∈ zz_tb := zz_w 880 (by decide +kernel) (by decide +kernel)
theorem wd_881 : Cond.methodLink "DispatchDesk$Machine" 157 yy_N_pushUnlessEnded ∈ zz_tb := zz_w 881 (by decide +kernel) (by decide +kernel)
theorem wd_882 : Cond.static yy_N_pushUnlessEnded ∈ zz_tb := zz_w 882 (by decide +kernel) (by decide +kernel)
theorem wd_883 : Cond.code yy_N_pushUnlessEnded prog_9_method_13_code 2 (some FieldType.int) ∈ zz_tb := zz_w 883 (by decide +kernel) (by decide +kernel)
theorem wd_884 : Cond.methodLink "DispatchDesk$Machine" 154 yy_N_callNext ∈ zz_tb := zz_w 884 (by decide +kernel) (by decide +kernel)
theorem wd_885 : Cond.privateMethod yy_N_callNext ∈ zz_tb := zz_w 885 (by decide +kernel) (by decide +kernel)
theorem wd_886 : Cond.instanceMethod yy_N_callNext ∈ zz_tb := zz_w 886 (by decide +kernel) (by decide +kernel)
theorem wd_887 : Cond.code yy_N_callNext prog_9_method_4_code 8 (some FieldType.int) ∈ zz_tb := zz_w 887 (by decide +kernel) (by decide +kernel)
theorem wd_888 : Cond.methodLink "DispatchDesk$Machine" 85 yy_G_chooseBehind ∈ zz_tb := zz_w 888 (by decide +kernel) (by decide +kernel)
theorem wd_889 : Cond.instanceMethod yy_G_chooseBehind ∈ zz_tb := zz_w 889 (by decide +kernel) (by decide +kernel)
theorem wd_890 : Cond.selects "DispatchDesk$Generic" yy_G_chooseBehind yy_G_chooseBehind ∈ zz_tb := zz_w 890 (by decide +kernel) (by decide +kernel)
theorem wd_891 : Cond.code yy_G_chooseBehind prog_5_method_16_code 4 (some FieldType.int) ∈ zz_tb := zz_w 891 (by decide +kernel) (by decide +kernel)
theorem wd_892 : Cond.methodLink "DispatchDesk$Machine" 122 yy_E_result ∈ zz_tb := zz_w 892 (by decide +kernel) (by decide +kernel)
theorem wd_893 : Cond.instanceMethod yy_E_result ∈ zz_tb := zz_w 893 (by decide +kernel) (by decide +kernel)
theorem wd_894 : Cond.selects "DispatchDesk$Frame" yy_E_result yy_E_result ∈ zz_tb := zz_w 894 (by decide +kernel) (by decide +kernel)
theorem wd_895 : Cond.code yy_E_result prog_4_method_6_code 1 (some FieldType.int) ∈ zz_tb := zz_w 895 (by decide +kernel) (by decide +kernel)
theorem wd_896 : Cond.classLink "DispatchDeskLaw" 60 "DispatchDeskModel" ∈ zz_tb := zz_w 896 (by decide +kernel) (by decide +kernel)
theorem wd_897 : Cond.instantiable "DispatchDeskModel" 46 ∈ zz_tb := zz_w 897 (by decide +kernel) (by decide +kernel)
theorem wd_898 : Cond.methodLink "DispatchDeskLaw" 62 yy_Q_init ∈ zz_tb := zz_w 898 (by decide +kernel) (by decide +kernel)
theorem wd_899 : Cond.instanceMethod yy_Q_init ∈ zz_tb := zz_w 899 (by decide +kernel) (by decide +kernel)
theorem wd_900 : Cond.code yy_Q_init prog_14_method_1_code 1 none ∈ zz_tb := zz_w 900 (by decide +kernel) (by decide +kernel)
theorem wd_901 : Cond.methodLink "DispatchDeskModel" 1 ⟨"java/lang/Object", "<init>", "()V"⟩ ∈ zz_tb := zz_w 901 (by decide +kernel) (by decide +kernel)
theorem wd_902 : Cond.fieldLink "DispatchDeskModel" 121 "DispatchDeskModel" "thrown" "I" ∈ zz_tb := zz_w 902 (by decide +kernel) (by decide +kernel)
theorem wd_903 : Cond.fieldLink "DispatchDeskModel" 7 "DispatchDeskModel" "classes" "I" ∈ zz_tb := zz_w 903 (by decide +kernel) (by decide +kernel)
theorem wd_904 : Cond.fieldLink "DispatchDeskModel" 13 "DispatchDeskModel" "parent" "[I" ∈ zz_tb := zz_w 904 (by decide +kernel) (by decide +kernel)
theorem wd_905 : Cond.fieldLink "DispatchDeskModel" 135 "DispatchDeskModel" "generics" "I" ∈ zz_tb := zz_w 905 (by decide +kernel) (by decide +kernel)
theorem wd_906 : Cond.fieldLink "DispatchDeskModel" 17 "DispatchDeskModel" "arguments" "[I" ∈ zz_tb := zz_w 906 (by decide +kernel) (by decide +kernel)
theorem wd_907 : Cond.fieldLink "DispatchDeskModel" 138 "DispatchDeskModel" "methods" "I" ∈ zz_tb := zz_w 907 (by decide +kernel) (by decide +kernel)
theorem wd_908 : Cond.fieldLink "DispatchDeskModel" 20 "DispatchDeskModel" "of" "[I" ∈ zz_tb := zz_w 908 (by decide +kernel) (by decide +kernel)
theorem wd_909 : Cond.fieldLink "DispatchDeskModel" 23 "DispatchDeskModel" "atoms" "[I" ∈ zz_tb := zz_w 909 (by decide +kernel) (by decide +kernel)
theorem wd_910 : Cond.fieldLink "DispatchDeskModel" 26 "DispatchDeskModel" "kind" "[I" ∈ zz_tb := zz_w 910 (by decide +kernel) (by decide +kernel)
theorem wd_911 : Cond.fieldLink "DispatchDeskModel" 29 "DispatchDeskModel" "which" "[I" ∈ zz_tb := zz_w 911 (by decide +kernel) (by decide +kernel)
theorem wd_912 : Cond.fieldLink "DispatchDeskModel" 32 "DispatchDeskModel" "number" "[I" ∈ zz_tb := zz_w 912 (by decide +kernel) (by decide +kernel)
theorem wd_913 : Cond.fieldLink "DispatchDeskModel" 35 "DispatchDeskModel" "negated" "[Z" ∈ zz_tb := zz_w 913 (by decide +kernel) (by decide +kernel)
theorem wd_914 : Cond.fieldLink "DispatchDeskModel" 39 "DispatchDeskModel" "operations" "[I" ∈ zz_tb := zz_w 914 (by decide +kernel) (by decide +kernel)
theorem wd_915 : Cond.fieldLink "DispatchDeskModel" 42 "DispatchDeskModel" "operation" "[I" ∈ zz_tb := zz_w 915 (by decide +kernel) (by decide +kernel)
theorem wd_916 : Cond.fieldLink "DispatchDeskModel" 45 "DispatchDeskModel" "operand" "[I" ∈ zz_tb := zz_w 916 (by decide +kernel) (by decide +kernel)
theorem wd_917 : Cond.fieldLink "DispatchDeskModel" 48 "DispatchDeskModel" "known" "[Z" ∈ zz_tb := zz_w 917 (by decide +kernel) (by decide +kernel)
theorem wd_918 : Cond.fieldLink "DispatchDeskModel" 51 "DispatchDeskModel" "applicable" "[I" ∈ zz_tb := zz_w 918 (by decide +kernel) (by decide +kernel)
theorem wd_919 : Cond.fieldLink "DispatchDeskModel" 54 "DispatchDeskModel" "beyond" "[I" ∈ zz_tb := zz_w 919 (by decide +kernel) (by decide +kernel)
theorem wd_920 : Cond.fieldLink "DispatchDeskModel" 124 "DispatchDeskModel" "checked" "I" ∈ zz_tb := zz_w 920 (by decide +kernel) (by decide +kernel)
theorem wd_921 : Cond.fieldLink "DispatchDeskModel" 186 "DispatchDeskModel" "first" "I" ∈ zz_tb := zz_w 921 (by decide +kernel) (by decide +kernel)
theorem wd_922 : Cond.fieldLink "DispatchDeskModel" 189 "DispatchDeskModel" "second" "I" ∈ zz_tb := zz_w 922 (by decide +kernel) (by decide +kernel)
theorem wd_923 : Cond.fieldLink "DispatchDeskModel" 57 "DispatchDeskModel" "nodes" "[I" ∈ zz_tb := zz_w 923 (by decide +kernel) (by decide +kernel)
theorem wd_924 : Cond.fieldLink "DispatchDeskModel" 60 "DispatchDeskModel" "test" "[I" ∈ zz_tb := zz_w 924 (by decide +kernel) (by decide +kernel)
theorem wd_925 : Cond.fieldLink "DispatchDeskModel" 63 "DispatchDeskModel" "pass" "[I" ∈ zz_tb := zz_w 925 (by decide +kernel) (by decide +kernel)
theorem wd_926 : Cond.fieldLink "DispatchDeskModel" 66 "DispatchDeskModel" "other" "[I" ∈ zz_tb := zz_w 926 (by decide +kernel) (by decide +kernel)
theorem wd_927 : Cond.fieldLink "DispatchDeskModel" 69 "DispatchDeskModel" "tests" "[I" ∈ zz_tb := zz_w 927 (by decide +kernel) (by decide +kernel)
theorem wd_928 : Cond.fieldLink "DispatchDeskModel" 72 "DispatchDeskModel" "testKind" "[I" ∈ zz_tb := zz_w 928 (by decide +kernel) (by decide +kernel)
theorem wd_929 : Cond.fieldLink "DispatchDeskModel" 75 "DispatchDeskModel" "testWhich" "[I" ∈ zz_tb := zz_w 929 (by decide +kernel) (by decide +kernel)
theorem wd_930 : Cond.fieldLink "DispatchDeskModel" 78 "DispatchDeskModel" "testNumber" "[I" ∈ zz_tb := zz_w 930 (by decide +kernel) (by decide +kernel)
theorem wd_931 : Cond.fieldLink "DispatchDeskModel" 81 "DispatchDeskModel" "passed" "[J" ∈ zz_tb := zz_w 931 (by decide +kernel) (by decide +kernel)
theorem wd_932 : Cond.fieldLink "DispatchDeskModel" 85 "DispatchDeskModel" "mask" "[J" ∈ zz_tb := zz_w 932 (by decide +kernel) (by decide +kernel)
theorem wd_933 : Cond.fieldLink "DispatchDeskModel" 88 "DispatchDeskModel" "value" "[J" ∈ zz_tb := zz_w 933 (by decide +kernel) (by decide +kernel)
theorem wd_934 : Cond.fieldLink "DispatchDeskModel" 91 "DispatchDeskModel" "from" "[I" ∈ zz_tb := zz_w 934 (by decide +kernel) (by decide +kernel)
theorem wd_935 : Cond.fieldLink "DispatchDeskModel" 94 "DispatchDeskModel" "state" "[I" ∈ zz_tb := zz_w 935 (by decide +kernel) (by decide +kernel)
theorem wd_936 : Cond.fieldLink "DispatchDeskModel" 97 "DispatchDeskModel" "parted" "[I" ∈ zz_tb := zz_w 936 (by decide +kernel) (by decide +kernel)
theorem wd_937 : Cond.fieldLink "DispatchDeskModel" 100 "DispatchDeskModel" "passing" "[I" ∈ zz_tb := zz_w 937 (by decide +kernel) (by decide +kernel)
theorem wd_938 : Cond.fieldLink "DispatchDeskModel" 231 "DispatchDeskModel" "deep" "I" ∈ zz_tb := zz_w 938 (by decide +kernel) (by decide +kernel)
theorem wd_939 : Cond.fieldLink "DispatchDeskModel" 103 "DispatchDeskModel" "open" "[I" ∈ zz_tb := zz_w 939 (by decide +kernel) (by decide +kernel)
theorem wd_940 : Cond.fieldLink "DispatchDeskModel" 106 "DispatchDeskModel" "a" "[I" ∈ zz_tb := zz_w 940 (by decide +kernel) (by decide +kernel)
theorem wd_941 : Cond.fieldLink "DispatchDeskModel" 109 "DispatchDeskModel" "b" "[I" ∈ zz_tb := zz_w 941 (by decide +kernel) (by decide +kernel)
theorem wd_942 : Cond.fieldLink "DispatchDeskModel" 112 "DispatchDeskModel" "at" "[I" ∈ zz_tb := zz_w 942 (by decide +kernel) (by decide +kernel)
theorem wd_943 : Cond.fieldLink "DispatchDeskModel" 115 "DispatchDeskModel" "top" "[I" ∈ zz_tb := zz_w 943 (by decide +kernel) (by decide +kernel)
theorem wd_944 : Cond.fieldLink "DispatchDeskModel" 118 "DispatchDeskModel" "stack" "[I" ∈ zz_tb := zz_w 944 (by decide +kernel) (by decide +kernel)
theorem wd_945 : Cond.fieldLink "DispatchDeskModel" 225 "DispatchDeskModel" "fuel" "I" ∈ zz_tb := zz_w 945 (by decide +kernel) (by decide +kernel)
theorem wd_946 : Cond.fieldLink "DispatchDeskModel" 222 "DispatchDeskModel" "through" "I" ∈ zz_tb := zz_w 946 (by decide +kernel) (by decide +kernel)
theorem wd_947 : Cond.fieldLink "DispatchDeskModel" 228 "DispatchDeskModel" "ended" "I" ∈ zz_tb := zz_w 947 (by decide +kernel) (by decide +kernel)
theorem wd_948 : Cond.lays "DispatchDeskModel" "DispatchDeskModel" "thrown" "I" ∈ zz_tb := zz_w 948 (by decide +kernel) (by decide +kernel)
theorem wd_949 : Cond.soleField "DispatchDeskModel" "thrown" ∈ zz_tb := zz_w 949 (by decide +kernel) (by decide +kernel)
theorem wd_950 : Cond.lays "DispatchDeskModel" "DispatchDeskModel" "classes" "I" ∈ zz_tb := zz_w 950 (by decide +kernel) (by decide +kernel)
theorem wd_951 : Cond.soleField "DispatchDeskModel" "classes" ∈ zz_tb := zz_w 951 (by decide +kernel) (by decide +kernel)
theorem wd_952 : Cond.laysFinal "DispatchDeskModel" "DispatchDeskModel" "parent" "[I" ∈ zz_tb := zz_w 952 (by decide +kernel) (by decide +kernel)
theorem wd_953 : Cond.soleField "DispatchDeskModel" "parent" ∈ zz_tb := zz_w 953 (by decide +kernel) (by decide +kernel)
theorem wd_954 : Cond.lays "DispatchDeskModel" "DispatchDeskModel" "generics" "I" ∈ zz_tb := zz_w 954 (by decide +kernel) (by decide +kernel)
theorem wd_955 : Cond.soleField "DispatchDeskModel" "generics" ∈ zz_tb := zz_w 955 (by decide +kernel) (by decide +kernel)
theorem wd_956 : Cond.laysFinal "DispatchDeskModel" "DispatchDeskModel" "arguments" "[I" ∈ zz_tb := zz_w 956 (by decide +kernel) (by decide +kernel)
theorem wd_957 : Cond.soleField "DispatchDeskModel" "arguments" ∈ zz_tb := zz_w 957 (by decide +kernel) (by decide +kernel)
theorem wd_958 : Cond.lays "DispatchDeskModel" "DispatchDeskModel" "methods" "I" ∈ zz_tb := zz_w 958 (by decide +kernel) (by decide +kernel)
theorem wd_959 : Cond.soleField "DispatchDeskModel" "methods" ∈ zz_tb := zz_w 959 (by decide +kernel) (by decide +kernel)
theorem wd_960 : Cond.laysFinal "DispatchDeskModel" "DispatchDeskModel" "of" "[I" ∈ zz_tb := zz_w 960 (by decide +kernel) (by decide +kernel)
theorem wd_961 : Cond.soleField "DispatchDeskModel" "of" ∈ zz_tb := zz_w 961 (by decide +kernel) (by decide +kernel)
theorem wd_962 : Cond.laysFinal "DispatchDeskModel" "DispatchDeskModel" "atoms" "[I" ∈ zz_tb := zz_w 962 (by decide +kernel) (by decide +kernel)
theorem wd_963 : Cond.soleField "DispatchDeskModel" "atoms" ∈ zz_tb := zz_w 963 (by decide +kernel) (by decide +kernel)
theorem wd_964 : Cond.laysFinal "DispatchDeskModel" "DispatchDeskModel" "kind" "[I" ∈ zz_tb := zz_w 964 (by decide +kernel) (by decide +kernel)
theorem wd_965 : Cond.soleField "DispatchDeskModel" "kind" ∈ zz_tb := zz_w 965 (by decide +kernel) (by decide +kernel)
theorem wd_966 : Cond.laysFinal "DispatchDeskModel" "DispatchDeskModel" "which" "[I" ∈ zz_tb := zz_w 966 (by decide +kernel) (by decide +kernel)
theorem wd_967 : Cond.soleField "DispatchDeskModel" "which" ∈ zz_tb := zz_w 967 (by decide +kernel) (by decide +kernel)
theorem wd_968 : Cond.laysFinal "DispatchDeskModel" "DispatchDeskModel" "number" "[I" ∈ zz_tb := zz_w 968 (by decide +kernel) (by decide +kernel)
theorem wd_969 : Cond.soleField "DispatchDeskModel" "number" ∈ zz_tb := zz_w 969 (by decide +kernel) (by decide +kernel)
theorem wd_970 : Cond.laysFinal "DispatchDeskModel" "DispatchDeskModel" "negated" "[Z" ∈ zz_tb := zz_w 970 (by decide +kernel) (by decide +kernel)
theorem wd_971 : Cond.soleField "DispatchDeskModel" "negated" ∈ zz_tb := zz_w 971 (by decide +kernel) (by decide +kernel)
theorem wd_972 : Cond.laysFinal "DispatchDeskModel" "DispatchDeskModel" "operations" "[I" ∈ zz_tb := zz_w 972 (by decide +kernel) (by decide +kernel)
theorem wd_973 : Cond.soleField "DispatchDeskModel" "operations" ∈ zz_tb := zz_w 973 (by decide +kernel) (by decide +kernel)
theorem wd_974 : Cond.laysFinal "DispatchDeskModel" "DispatchDeskModel" "operation" "[I" ∈ zz_tb := zz_w 974 (by decide +kernel) (by decide +kernel)
theorem wd_975 : Cond.soleField "DispatchDeskModel" "operation" ∈ zz_tb := zz_w 975 (by decide +kernel) (by decide +kernel)
theorem wd_976 : Cond.laysFinal "DispatchDeskModel" "DispatchDeskModel" "operand" "[I" ∈ zz_tb := zz_w 976 (by decide +kernel) (by decide +kernel)
theorem wd_977 : Cond.soleField "DispatchDeskModel" "operand" ∈ zz_tb := zz_w 977 (by decide +kernel) (by decide +kernel)
theorem wd_978 : Cond.laysFinal "DispatchDeskModel" "DispatchDeskModel" "known" "[Z" ∈ zz_tb := zz_w 978 (by decide +kernel) (by decide +kernel)
theorem wd_979 : Cond.soleField "DispatchDeskModel" "known" ∈ zz_tb := zz_w 979 (by decide +kernel) (by decide +kernel)
theorem wd_980 : Cond.laysFinal "DispatchDeskModel" "DispatchDeskModel" "applicable" "[I" ∈ zz_tb := zz_w 980 (by decide +kernel) (by decide +kernel)
theorem wd_981 : Cond.soleField "DispatchDeskModel" "applicable" ∈ zz_tb := zz_w 981 (by decide +kernel) (by decide +kernel)
theorem wd_982 : Cond.laysFinal "DispatchDeskModel" "DispatchDeskModel" "beyond" "[I" ∈ zz_tb := zz_w 982 (by decide +kernel) (by decide +kernel)
theorem wd_983 : Cond.soleField "DispatchDeskModel" "beyond" ∈ zz_tb := zz_w 983 (by decide +kernel) (by decide +kernel)
theorem wd_984 : Cond.lays "DispatchDeskModel" "DispatchDeskModel" "checked" "I" ∈ zz_tb := zz_w 984 (by decide +kernel) (by decide +kernel)
theorem wd_985 : Cond.soleField "DispatchDeskModel" "checked" ∈ zz_tb := zz_w 985 (by decide +kernel) (by decide +kernel)
theorem wd_986 : Cond.lays "DispatchDeskModel" "DispatchDeskModel" "first" "I" ∈ zz_tb := zz_w 986 (by decide +kernel) (by decide +kernel)
theorem wd_987 : Cond.soleField "DispatchDeskModel" "first" ∈ zz_tb := zz_w 987 (by decide +kernel) (by decide +kernel)
theorem wd_988 : Cond.lays "DispatchDeskModel" "DispatchDeskModel" "second" "I" ∈ zz_tb := zz_w 988 (by decide +kernel) (by decide +kernel)
theorem wd_989 : Cond.soleField "DispatchDeskModel" "second" ∈ zz_tb := zz_w 989 (by decide +kernel) (by decide +kernel)
theorem wd_990 : Cond.laysFinal "DispatchDeskModel" "DispatchDeskModel" "nodes" "[I" ∈ zz_tb := zz_w 990 (by decide +kernel) (by decide +kernel)
theorem wd_991 : Cond.soleField "DispatchDeskModel" "nodes" ∈ zz_tb := zz_w 991 (by decide +kernel) (by decide +kernel)
theorem wd_992 : Cond.laysFinal "DispatchDeskModel" "DispatchDeskModel" "test" "[I" ∈ zz_tb := zz_w 992 (by decide +kernel) (by decide +kernel)
theorem wd_993 : Cond.soleField "DispatchDeskModel" "test" ∈ zz_tb := zz_w 993 (by decide +kernel) (by decide +kernel)
theorem wd_994 : Cond.laysFinal "DispatchDeskModel" "DispatchDeskModel" "pass" "[I" ∈ zz_tb := zz_w 994 (by decide +kernel) (by decide +kernel)
theorem wd_995 : Cond.soleField "DispatchDeskModel" "pass" ∈ zz_tb := zz_w 995 (by decide +kernel) (by decide +kernel)
theorem wd_996 : Cond.laysFinal "DispatchDeskModel" "DispatchDeskModel" "other" "[I" ∈ zz_tb := zz_w 996 (by decide +kernel) (by decide +kernel)
theorem wd_997 : Cond.soleField "DispatchDeskModel" "other" ∈ zz_tb := zz_w 997 (by decide +kernel) (by decide +kernel)
theorem wd_998 : Cond.laysFinal "DispatchDeskModel" "DispatchDeskModel" "tests" "[I" ∈ zz_tb := zz_w 998 (by decide +kernel) (by decide +kernel)
theorem wd_999 : Cond.soleField "DispatchDeskModel" "tests" ∈ zz_tb := zz_w 999 (by decide +kernel) (by decide +kernel)
theorem wd_1000 : Cond.laysFinal "DispatchDeskModel" "DispatchDeskModel" "testKind" "[I" ∈ zz_tb := zz_w 1000 (by decide +kernel) (by decide +kernel)
theorem wd_1001 : Cond.soleField "DispatchDeskModel" "testKind" ∈ zz_tb := zz_w 1001 (by decide +kernel) (by decide +kernel)
theorem wd_1002 : Cond.laysFinal "DispatchDeskModel" "DispatchDeskModel" "testWhich" "[I" ∈ zz_tb := zz_w 1002 (by decide +kernel) (by decide +kernel)
theorem wd_1003 : Cond.soleField "DispatchDeskModel" "testWhich" ∈ zz_tb := zz_w 1003 (by decide +kernel) (by decide +kernel)
theorem wd_1004 : Cond.laysFinal "DispatchDeskModel" "DispatchDeskModel" "testNumber" "[I" ∈ zz_tb := zz_w 1004 (by decide +kernel) (by decide +kernel)
theorem wd_1005 : Cond.soleField "DispatchDeskModel" "testNumber" ∈ zz_tb := zz_w 1005 (by decide +kernel) (by decide +kernel)
theorem wd_1006 : Cond.laysFinal "DispatchDeskModel" "DispatchDeskModel" "passed" "[J" ∈ zz_tb := zz_w 1006 (by decide +kernel) (by decide +kernel)
theorem wd_1007 : Cond.soleField "DispatchDeskModel" "passed" ∈ zz_tb := zz_w 1007 (by decide +kernel) (by decide +kernel)
theorem wd_1008 : Cond.laysFinal "DispatchDeskModel" "DispatchDeskModel" "mask" "[J" ∈ zz_tb := zz_w 1008 (by decide +kernel) (by decide +kernel)
theorem wd_1009 : Cond.soleField "DispatchDeskModel" "mask" ∈ zz_tb := zz_w 1009 (by decide +kernel) (by decide +kernel)
theorem wd_1010 : Cond.laysFinal "DispatchDeskModel" "DispatchDeskModel" "value" "[J" ∈ zz_tb := zz_w 1010 (by decide +kernel) (by decide +kernel)
theorem wd_1011 : Cond.soleField "DispatchDeskModel" "value" ∈ zz_tb := zz_w 1011 (by decide +kernel) (by decide +kernel)
theorem wd_1012 : Cond.laysFinal "DispatchDeskModel" "DispatchDeskModel" "from" "[I" ∈ zz_tb := zz_w 1012 (by decide +kernel) (by decide +kernel)
theorem wd_1013 : Cond.soleField "DispatchDeskModel" "from" ∈ zz_tb := zz_w 1013 (by decide +kernel) (by decide +kernel)
theorem wd_1014 : Cond.laysFinal "DispatchDeskModel" "DispatchDeskModel" "state" "[I" ∈ zz_tb := zz_w 1014 (by decide +kernel) (by decide +kernel)
theorem wd_1015 : Cond.soleField "DispatchDeskModel" "state" ∈ zz_tb := zz_w 1015 (by decide +kernel) (by decide +kernel)
theorem wd_1016 : Cond.laysFinal "DispatchDeskModel" "DispatchDeskModel" "parted" "[I" ∈ zz_tb := zz_w 1016 (by decide +kernel) (by decide +kernel)
theorem wd_1017 : Cond.soleField "DispatchDeskModel" "parted" ∈ zz_tb := zz_w 1017 (by decide +kernel) (by decide +kernel)
theorem wd_1018 : Cond.laysFinal "DispatchDeskModel" "DispatchDeskModel" "passing" "[I" ∈ zz_tb := zz_w 1018 (by decide +kernel) (by decide +kernel)
theorem wd_1019 : Cond.soleField "DispatchDeskModel" "passing" ∈ zz_tb := zz_w 1019 (by decide +kernel) (by decide +kernel)
theorem wd_1020 : Cond.lays "DispatchDeskModel" "DispatchDeskModel" "deep" "I" ∈ zz_tb := zz_w 1020 (by decide +kernel) (by decide +kernel)
theorem wd_1021 : Cond.soleField "DispatchDeskModel" "deep" ∈ zz_tb := zz_w 1021 (by decide +kernel) (by decide +kernel)
theorem wd_1022 : Cond.laysFinal "DispatchDeskModel" "DispatchDeskModel" "open" "[I" ∈ zz_tb := zz_w 1022 (by decide +kernel) (by decide +kernel)
theorem wd_1023 : Cond.soleField "DispatchDeskModel" "open" ∈ zz_tb := zz_w 1023 (by decide +kernel) (by decide +kernel)
theorem wd_1024 : Cond.laysFinal "DispatchDeskModel" "DispatchDeskModel" "a" "[I" ∈ zz_tb := zz_w 1024 (by decide +kernel) (by decide +kernel)
theorem wd_1025 : Cond.soleField "DispatchDeskModel" "a" ∈ zz_tb := zz_w 1025 (by decide +kernel) (by decide +kernel)
theorem wd_1026 : Cond.laysFinal "DispatchDeskModel" "DispatchDeskModel" "b" "[I" ∈ zz_tb := zz_w 1026 (by decide +kernel) (by decide +kernel)
theorem wd_1027 : Cond.soleField "DispatchDeskModel" "b" ∈ zz_tb := zz_w 1027 (by decide +kernel) (by decide +kernel)
theorem wd_1028 : Cond.laysFinal "DispatchDeskModel" "DispatchDeskModel" "at" "[I" ∈ zz_tb := zz_w 1028 (by decide +kernel) (by decide +kernel)
theorem wd_1029 : Cond.soleField "DispatchDeskModel" "at" ∈ zz_tb := zz_w 1029 (by decide +kernel) (by decide +kernel)
theorem wd_1030 : Cond.laysFinal "DispatchDeskModel" "DispatchDeskModel" "top" "[I" ∈ zz_tb := zz_w 1030 (by decide +kernel) (by decide +kernel)
theorem wd_1031 : Cond.soleField "DispatchDeskModel" "top" ∈ zz_tb := zz_w 1031 (by decide +kernel) (by decide +kernel)
theorem wd_1032 : Cond.laysFinal "DispatchDeskModel" "DispatchDeskModel" "stack" "[I" ∈ zz_tb := zz_w 1032 (by decide +kernel) (by decide +kernel)
theorem wd_1033 : Cond.soleField "DispatchDeskModel" "stack" ∈ zz_tb := zz_w 1033 (by decide +kernel) (by decide +kernel)
theorem wd_1034 : Cond.lays "DispatchDeskModel" "DispatchDeskModel" "fuel" "I" ∈ zz_tb := zz_w 1034 (by decide +kernel) (by decide +kernel)
theorem wd_1035 : Cond.soleField "DispatchDeskModel" "fuel" ∈ zz_tb := zz_w 1035 (by decide +kernel) (by decide +kernel)
theorem wd_1036 : Cond.lays "DispatchDeskModel" "DispatchDeskModel" "through" "I" ∈ zz_tb := zz_w 1036 (by decide +kernel) (by decide +kernel)
theorem wd_1037 : Cond.soleField "DispatchDeskModel" "through" ∈ zz_tb := zz_w 1037 (by decide +kernel) (by decide +kernel)
theorem wd_1038 : Cond.lays "DispatchDeskModel" "DispatchDeskModel" "ended" "I" ∈ zz_tb := zz_w 1038 (by decide +kernel) (by decide +kernel)
theorem wd_1039 : Cond.soleField "DispatchDeskModel" "ended" ∈ zz_tb := zz_w 1039 (by decide +kernel) (by decide +kernel)
theorem wd_1040 : Cond.superclass "DispatchDeskModel" "java/lang/Object" ∈ zz_tb := zz_w 1040 (by decide +kernel) (by decide +kernel)
theorem wd_1041 : Cond.arrayClass FieldType.boolean ∈ zz_tb := zz_w 1041 (by decide +kernel) (by decide +kernel)
theorem wd_1042 : Cond.methodLink "DispatchDeskLaw" 69 yy_Q_thrown ∈ zz_tb := zz_w 1042 (by decide +kernel) (by decide +kernel)
theorem wd_1043 : Cond.instanceMethod yy_Q_thrown ∈ zz_tb := zz_w 1043 (by decide +kernel) (by decide +kernel)
theorem wd_1044 : Cond.selects "DispatchDeskModel" yy_Q_thrown yy_Q_thrown ∈ zz_tb := zz_w 1044 (by decide +kernel) (by decide +kernel)
theorem wd_1045 : Cond.code yy_Q_thrown prog_14_method_2_code 1 (some FieldType.int) ∈ zz_tb := zz_w 1045 (by decide +kernel) (by decide +kernel)
theorem wd_1046 : Cond.methodLink "DispatchDeskLaw" 68 yy_Q_klass ∈ zz_tb := zz_w 1046 (by decide +kernel) (by decide +kernel)
theorem wd_1047 : Cond.instanceMethod yy_Q_klass ∈ zz_tb := zz_w 1047 (by decide +kernel) (by decide +kernel)
theorem wd_1048 : Cond.selects "DispatchDeskModel" yy_Q_klass yy_Q_klass ∈ zz_tb := zz_w 1048 (by decide +kernel) (by decide +kernel)
theorem wd_1049 : Cond.code yy_Q_klass prog_14_method_6_code 3 (some FieldType.int) ∈ zz_tb := zz_w 1049 (by decide +kernel) (by decide +kernel)
theorem wd_1050 : Cond.methodLink "DispatchDeskModel" 127 yy_Q_in ∈ zz_tb := zz_w 1050 (by decide +kernel) (by decide +kernel)
theorem wd_1051 : Cond.static yy_Q_in ∈ zz_tb := zz_w 1051 (by decide +kernel) (by decide +kernel)
theorem wd_1052 : Cond.code yy_Q_in prog_14_method_3_code 3 (some FieldType.boolean) ∈ zz_tb := zz_w 1052 (by decide +kernel) (by decide +kernel)
theorem wd_1053 : Cond.methodLink "DispatchDeskModel" 131 yy_Q_forget ∈ zz_tb := zz_w 1053 (by decide +kernel) (by decide +kernel)
theorem wd_1054 : Cond.privateMethod yy_Q_forget ∈ zz_tb := zz_w 1054 (by decide +kernel) (by decide +kernel)
theorem wd_1055 : Cond.instanceMethod yy_Q_forget ∈ zz_tb := zz_w 1055 (by decide +kernel) (by decide +kernel)
theorem wd_1056 : Cond.code yy_Q_forget prog_14_method_5_code 2 none ∈ zz_tb := zz_w 1056 (by decide +kernel) (by decide +kernel)
theorem wd_1057 : Cond.methodLink "DispatchDeskLaw" 75 yy_Q_generic ∈ zz_tb := zz_w 1057 (by decide +kernel) (by decide +kernel)
theorem wd_1058 : Cond.instanceMethod yy_Q_generic ∈ zz_tb := zz_w 1058 (by decide +kernel) (by decide +kernel)
theorem wd_1059 : Cond.selects "DispatchDeskModel" yy_Q_generic yy_Q_generic ∈ zz_tb := zz_w 1059 (by decide +kernel) (by decide +kernel)
theorem wd_1060 : Cond.code yy_Q_generic prog_14_method_7_code 2 (some FieldType.int) ∈ zz_tb := zz_w 1060 (by decide +kernel) (by decide +kernel)
theorem wd_1061 : Cond.methodLink "DispatchDeskLaw" 78 yy_Q_method ∈ zz_tb := zz_w 1061 (by decide +kernel) (by decide +kernel)
theorem wd_1062 : Cond.instanceMethod yy_Q_method ∈ zz_tb := zz_w 1062 (by decide +kernel) (by decide +kernel)
theorem wd_1063 : Cond.selects "DispatchDeskModel" yy_Q_method yy_Q_method ∈ zz_tb := zz_w 1063 (by decide +kernel) (by decide +kernel)
theorem wd_1064 : Cond.code yy_Q_method prog_14_method_8_code 2 (some FieldType.int) ∈ zz_tb := zz_w 1064 (by decide +kernel) (by decide +kernel)
theorem wd_1065 : Cond.methodLink "DispatchDeskLaw" 82 yy_Q_atom ∈ zz_tb := zz_w 1065 (by decide +kernel) (by decide +kernel)
theorem wd_1066 : Cond.instanceMethod yy_Q_atom ∈ zz_tb := zz_w 1066 (by decide +kernel) (by decide +kernel)
theorem wd_1067 : Cond.selects "DispatchDeskModel" yy_Q_atom yy_Q_atom ∈ zz_tb := zz_w 1067 (by decide +kernel) (by decide +kernel)
theorem wd_1068 : Cond.code yy_Q_atom prog_14_method_9_code 9 (some FieldType.int) ∈ zz_tb := zz_w 1068 (by decide +kernel) (by decide +kernel)
theorem wd_1069 : Cond.methodLink "DispatchDeskLaw" 86 yy_Q_operation ∈ zz_tb := zz_w 1069 (by decide +kernel) (by decide +kernel)
theorem wd_1070 : Cond.instanceMethod yy_Q_operation ∈ zz_tb := zz_w 1070 (by decide +kernel) (by decide +kernel)
theorem wd_1071 : Cond.selects "DispatchDeskModel" yy_Q_operation yy_Q_operation ∈ zz_tb := zz_w 1071 (by decide +kernel) (by decide +kernel)
theorem wd_1072 : Cond.code yy_Q_operation prog_14_method_10_code 5 (some FieldType.int) ∈ zz_tb := zz_w 1072 (by decide +kernel) (by decide +kernel)
theorem wd_1073 : Cond.methodLink "DispatchDeskLaw" 90 yy_Q_beyond ∈ zz_tb := zz_w 1073 (by decide +kernel) (by decide +kernel)
theorem wd_1074 : Cond.instanceMethod yy_Q_beyond ∈ zz_tb := zz_w 1074 (by decide +kernel) (by decide +kernel)
theorem wd_1075 : Cond.selects "DispatchDeskModel" yy_Q_beyond yy_Q_beyond ∈ zz_tb := zz_w 1075 (by decide +kernel) (by decide +kernel)
theorem wd_1076 : Cond.code yy_Q_beyond prog_14_method_24_code 4 (some FieldType.boolean) ∈ zz_tb := zz_w 1076 (by decide +kernel) (by decide +kernel)
theorem wd_1077 : Cond.methodLink "DispatchDeskModel" 173 yy_Q_know ∈ zz_tb := zz_w 1077 (by decide +kernel) (by decide +kernel)
theorem wd_1078 : Cond.privateMethod yy_Q_know ∈ zz_tb := zz_w 1078 (by decide +kernel) (by decide +kernel)
theorem wd_1079 : Cond.instanceMethod yy_Q_know ∈ zz_tb := zz_w 1079 (by decide +kernel) (by decide +kernel)
theorem wd_1080 : Cond.code yy_Q_know prog_14_method_20_code 5 none ∈ zz_tb := zz_w 1080 (by decide +kernel) (by decide +kernel)
theorem wd_1081 : Cond.methodLink "DispatchDeskModel" 153 yy_Q_rows ∈ zz_tb := zz_w 1081 (by decide +kernel) (by decide +kernel)
theorem wd_1082 : Cond.privateMethod yy_Q_rows ∈ zz_tb := zz_w 1082 (by decide +kernel) (by decide +kernel)
theorem wd_1083 : Cond.instanceMethod yy_Q_rows ∈ zz_tb := zz_w 1083 (by decide +kernel) (by decide +kernel)
theorem wd_1084 : Cond.code yy_Q_rows prog_14_method_12_code 2 (some FieldType.int) ∈ zz_tb := zz_w 1084 (by decide +kernel) (by decide +kernel)
theorem wd_1085 : Cond.methodLink "DispatchDeskModel" 141 yy_Q_values ∈ zz_tb := zz_w 1085 (by decide +kernel) (by decide +kernel)
theorem wd_1086 : Cond.privateMethod yy_Q_values ∈ zz_tb := zz_w 1086 (by decide +kernel) (by decide +kernel)
theorem wd_1087 : Cond.instanceMethod yy_Q_values ∈ zz_tb := zz_w 1087 (by decide +kernel) (by decide +kernel)
theorem wd_1088 : Cond.code yy_Q_values prog_14_method_11_code 1 (some FieldType.int) ∈ zz_tb := zz_w 1088 (by decide +kernel) (by decide +kernel)
theorem wd_1089 : Cond.methodLink "DispatchDeskModel" 157 yy_Q_firstOf ∈ zz_tb := zz_w 1089 (by decide +kernel) (by decide +kernel)
theorem wd_1090 : Cond.privateMethod yy_Q_firstOf ∈ zz_tb := zz_w 1090 (by decide +kernel) (by decide +kernel)
theorem wd_1091 : Cond.instanceMethod yy_Q_firstOf ∈ zz_tb := zz_w 1091 (by decide +kernel) (by decide +kernel)
theorem wd_1092 : Cond.code yy_Q_firstOf prog_14_method_14_code 3 (some FieldType.int) ∈ zz_tb := zz_w 1092 (by decide +kernel) (by decide +kernel)
theorem wd_1093 : Cond.methodLink "DispatchDeskModel" 161 yy_Q_secondOf ∈ zz_tb := zz_w 1093 (by decide +kernel) (by decide +kernel)
theorem wd_1094 : Cond.privateMethod yy_Q_secondOf ∈ zz_tb := zz_w 1094 (by decide +kernel) (by decide +kernel)
theorem wd_1095 : Cond.instanceMethod yy_Q_secondOf ∈ zz_tb := zz_w 1095 (by decide +kernel) (by decide +kernel)
theorem wd_1096 : Cond.code yy_Q_secondOf prog_14_method_15_code 3 (some FieldType.int) ∈ zz_tb := zz_w 1096 (by decide +kernel) (by decide +kernel)
theorem wd_1097 : Cond.methodLink "DispatchDeskModel" 164 yy_Q_applies ∈ zz_tb := zz_w 1097 (by decide +kernel) (by decide +kernel)
theorem wd_1098 : Cond.privateMethod yy_Q_applies ∈ zz_tb := zz_w 1098 (by decide +kernel) (by decide +kernel)
theorem wd_1099 : Cond.instanceMethod yy_Q_applies ∈ zz_tb := zz_w 1099 (by decide +kernel) (by decide +kernel)
theorem wd_1100 : Cond.code yy_Q_applies prog_14_method_18_code 6 (some FieldType.boolean) ∈ zz_tb := zz_w 1100 (by decide +kernel) (by decide +kernel)
theorem wd_1101 : Cond.methodLink "DispatchDeskModel" 149 yy_Q_holds ∈ zz_tb := zz_w 1101 (by decide +kernel) (by decide +kernel)
theorem wd_1102 : Cond.privateMethod yy_Q_holds ∈ zz_tb := zz_w 1102 (by decide +kernel) (by decide +kernel)
theorem wd_1103 : Cond.instanceMethod yy_Q_holds ∈ zz_tb := zz_w 1103 (by decide +kernel) (by decide +kernel)
theorem wd_1104 : Cond.code yy_Q_holds prog_14_method_17_code 8 (some FieldType.boolean) ∈ zz_tb := zz_w 1104 (by decide +kernel) (by decide +kernel)
theorem wd_1105 : Cond.methodLink "DispatchDeskModel" 145 yy_Q_isClass ∈ zz_tb := zz_w 1105 (by decide +kernel) (by decide +kernel)
theorem wd_1106 : Cond.privateMethod yy_Q_isClass ∈ zz_tb := zz_w 1106 (by decide +kernel) (by decide +kernel)
theorem wd_1107 : Cond.instanceMethod yy_Q_isClass ∈ zz_tb := zz_w 1107 (by decide +kernel) (by decide +kernel)
theorem wd_1108 : Cond.code yy_Q_isClass prog_14_method_16_code 5 (some FieldType.boolean) ∈ zz_tb := zz_w 1108 (by decide +kernel) (by decide +kernel)
theorem wd_1109 : Cond.methodLink "DispatchDeskModel" 167 yy_Q_parts ∈ zz_tb := zz_w 1109 (by decide +kernel) (by decide +kernel)
theorem wd_1110 : Cond.privateMethod yy_Q_parts ∈ zz_tb := zz_w 1110 (by decide +kernel) (by decide +kernel)
theorem wd_1111 : Cond.instanceMethod yy_Q_parts ∈ zz_tb := zz_w 1111 (by decide +kernel) (by decide +kernel)
theorem wd_1112 : Cond.code yy_Q_parts prog_14_method_19_code 6 (some FieldType.boolean) ∈ zz_tb := zz_w 1112 (by decide +kernel) (by decide +kernel)
theorem wd_1113 : Cond.methodLink "DispatchDeskLaw" 93 yy_Q_best ∈ zz_tb := zz_w 1113 (by decide +kernel) (by decide +kernel)
theorem wd_1114 : Cond.instanceMethod yy_Q_best ∈ zz_tb := zz_w 1114 (by decide +kernel) (by decide +kernel)
theorem wd_1115 : Cond.selects "DispatchDeskModel" yy_Q_best yy_Q_best ∈ zz_tb := zz_w 1115 (by decide +kernel) (by decide +kernel)
theorem wd_1116 : Cond.code yy_Q_best prog_14_method_25_code 4 (some FieldType.int) ∈ zz_tb := zz_w 1116 (by decide +kernel) (by decide +kernel)
theorem wd_1117 : Cond.methodLink "DispatchDeskModel" 176 yy_Q_isRow ∈ zz_tb := zz_w 1117 (by decide +kernel) (by decide +kernel)
theorem wd_1118 : Cond.privateMethod yy_Q_isRow ∈ zz_tb := zz_w 1118 (by decide +kernel) (by decide +kernel)
theorem wd_1119 : Cond.instanceMethod yy_Q_isRow ∈ zz_tb := zz_w 1119 (by decide +kernel) (by decide +kernel)
theorem wd_1120 : Cond.code yy_Q_isRow prog_14_method_23_code 4 (some FieldType.boolean) ∈ zz_tb := zz_w 1120 (by decide +kernel) (by decide +kernel)
theorem wd_1121 : Cond.methodLink "DispatchDeskModel" 179 yy_Q_row ∈ zz_tb := zz_w 1121 (by decide +kernel) (by decide +kernel)
theorem wd_1122 : Cond.privateMethod yy_Q_row ∈ zz_tb := zz_w 1122 (by decide +kernel) (by decide +kernel)
theorem wd_1123 : Cond.instanceMethod yy_Q_row ∈ zz_tb := zz_w 1123 (by decide +kernel) (by decide +kernel)
theorem wd_1124 : Cond.code yy_Q_row prog_14_method_13_code 4 (some FieldType.int) ∈ zz_tb := zz_w 1124 (by decide +kernel) (by decide +kernel)
theorem wd_1125 : Cond.methodLink "DispatchDeskModel" 183 yy_Q_bestAt ∈ zz_tb := zz_w 1125 (by decide +kernel) (by decide +kernel)
theorem wd_1126 : Cond.privateMethod yy_Q_bestAt ∈ zz_tb := zz_w 1126 (by decide +kernel) (by decide +kernel)
theorem wd_1127 : Cond.instanceMethod yy_Q_bestAt ∈ zz_tb := zz_w 1127 (by decide +kernel) (by decide +kernel)
theorem wd_1128 : Cond.code yy_Q_bestAt prog_14_method_22_code 3 (some FieldType.int) ∈ zz_tb := zz_w 1128 (by decide +kernel) (by decide +kernel)
theorem wd_1129 : Cond.methodLink "DispatchDeskModel" 170 yy_Q_firstMethod ∈ zz_tb := zz_w 1129 (by decide +kernel) (by decide +kernel)
theorem wd_1130 : Cond.privateMethod yy_Q_firstMethod ∈ zz_tb := zz_w 1130 (by decide +kernel) (by decide +kernel)
theorem wd_1131 : Cond.instanceMethod yy_Q_firstMethod ∈ zz_tb := zz_w 1131 (by decide +kernel) (by decide +kernel)
theorem wd_1132 : Cond.code yy_Q_firstMethod prog_14_method_21_code 5 (some FieldType.int) ∈ zz_tb := zz_w 1132 (by decide +kernel) (by decide +kernel)
theorem wd_1133 : Cond.methodLink "DispatchDeskLaw" 96 yy_Q_check ∈ zz_tb := zz_w 1133 (by decide +kernel) (by decide +kernel)
theorem wd_1134 : Cond.instanceMethod yy_Q_check ∈ zz_tb := zz_w 1134 (by decide +kernel) (by decide +kernel)
theorem wd_1135 : Cond.selects "DispatchDeskModel" yy_Q_check yy_Q_check ∈ zz_tb := zz_w 1135 (by decide +kernel) (by decide +kernel)
theorem wd_1136 : Cond.code yy_Q_check prog_14_method_26_code 4 (some FieldType.int) ∈ zz_tb := zz_w 1136 (by decide +kernel) (by decide +kernel)
theorem wd_1137 : Cond.methodLink "DispatchDeskLaw" 99 yy_Q_witness ∈ zz_tb := zz_w 1137 (by decide +kernel) (by decide +kernel)
theorem wd_1138 : Cond.instanceMethod yy_Q_witness ∈ zz_tb := zz_w 1138 (by decide +kernel) (by decide +kernel)
theorem wd_1139 : Cond.selects "DispatchDeskModel" yy_Q_witness yy_Q_witness ∈ zz_tb := zz_w 1139 (by decide +kernel) (by decide +kernel)
theorem wd_1140 : Cond.code yy_Q_witness prog_14_method_27_code 2 (some FieldType.int) ∈ zz_tb := zz_w 1140 (by decide +kernel) (by decide +kernel)
theorem wd_1141 : Cond.methodLink "DispatchDeskLaw" 102 yy_Q_compile ∈ zz_tb := zz_w 1141 (by decide +kernel) (by decide +kernel)
theorem wd_1142 : Cond.instanceMethod yy_Q_compile ∈ zz_tb := zz_w 1142 (by decide +kernel) (by decide +kernel)
theorem wd_1143 : Cond.selects "DispatchDeskModel" yy_Q_compile yy_Q_compile ∈ zz_tb := zz_w 1143 (by decide +kernel) (by decide +kernel)
theorem wd_1144 : Cond.code yy_Q_compile prog_14_method_36_code 2 (some FieldType.int) ∈ zz_tb := zz_w 1144 (by decide +kernel) (by decide +kernel)
theorem wd_1145 : Cond.methodLink "DispatchDeskModel" 212 yy_Q_gather ∈ zz_tb := zz_w 1145 (by decide +kernel) (by decide +kernel)
theorem wd_1146 : Cond.privateMethod yy_Q_gather ∈ zz_tb := zz_w 1146 (by decide +kernel) (by decide +kernel)
theorem wd_1147 : Cond.instanceMethod yy_Q_gather ∈ zz_tb := zz_w 1147 (by decide +kernel) (by decide +kernel)
theorem wd_1148 : Cond.code yy_Q_gather prog_14_method_29_code 5 none ∈ zz_tb := zz_w 1148 (by decide +kernel) (by decide +kernel)
theorem wd_1149 : Cond.methodLink "DispatchDeskModel" 192 yy_Q_hasTest ∈ zz_tb := zz_w 1149 (by decide +kernel) (by decide +kernel)
theorem wd_1150 : Cond.privateMethod yy_Q_hasTest ∈ zz_tb := zz_w 1150 (by decide +kernel) (by decide +kernel)
theorem wd_1151 : Cond.instanceMethod yy_Q_hasTest ∈ zz_tb := zz_w 1151 (by decide +kernel) (by decide +kernel)
theorem wd_1152 : Cond.code yy_Q_hasTest prog_14_method_28_code 4 (some FieldType.boolean) ∈ zz_tb := zz_w 1152 (by decide +kernel) (by decide +kernel)
theorem wd_1153 : Cond.methodLink "DispatchDeskModel" 215 yy_Q_build ∈ zz_tb := zz_w 1153 (by decide +kernel) (by decide +kernel)
theorem wd_1154 : Cond.privateMethod yy_Q_build ∈ zz_tb := zz_w 1154 (by decide +kernel) (by decide +kernel)
theorem wd_1155 : Cond.instanceMethod yy_Q_build ∈ zz_tb := zz_w 1155 (by decide +kernel) (by decide +kernel)
theorem wd_1156 : Cond.code yy_Q_build prog_14_method_35_code 7 (some FieldType.boolean) ∈ zz_tb := zz_w 1156 (by decide +kernel) (by decide +kernel)
theorem wd_1157 : Cond.methodLink "DispatchDeskModel" 198 yy_Q_begin ∈ zz_tb := zz_w 1157 (by decide +kernel) (by decide +kernel)
theorem wd_1158 : Cond.privateMethod yy_Q_begin ∈ zz_tb := zz_w 1158 (by decide +kernel) (by decide +kernel)
theorem wd_1159 : Cond.instanceMethod yy_Q_begin ∈ zz_tb := zz_w 1159 (by decide +kernel) (by decide +kernel)
theorem wd_1160 : Cond.code yy_Q_begin prog_14_method_34_code 7 none ∈ zz_tb := zz_w 1160 (by decide +kernel) (by decide +kernel)
theorem wd_1161 : Cond.methodLink "DispatchDeskModel" 202 yy_Q_common ∈ zz_tb := zz_w 1161 (by decide +kernel) (by decide +kernel)
theorem wd_1162 : Cond.privateMethod yy_Q_common ∈ zz_tb := zz_w 1162 (by decide +kernel) (by decide +kernel)
theorem wd_1163 : Cond.instanceMethod yy_Q_common ∈ zz_tb := zz_w 1163 (by decide +kernel) (by decide +kernel)
theorem wd_1164 : Cond.code yy_Q_common prog_14_method_32_code 6 (some FieldType.int) ∈ zz_tb := zz_w 1164 (by decide +kernel) (by decide +kernel)
theorem wd_1165 : Cond.methodLink "DispatchDeskModel" 195 yy_Q_inTree ∈ zz_tb := zz_w 1165 (by decide +kernel) (by decide +kernel)
theorem wd_1166 : Cond.privateMethod yy_Q_inTree ∈ zz_tb := zz_w 1166 (by decide +kernel) (by decide +kernel)
theorem wd_1167 : Cond.instanceMethod yy_Q_inTree ∈ zz_tb := zz_w 1167 (by decide +kernel) (by decide +kernel)
theorem wd_1168 : Cond.code yy_Q_inTree prog_14_method_31_code 3 (some FieldType.boolean) ∈ zz_tb := zz_w 1168 (by decide +kernel) (by decide +kernel)
theorem wd_1169 : Cond.methodLink "DispatchDeskModel" 205 yy_Q_made ∈ zz_tb := zz_w 1169 (by decide +kernel) (by decide +kernel)
theorem wd_1170 : Cond.privateMethod yy_Q_made ∈ zz_tb := zz_w 1170 (by decide +kernel) (by decide +kernel)
theorem wd_1171 : Cond.instanceMethod yy_Q_made ∈ zz_tb := zz_w 1171 (by decide +kernel) (by decide +kernel)
theorem wd_1172 : Cond.code yy_Q_made prog_14_method_30_code 6 (some FieldType.int) ∈ zz_tb := zz_w 1172 (by decide +kernel) (by decide +kernel)
theorem wd_1173 : Cond.methodLink "DispatchDeskModel" 209 yy_Q_partingTest ∈ zz_tb := zz_w 1173 (by decide +kernel) (by decide +kernel)
theorem wd_1174 : Cond.privateMethod yy_Q_partingTest ∈ zz_tb := zz_w 1174 (by decide +kernel) (by decide +kernel)
theorem wd_1175 : Cond.instanceMethod yy_Q_partingTest ∈ zz_tb := zz_w 1175 (by decide +kernel) (by decide +kernel)
theorem wd_1176 : Cond.code yy_Q_partingTest prog_14_method_33_code 7 (some FieldType.int) ∈ zz_tb := zz_w 1176 (by decide +kernel) (by decide +kernel)
theorem wd_1177 : Cond.methodLink "DispatchDeskModel" 219 yy_Q_fail ∈ zz_tb := zz_w 1177 (by decide +kernel) (by decide +kernel)
theorem wd_1178 : Cond.privateMethod yy_Q_fail ∈ zz_tb := zz_w 1178 (by decide +kernel) (by decide +kernel)
theorem wd_1179 : Cond.instanceMethod yy_Q_fail ∈ zz_tb := zz_w 1179 (by decide +kernel) (by decide +kernel)
theorem wd_1180 : Cond.code yy_Q_fail prog_14_method_4_code 2 (some FieldType.int) ∈ zz_tb := zz_w 1180 (by decide +kernel) (by decide +kernel)
theorem wd_1181 : Cond.methodLink "DispatchDeskLaw" 105 yy_Q_node ∈ zz_tb := zz_w 1181 (by decide +kernel) (by decide +kernel)
theorem wd_1182 : Cond.instanceMethod yy_Q_node ∈ zz_tb := zz_w 1182 (by decide +kernel) (by decide +kernel)
theorem wd_1183 : Cond.selects "DispatchDeskModel" yy_Q_node yy_Q_node ∈ zz_tb := zz_w 1183 (by decide +kernel) (by decide +kernel)
theorem wd_1184 : Cond.code yy_Q_node prog_14_method_37_code 6 (some FieldType.int) ∈ zz_tb := zz_w 1184 (by decide +kernel) (by decide +kernel)
theorem wd_1185 : Cond.methodLink "DispatchDeskLaw" 108 yy_Q_test ∈ zz_tb := zz_w 1185 (by decide +kernel) (by decide +kernel)
theorem wd_1186 : Cond.instanceMethod yy_Q_test ∈ zz_tb := zz_w 1186 (by decide +kernel) (by decide +kernel)
theorem wd_1187 : Cond.selects "DispatchDeskModel" yy_Q_test yy_Q_test ∈ zz_tb := zz_w 1187 (by decide +kernel) (by decide +kernel)
theorem wd_1188 : Cond.code yy_Q_test prog_14_method_38_code 6 (some FieldType.int) ∈ zz_tb := zz_w 1188 (by decide +kernel) (by decide +kernel)
theorem wd_1189 : Cond.methodLink "DispatchDeskLaw" 112 yy_Q_run ∈ zz_tb := zz_w 1189 (by decide +kernel) (by decide +kernel)
theorem wd_1190 : Cond.instanceMethod yy_Q_run ∈ zz_tb := zz_w 1190 (by decide +kernel) (by decide +kernel)
theorem wd_1191 : Cond.selects "DispatchDeskModel" yy_Q_run yy_Q_run ∈ zz_tb := zz_w 1191 (by decide +kernel) (by decide +kernel)
theorem wd_1192 : Cond.code yy_Q_run prog_14_method_44_code 8 (some FieldType.int) ∈ zz_tb := zz_w 1192 (by decide +kernel) (by decide +kernel)
theorem wd_1193 : Cond.methodLink "DispatchDeskModel" 245 yy_Q_call ∈ zz_tb := zz_w 1193 (by decide +kernel) (by decide +kernel)
theorem wd_1194 : Cond.privateMethod yy_Q_call ∈ zz_tb := zz_w 1194 (by decide +kernel) (by decide +kernel)
theorem wd_1195 : Cond.instanceMethod yy_Q_call ∈ zz_tb := zz_w 1195 (by decide +kernel) (by decide +kernel)
theorem wd_1196 : Cond.code yy_Q_call prog_14_method_41_code 6 none ∈ zz_tb := zz_w 1196 (by decide +kernel) (by decide +kernel)
theorem wd_1197 : Cond.methodLink "DispatchDeskModel" 234 yy_Q_spends ∈ zz_tb := zz_w 1197 (by decide +kernel) (by decide +kernel)
theorem wd_1198 : Cond.privateMethod yy_Q_spends ∈ zz_tb := zz_w 1198 (by decide +kernel) (by decide +kernel)
theorem wd_1199 : Cond.instanceMethod yy_Q_spends ∈ zz_tb := zz_w 1199 (by decide +kernel) (by decide +kernel)
theorem wd_1200 : Cond.code yy_Q_spends prog_14_method_40_code 1 (some FieldType.boolean) ∈ zz_tb := zz_w 1200 (by decide +kernel) (by decide +kernel)
theorem wd_1201 : Cond.methodLink "DispatchDeskModel" 238 yy_Q_choose ∈ zz_tb := zz_w 1201 (by decide +kernel) (by decide +kernel)
theorem wd_1202 : Cond.privateMethod yy_Q_choose ∈ zz_tb := zz_w 1202 (by decide +kernel) (by decide +kernel)
theorem wd_1203 : Cond.instanceMethod yy_Q_choose ∈ zz_tb := zz_w 1203 (by decide +kernel) (by decide +kernel)
theorem wd_1204 : Cond.code yy_Q_choose prog_14_method_39_code 6 (some FieldType.int) ∈ zz_tb := zz_w 1204 (by decide +kernel) (by decide +kernel)
theorem wd_1205 : Cond.methodLink "DispatchDeskModel" 249 yy_Q_perform ∈ zz_tb := zz_w 1205 (by decide +kernel) (by decide +kernel)
theorem wd_1206 : Cond.privateMethod yy_Q_perform ∈ zz_tb := zz_w 1206 (by decide +kernel) (by decide +kernel)
theorem wd_1207 : Cond.instanceMethod yy_Q_perform ∈ zz_tb := zz_w 1207 (by decide +kernel) (by decide +kernel)
theorem wd_1208 : Cond.code yy_Q_perform prog_14_method_43_code 9 none ∈ zz_tb := zz_w 1208 (by decide +kernel) (by decide +kernel)
theorem wd_1209 : Cond.methodLink "DispatchDeskModel" 241 yy_Q_push ∈ zz_tb := zz_w 1209 (by decide +kernel) (by decide +kernel)
theorem wd_1210 : Cond.privateMethod yy_Q_push ∈ zz_tb := zz_w 1210 (by decide +kernel) (by decide +kernel)
theorem wd_1211 : Cond.instanceMethod yy_Q_push ∈ zz_tb := zz_w 1211 (by decide +kernel) (by decide +kernel)
theorem wd_1212 : Cond.code yy_Q_push prog_14_method_42_code 3 none ∈ zz_tb := zz_w 1212 (by decide +kernel) (by decide +kernel)
theorem wd_1213 : Cond.methodLink "DispatchDeskLaw" 116 yy_Q_left ∈ zz_tb := zz_w 1213 (by decide +kernel) (by decide +kernel)
theorem wd_1214 : Cond.instanceMethod yy_Q_left ∈ zz_tb := zz_w 1214 (by decide +kernel) (by decide +kernel)
theorem wd_1215 : Cond.selects "DispatchDeskModel" yy_Q_left yy_Q_left ∈ zz_tb := zz_w 1215 (by decide +kernel) (by decide +kernel)
theorem wd_1216 : Cond.code yy_Q_left prog_14_method_45_code 1 (some FieldType.int) ∈ zz_tb := zz_w 1216 (by decide +kernel) (by decide +kernel)
theorem wd_1217 : Cond.methodLink "DispatchDeskLaw" 120 yy_Q_tests ∈ zz_tb := zz_w 1217 (by decide +kernel) (by decide +kernel)
theorem wd_1218 : Cond.instanceMethod yy_Q_tests ∈ zz_tb := zz_w 1218 (by decide +kernel) (by decide +kernel)
theorem wd_1219 : Cond.selects "DispatchDeskModel" yy_Q_tests yy_Q_tests ∈ zz_tb := zz_w 1219 (by decide +kernel) (by decide +kernel)
theorem wd_1220 : Cond.code yy_Q_tests prog_14_method_46_code 1 (some FieldType.int) ∈ zz_tb := zz_w 1220 (by decide +kernel) (by decide +kernel)
theorem wd_1221 : Cond.sameMethod "java/lang/Throwable" "java/lang/Throwable" "fillInStackTrace" "(I)Ljava/lang/Throwable;" ∈ zz_tb := zz_w 1221 (by decide +kernel) (by decide +kernel)
end
section
section AC
variable {D : va_G} {dA : Nat → ClassId} {B : Nat} {X : State → Heap → Prop} {p : Program} {l : Launch} {e : Env} {R : Room} {s : State} {m : MethodId} {args : Array Value} {below : List Frame} {meth : Method} {c : Code} {Q : State → Prop} {h : zz_H} {n cells slots : Nat} {L : List (Option Value)} {cc : ByteArray} {pc : Nat} {rest : List Value} {nm : String} {ret : Option FieldType}
variable {ρ : Type} {mk : ρ → Option Value} {post : ρ → zz_H → Nat → Prop} {px : String → zz_H → Nat → Prop}
theorem in_D : ∀ w ∈ u_ws RR_D FF_D 10, w ∈ zz_tb := List.forall_mem_cons.mpr ⟨wd_120, List.forall_mem_cons.mpr ⟨wd_122, List.forall_mem_cons.mpr ⟨wd_124, List.forall_mem_cons.mpr ⟨wd_126, List.forall_mem_cons.mpr ⟨wd_128, List.forall_mem_cons.mpr ⟨wd_130, List.forall_mem_cons.mpr ⟨wd_132, List.forall_mem_cons.mpr ⟨wd_134, List.forall_mem_cons.mpr ⟨wd_136, List.forall_mem_cons.mpr ⟨wd_138, fun _ h => absurd h List.not_mem_nil⟩⟩⟩⟩⟩⟩⟩⟩⟩⟩
theorem in_H : ∀ w ∈ u_ws RR_H FF_H 2, w ∈ zz_tb := List.forall_mem_cons.mpr ⟨wd_39, List.forall_mem_cons.mpr ⟨wd_41, fun _ h => absurd h List.not_mem_nil⟩⟩
theorem in_A : ∀ w ∈ u_ws RR_A FF_A 4, w ∈ zz_tb := List.forall_mem_cons.mpr ⟨wd_476, List.forall_mem_cons.mpr ⟨wd_478, List.forall_mem_cons.mpr ⟨wd_480, List.forall_mem_cons.mpr ⟨wd_482, fun _ h => absurd h List.not_mem_nil⟩⟩⟩⟩
theorem in_O : ∀ w ∈ u_ws RR_O FF_O 2, w ∈ zz_tb := List.forall_mem_cons.mpr ⟨wd_510, List.forall_mem_cons.mpr ⟨wd_512, fun _ h => absurd h List.not_mem_nil⟩⟩
theorem in_M : ∀ w ∈ u_ws RR_M FF_M 10, w ∈ zz_tb := List.forall_mem_cons.mpr ⟨wd_409, List.forall_mem_cons.mpr ⟨wd_411, List.forall_mem_cons.mpr ⟨wd_413, List.forall_mem_cons.mpr ⟨wd_415, List.forall_mem_cons.mpr ⟨wd_417, List.forall_mem_cons.mpr ⟨wd_419, List.forall_mem_cons.mpr ⟨wd_421, List.forall_mem_cons.mpr ⟨wd_423, List.forall_mem_cons.mpr ⟨wd_425, List.forall_mem_cons.mpr ⟨wd_427, fun _ h => absurd h List.not_mem_nil⟩⟩⟩⟩⟩⟩⟩⟩⟩⟩
theorem in_F : ∀ w ∈ u_ws RR_F FF_F 7, w ∈ zz_tb := List.forall_mem_cons.mpr ⟨wd_311, List.forall_mem_cons.mpr ⟨wd_313, List.forall_mem_cons.mpr ⟨wd_315, List.forall_mem_cons.mpr ⟨wd_317, List.forall_mem_cons.mpr ⟨wd_319, List.forall_mem_cons.mpr ⟨wd_321, List.forall_mem_cons.mpr ⟨wd_323, fun _ h => absurd h List.not_mem_nil⟩⟩⟩⟩⟩⟩⟩
theorem in_G : ∀ w ∈ u_ws RR_G FF_G 11, w ∈ zz_tb := List.forall_mem_cons.mpr ⟨wd_345, List.forall_mem_cons.mpr ⟨wd_347, List.forall_mem_cons.mpr ⟨wd_349, List.forall_mem_cons.mpr ⟨wd_351, List.forall_mem_cons.mpr ⟨wd_353, List.forall_mem_cons.mpr ⟨wd_355, List.forall_mem_cons.mpr ⟨wd_357, List.forall_mem_cons.mpr ⟨wd_359, List.forall_mem_cons.mpr ⟨wd_361, List.forall_mem_cons.mpr ⟨wd_363, List.forall_mem_cons.mpr ⟨wd_365, fun _ h => absurd h List.not_mem_nil⟩⟩⟩⟩⟩⟩⟩⟩⟩⟩⟩
theorem in_R : ∀ w ∈ u_ws RR_R FF_R 4, w ∈ zz_tb := List.forall_mem_cons.mpr ⟨wd_286, List.forall_mem_cons.mpr ⟨wd_288, List.forall_mem_cons.mpr ⟨wd_290, List.forall_mem_cons.mpr ⟨wd_292, fun _ h => absurd h List.not_mem_nil⟩⟩⟩⟩
theorem in_B : ∀ w ∈ u_ws RR_B FF_B 1, w ∈ zz_tb := List.forall_mem_cons.mpr ⟨wd_56, fun _ h => absurd h List.not_mem_nil⟩
theorem in_E : ∀ w ∈ u_ws RR_E FF_E 5, w ∈ zz_tb := List.forall_mem_cons.mpr ⟨wd_81, List.forall_mem_cons.mpr ⟨wd_83, List.forall_mem_cons.mpr ⟨wd_85, List.forall_mem_cons.mpr ⟨wd_87, List.forall_mem_cons.mpr ⟨wd_89, fun _ h => absurd h List.not_mem_nil⟩⟩⟩⟩⟩
theorem in_N : ∀ w ∈ u_ws RR_N FF_N 5, w ∈ zz_tb := List.forall_mem_cons.mpr ⟨wd_99, List.forall_mem_cons.mpr ⟨wd_101, List.forall_mem_cons.mpr ⟨wd_103, List.forall_mem_cons.mpr ⟨wd_105, List.forall_mem_cons.mpr ⟨wd_107, fun _ h => absurd h List.not_mem_nil⟩⟩⟩⟩⟩
theorem in_Q : ∀ w ∈ u_ws RR_Q FF_Q 46, w ∈ zz_tb := List.forall_mem_cons.mpr ⟨wd_948, List.forall_mem_cons.mpr ⟨wd_950, List.forall_mem_cons.mpr ⟨wd_952, List.forall_mem_cons.mpr ⟨wd_954, List.forall_mem_cons.mpr ⟨wd_956, List.forall_mem_cons.mpr ⟨wd_958, List.forall_mem_cons.mpr ⟨wd_960, List.forall_mem_cons.mpr ⟨wd_962, List.forall_mem_cons.mpr ⟨wd_964, List.forall_mem_cons.mpr ⟨wd_966, List.forall_mem_cons.mpr ⟨wd_968, List.forall_mem_cons.mpr ⟨wd_970, List.forall_mem_cons.mpr ⟨wd_972, List.forall_mem_cons.mpr ⟨wd_974, List.forall_mem_cons.mpr ⟨wd_976, List.forall_mem_cons.mpr ⟨wd_978, List.forall_mem_cons.mpr ⟨wd_980, List.forall_mem_cons.mpr ⟨wd_982, List.forall_mem_cons.mpr ⟨wd_984, List.forall_mem_cons.mpr ⟨wd_986, List.forall_mem_cons.mpr ⟨wd_988, List.forall_mem_cons.mpr ⟨wd_990, List.forall_mem_cons.mpr ⟨wd_992, List.forall_mem_cons.mpr ⟨wd_994, List.forall_mem_cons.mpr ⟨wd_996, List.forall_mem_cons.mpr ⟨wd_998, List.forall_mem_cons.mpr ⟨wd_1000, List.forall_mem_cons.mpr ⟨wd_1002, List.forall_mem_cons.mpr ⟨wd_1004, List.forall_mem_cons.mpr ⟨wd_1006, List.forall_mem_cons.mpr ⟨wd_1008, List.forall_mem_cons.mpr ⟨wd_1010, List.forall_mem_cons.mpr ⟨wd_1012, List.forall_mem_cons.mpr ⟨wd_1014, List.forall_mem_cons.mpr ⟨wd_1016, List.forall_mem_cons.mpr ⟨wd_1018, List.forall_mem_cons.mpr ⟨wd_1020, List.forall_mem_cons.mpr ⟨wd_1022, List.forall_mem_cons.mpr ⟨wd_1024, List.forall_mem_cons.mpr ⟨wd_1026, List.forall_mem_cons.mpr ⟨wd_1028, List.forall_mem_cons.mpr ⟨wd_1030, List.forall_mem_cons.mpr ⟨wd_1032, List.forall_mem_cons.mpr ⟨wd_1034, List.forall_mem_cons.mpr ⟨wd_1036, List.forall_mem_cons.mpr ⟨wd_1038, fun _ h => absurd h List.not_mem_nil⟩⟩⟩⟩⟩⟩⟩⟩⟩⟩⟩⟩⟩⟩⟩⟩⟩⟩⟩⟩⟩⟩⟩⟩⟩⟩⟩⟩⟩⟩⟩⟩⟩⟩⟩⟩⟩⟩⟩⟩⟩⟩⟩⟩⟩⟩
theorem gf_A_7 (C : zz_C D zz_cl (zz_ty dA) B zz_tb X p s m args meth c cc RR_A ret nm) {a : Nat} {fs : List Value} {v : Value} (d : decode cc pc = .ok (.getfield 7, 3)) (hh : h a = some (.inr (2, fs))) (hv : fs[0]? = some v) (k9 : zz_W D zz_cl B p l e R s m args below meth c Q h n cells slots L (pc + 3) (v :: rest)) : zz_W D zz_cl B p l e R s m args below meth c Q h n cells slots L pc (.ref a :: rest) := z_get (k := 0) C rfl in_A (by decide) wd_472 rfl d hh hv k9
theorem gf_A_13 (C : zz_C D zz_cl (zz_ty dA) B zz_tb X p s m args meth c cc RR_A ret nm) {a : Nat} {fs : List Value} {v : Value} (d : decode cc pc = .ok (.getfield 13, 3)) (hh : h a = some (.inr (2, fs))) (hv : fs[1]? = some v) (k9 : zz_W D zz_cl B p l e R s m args below meth c Q h n cells slots L (pc + 3) (v :: rest)) : zz_W D zz_cl B p l e R s m args below meth c Q h n cells slots L pc (.ref a :: rest) := z_get (k := 1) C rfl in_A (by decide) wd_473 rfl d hh hv k9
theorem gf_A_16 (C : zz_C D zz_cl (zz_ty dA) B zz_tb X p s m args meth c cc RR_A ret nm) {a : Nat} {fs : List Value} {v : Value} (d : decode cc pc = .ok (.getfield 16, 3)) (hh : h a = some (.inr (2, fs))) (hv : fs[2]? = some v) (k9 : zz_W D zz_cl B p l e R s m args below meth c Q h n cells slots L (pc + 3) (v :: rest)) : zz_W D zz_cl B p l e R s m args below meth c Q h n cells slots L pc (.ref a :: rest) := z_get (k := 2) C rfl in_A (by decide) wd_474 rfl d hh hv k9
theorem gf_A_19 (C : zz_C D zz_cl (zz_ty dA) B zz_tb X p s m args meth c cc RR_A ret nm) {a : Nat} {fs : List Value} {v : Value} (d : decode cc pc = .ok (.getfield 19, 3)) (hh : h a = some (.inr (2, fs))) (hv : fs[3]? = some v) (k9 : zz_W D zz_cl B p l e R s m args below meth c Q h n cells slots L (pc + 3) (v :: rest)) : zz_W D zz_cl B p l e R s m args below meth c Q h n cells slots L pc (.ref a :: rest) := z_get (k := 3) C rfl in_A (by decide) wd_475 rfl d hh hv k9
theorem ii_A_23 (F : zz_F B zz_tb X) (C : zz_C D zz_cl (zz_ty dA) B zz_tb X p s m args meth c cc RR_A ret nm) {rm : Room} {As st0 : List Value} {sk : ρ → List Value} {b : Nat} (d : decode cc pc = .ok (.invokespecial 23, 3)) (hM : zz_M l D zz_cl (zz_ty dA) B zz_tb X yy_A_init (Cond.code yy_A_init prog_2_method_1_code 5 none) rm (.ref b :: As) h n mk post) (hn : As.length = 4) (hst : st0 = As.reverse ++ .ref b :: rest) (hR : rm.frames + 1 ≤ R.frames ∧ 8 + (5 + 11) + rm.locals ≤ R.locals) (hW : (rest.map fun v => v.category).sum ≤ 8) (hf : cells + rm.cells ≤ R.cells ∧ slots + rm.slots ≤ R.slots) (hsk : ∀ r, (mk r).toList ++ rest = sk r) (kk : ∀ (r : ρ) (h' : zz_H) (n' : Nat), post r h' n' → zz_W D zz_cl B p l e R s m args below meth c Q h' n' (cells + rm.cells) (slots + rm.slots) L (pc + 3) (sk r)) : zz_W D zz_cl B p l e R s m args below meth c Q h n cells slots L pc st0 :=
  z_callI F C wd_467 wd_18 wd_465 wd_466 rfl ⟨by decide, by decide, by decide +kernel⟩ d hM hn hst hR hW hf hsk kk
theorem is_A_26 (F : zz_F B zz_tb X) (C : zz_C D zz_cl (zz_ty dA) B zz_tb X p s m args meth c cc RR_A ret nm) {rm : Room} {As st0 : List Value} {sk : ρ → List Value} (d : decode cc pc = .ok (.invokestatic 26, 3)) (hM : zz_M l D zz_cl (zz_ty dA) B zz_tb X yy_V_numberOf (Cond.code yy_V_numberOf prog_12_method_5_code 1 (some FieldType.int)) rm As h n mk post) (hn : As.length = 1) (hst : st0 = As.reverse ++ rest) (hR : rm.frames + 1 ≤ R.frames ∧ 8 + (1 + 11) + rm.locals ≤ R.locals) (hW : (rest.map fun v => v.category).sum ≤ 8) (hf : cells + rm.cells ≤ R.cells ∧ slots + rm.slots ≤ R.slots) (hsk : ∀ r, (mk r).toList ++ rest = sk r) (kk : ∀ (r : ρ) (h' : zz_H) (n' : Nat), post r h' n' → zz_W D zz_cl B p l e R s m args below meth c Q h' n' (cells + rm.cells) (slots + rm.slots) L (pc + 3) (sk r)) : zz_W D zz_cl B p l e R s m args below meth c Q h n cells slots L pc st0 :=
  z_callS F C wd_569 wd_16 wd_567 wd_568 ⟨by decide, by decide, by decide +kernel⟩ d hM hn hst hR hW hf hsk kk
theorem is_A_32 (F : zz_F B zz_tb X) (C : zz_C D zz_cl (zz_ty dA) B zz_tb X p s m args meth c cc RR_A ret nm) {rm : Room} {As st0 : List Value} {sk : ρ → List Value} (d : decode cc pc = .ok (.invokestatic 32, 3)) (hM : zz_M l D zz_cl (zz_ty dA) B zz_tb X yy_V_classOf (Cond.code yy_V_classOf prog_12_method_4_code 1 (some FieldType.int)) rm As h n mk post) (hn : As.length = 1) (hst : st0 = As.reverse ++ rest) (hR : rm.frames + 1 ≤ R.frames ∧ 8 + (1 + 11) + rm.locals ≤ R.locals) (hW : (rest.map fun v => v.category).sum ≤ 8) (hf : cells + rm.cells ≤ R.cells ∧ slots + rm.slots ≤ R.slots) (hsk : ∀ r, (mk r).toList ++ rest = sk r) (kk : ∀ (r : ρ) (h' : zz_H) (n' : Nat), post r h' n' → zz_W D zz_cl B p l e R s m args below meth c Q h' n' (cells + rm.cells) (slots + rm.slots) L (pc + 3) (sk r)) : zz_W D zz_cl B p l e R s m args below meth c Q h n cells slots L pc st0 :=
  z_callS F C wd_572 wd_16 wd_570 wd_571 ⟨by decide, by decide, by decide +kernel⟩ d hM hn hst hR hW hf hsk kk
theorem iv_A_35 (F : zz_F B zz_tb X) (C : zz_C D zz_cl (zz_ty dA) B zz_tb X p s m args meth c cc RR_A ret nm) {rm : Room} {As st0 : List Value} {sk : ρ → List Value} {b : Nat} {fs : List Value} (d : decode cc pc = .ok (.invokevirtual 35, 3)) (hM : zz_M l D zz_cl (zz_ty dA) B zz_tb X yy_H_is (Cond.code yy_H_is prog_8_method_5_code 3 (some FieldType.boolean)) rm (.ref b :: As) h n mk post) (hh : h b = some (.inr (1, fs))) (hn : As.length = 2) (hst : st0 = As.reverse ++ .ref b :: rest) (hR : rm.frames + 1 ≤ R.frames ∧ 8 + (3 + 11) + rm.locals ≤ R.locals) (hW : (rest.map fun v => v.category).sum ≤ 8) (hf : cells + rm.cells ≤ R.cells ∧ slots + rm.slots ≤ R.slots) (hsk : ∀ r, (mk r).toList ++ rest = sk r) (kk : ∀ (r : ρ) (h' : zz_H) (n' : Nat), post r h' n' → zz_W D zz_cl B p l e R s m args below meth c Q h' n' (cells + rm.cells) (slots + rm.slots) L (pc + 3) (sk r)) : zz_W D zz_cl B p l e R s m args below meth c Q h n cells slots L pc st0 :=
  z_callV F C wd_576 wd_2 wd_573 wd_574 wd_575 ⟨by decide, by decide, by decide +kernel⟩ rfl rfl d hM hh hn hst hR hW hf hsk kk
theorem nw_A_8 (C : zz_C D zz_cl (zz_ty dA) B zz_tb X p s m args meth c cc RR_A ret nm) (d : decode cc pc = .ok (.new 8, 3)) (hcl : cells + 1 ≤ R.cells) (hsl : slots + 4 ≤ R.slots) (k9 : zz_W D zz_cl B p l e R s m args below meth c Q (zz_up h n (.inr (2, [.int 0, .int 0, .int 0, .int 0]))) (n + 1) (cells + 1) (slots + 4) L (pc + 3) (.ref n :: rest)) : zz_W D zz_cl B p l e R s m args below meth c Q h n cells slots L pc rest := z_new C tt_A (ci := 2) rfl in_A tk_A wd_463 wd_464 wd_18 (by decide +kernel) d hcl hsl k9
theorem pf_A_7 (C : zz_C D zz_cl (zz_ty dA) B zz_tb X p s m args meth c cc RR_A ret "<init>") {a : Nat} {fs : List Value} {v : Value} (d : decode cc pc = .ok (.putfield 7, 3)) (hh : h a = some (.inr (2, fs))) (hl : 0 < fs.length) (hn : narrow (.int) v = v) (hf : fits (.int) v = true) (k9 : zz_W D zz_cl B p l e R s m args below meth c Q (zz_up h a (.inr (2, fs.set 0 v))) n cells slots L (pc + 3) rest) : zz_W D zz_cl B p l e R s m args below meth c Q h n cells slots L pc (v :: .ref a :: rest) := z_putF (ty := .int) (k := 0) C tt_A rfl in_A tk_A nn_A (by decide) wd_472 rfl rfl rfl rfl (by decide +kernel) d hh hl hn hf k9
theorem pf_A_13 (C : zz_C D zz_cl (zz_ty dA) B zz_tb X p s m args meth c cc RR_A ret "<init>") {a : Nat} {fs : List Value} {v : Value} (d : decode cc pc = .ok (.putfield 13, 3)) (hh : h a = some (.inr (2, fs))) (hl : 1 < fs.length) (hn : narrow (.int) v = v) (hf : fits (.int) v = true) (k9 : zz_W D zz_cl B p l e R s m args below meth c Q (zz_up h a (.inr (2, fs.set 1 v))) n cells slots L (pc + 3) rest) : zz_W D zz_cl B p l e R s m args below meth c Q h n cells slots L pc (v :: .ref a :: rest) := z_putF (ty := .int) (k := 1) C tt_A rfl in_A tk_A nn_A (by decide) wd_473 rfl rfl rfl rfl (by decide +kernel) d hh hl hn hf k9
theorem pf_A_16 (C : zz_C D zz_cl (zz_ty dA) B zz_tb X p s m args meth c cc RR_A ret "<init>") {a : Nat} {fs : List Value} {v : Value} (d : decode cc pc = .ok (.putfield 16, 3)) (hh : h a = some (.inr (2, fs))) (hl : 2 < fs.length) (hn : narrow (.int) v = v) (hf : fits (.int) v = true) (k9 : zz_W D zz_cl B p l e R s m args below meth c Q (zz_up h a (.inr (2, fs.set 2 v))) n cells slots L (pc + 3) rest) : zz_W D zz_cl B p l e R s m args below meth c Q h n cells slots L pc (v :: .ref a :: rest) := z_putF (ty := .int) (k := 2) C tt_A rfl in_A tk_A nn_A (by decide) wd_474 rfl rfl rfl rfl (by decide +kernel) d hh hl hn hf k9
theorem pf_A_19 (C : zz_C D zz_cl (zz_ty dA) B zz_tb X p s m args meth c cc RR_A ret "<init>") {a : Nat} {fs : List Value} {v : Value} (d : decode cc pc = .ok (.putfield 19, 3)) (hh : h a = some (.inr (2, fs))) (hl : 3 < fs.length) (hn : narrow (.boolean) v = v) (hf : fits (.boolean) v = true) (k9 : zz_W D zz_cl B p l e R s m args below meth c Q (zz_up h a (.inr (2, fs.set 3 v))) n cells slots L (pc + 3) rest) : zz_W D zz_cl B p l e R s m args below meth c Q h n cells slots L pc (v :: .ref a :: rest) := z_putF (ty := .boolean) (k := 3) C tt_A rfl in_A tk_A nn_A (by decide) wd_475 rfl rfl rfl rfl (by decide +kernel) d hh hl hn hf k9
theorem gf_B_13 (C : zz_C D zz_cl (zz_ty dA) B zz_tb X p s m args meth c cc RR_B ret nm) {a : Nat} {fs : List Value} {v : Value} (d : decode cc pc = .ok (.getfield 13, 3)) (hh : h a = some (.inr (8, fs))) (hv : fs[0]? = some v) (k9 : zz_W D zz_cl B p l e R s m args below meth c Q h n cells slots L (pc + 3) (v :: rest)) : zz_W D zz_cl B p l e R s m args below meth c Q h n cells slots L pc (.ref a :: rest) := z_get (k := 0) C rfl in_B (by decide) wd_55 rfl d hh hv k9
theorem gf_B_19 (C : zz_C D zz_cl (zz_ty dA) B zz_tb X p s m args meth c cc RR_B ret nm) {a : Nat} {fs : List Value} {v : Value} (d : decode cc pc = .ok (.getfield 19, 3)) (hh : h a = some (.inr (6, fs))) (hv : fs[2]? = some v) (k9 : zz_W D zz_cl B p l e R s m args below meth c Q h n cells slots L (pc + 3) (v :: rest)) : zz_W D zz_cl B p l e R s m args below meth c Q h n cells slots L pc (.ref a :: rest) := z_get (k := 2) C rfl in_G (by decide) wd_334 rfl d hh hv k9
theorem gf_B_45 (C : zz_C D zz_cl (zz_ty dA) B zz_tb X p s m args meth c cc RR_B ret nm) {a : Nat} {fs : List Value} {v : Value} (d : decode cc pc = .ok (.getfield 45, 3)) (hh : h a = some (.inr (6, fs))) (hv : fs[1]? = some v) (k9 : zz_W D zz_cl B p l e R s m args below meth c Q h n cells slots L (pc + 3) (v :: rest)) : zz_W D zz_cl B p l e R s m args below meth c Q h n cells slots L pc (.ref a :: rest) := z_get (k := 1) C rfl in_G (by decide) wd_331 rfl d hh hv k9
theorem oi_B_5 (C : zz_C D zz_cl (zz_ty dA) B zz_tb X p s m args meth c cc RR_B ret nm) {a : Nat} (d : decode cc pc = .ok (.invokespecial 5, 3)) (hfr : 1 ≤ R.frames) (hlo : (rest.map fun v => v.category).sum + 12 ≤ R.locals) (k9 : zz_W D zz_cl B p l e R s m args below meth c Q h n cells slots L (pc + 3) rest) : zz_W D zz_cl B p l e R s m args below meth c Q h n cells slots L pc (.ref a :: rest) := z_objInit C wd_54 wd_29 wd_30 d hfr hlo k9
theorem iv_B_25 (F : zz_F B zz_tb X) (C : zz_C D zz_cl (zz_ty dA) B zz_tb X p s m args meth c cc RR_B ret nm) {rm : Room} {As st0 : List Value} {sk : ρ → List Value} {b : Nat} {fs : List Value} (d : decode cc pc = .ok (.invokevirtual 25, 3)) (hM : zz_M l D zz_cl (zz_ty dA) B zz_tb X yy_R_clear (Cond.code yy_R_clear prog_6_method_2_code 1 none) rm (.ref b :: As) h n mk post) (hh : h b = some (.inr (7, fs))) (hn : As.length = 0) (hst : st0 = As.reverse ++ .ref b :: rest) (hR : rm.frames + 1 ≤ R.frames ∧ 8 + (1 + 11) + rm.locals ≤ R.locals) (hW : (rest.map fun v => v.category).sum ≤ 8) (hf : cells + rm.cells ≤ R.cells ∧ slots + rm.slots ≤ R.slots) (hsk : ∀ r, (mk r).toList ++ rest = sk r) (kk : ∀ (r : ρ) (h' : zz_H) (n' : Nat), post r h' n' → zz_W D zz_cl B p l e R s m args below meth c Q h' n' (cells + rm.cells) (slots + rm.slots) L (pc + 3) (sk r)) : zz_W D zz_cl B p l e R s m args below meth c Q h n cells slots L pc st0 :=
  z_callV F C wd_257 wd_13 wd_701 wd_255 wd_256 ⟨by decide, by decide, by decide +kernel⟩ rfl rfl d hM hh hn hst hR hW hf hsk kk
theorem iv_B_30 (F : zz_F B zz_tb X) (C : zz_C D zz_cl (zz_ty dA) B zz_tb X p s m args meth c cc RR_B ret nm) {rm : Room} {As st0 : List Value} {sk : ρ → List Value} {b : Nat} {fs : List Value} (d : decode cc pc = .ok (.invokevirtual 30, 3)) (hM : zz_M l D zz_cl (zz_ty dA) B zz_tb X yy_B_gather (Cond.code yy_B_gather prog_7_method_3_code 9 (some FieldType.int)) rm (.ref b :: As) h n mk post) (hh : h b = some (.inr (8, fs))) (hn : As.length = 1) (hst : st0 = As.reverse ++ .ref b :: rest) (hR : rm.frames + 1 ≤ R.frames ∧ 8 + (9 + 11) + rm.locals ≤ R.locals) (hW : (rest.map fun v => v.category).sum ≤ 8) (hf : cells + rm.cells ≤ R.cells ∧ slots + rm.slots ≤ R.slots) (hsk : ∀ r, (mk r).toList ++ rest = sk r) (kk : ∀ (r : ρ) (h' : zz_H) (n' : Nat), post r h' n' → zz_W D zz_cl B p l e R s m args below meth c Q h' n' (cells + rm.cells) (slots + rm.slots) L (pc + 3) (sk r)) : zz_W D zz_cl B p l e R s m args below meth c Q h n cells slots L pc st0 :=
  z_callV F C wd_705 wd_3 wd_702 wd_704 (zz_wp (y := yy_B_gather) (k := 1) (by decide +kernel) (by decide +kernel)) ⟨by decide, by decide, by decide +kernel⟩ rfl rfl d hM hh hn hst hR hW hf hsk kk
theorem iv_B_34 (F : zz_F B zz_tb X) (C : zz_C D zz_cl (zz_ty dA) B zz_tb X p s m args meth c cc RR_B ret nm) {rm : Room} {As st0 : List Value} {sk : ρ → List Value} {b : Nat} {fs : List Value} (d : decode cc pc = .ok (.invokevirtual 34, 3)) (hM : zz_M l D zz_cl (zz_ty dA) B zz_tb X yy_B_treeFor (Cond.code yy_B_treeFor prog_7_method_4_code 11 (some FieldType.int)) rm (.ref b :: As) h n mk post) (hh : h b = some (.inr (8, fs))) (hn : As.length = 4) (hst : st0 = As.reverse ++ .ref b :: rest) (hR : rm.frames + 1 ≤ R.frames ∧ 8 + (11 + 11) + rm.locals ≤ R.locals) (hW : (rest.map fun v => v.category).sum ≤ 8) (hf : cells + rm.cells ≤ R.cells ∧ slots + rm.slots ≤ R.slots) (hsk : ∀ r, (mk r).toList ++ rest = sk r) (kk : ∀ (r : ρ) (h' : zz_H) (n' : Nat), post r h' n' → zz_W D zz_cl B p l e R s m args below meth c Q h' n' (cells + rm.cells) (slots + rm.slots) L (pc + 3) (sk r)) : zz_W D zz_cl B p l e R s m args below meth c Q h n cells slots L pc st0 :=
  z_callV F C wd_713 wd_3 wd_710 wd_712 (zz_wp (y := yy_B_treeFor) (k := 1) (by decide +kernel) (by decide +kernel)) ⟨by decide, by decide, by decide +kernel⟩ rfl rfl d hM hh hn hst hR hW hf hsk kk
theorem iv_B_38 (F : zz_F B zz_tb X) (C : zz_C D zz_cl (zz_ty dA) B zz_tb X p s m args meth c cc RR_B ret nm) {rm : Room} {As st0 : List Value} {sk : ρ → List Value} {b : Nat} {fs : List Value} (d : decode cc pc = .ok (.invokevirtual 38, 3)) (hM : zz_M l D zz_cl (zz_ty dA) B zz_tb X yy_G_firstCount (Cond.code yy_G_firstCount prog_5_method_4_code 1 (some FieldType.int)) rm (.ref b :: As) h n mk post) (hh : h b = some (.inr (6, fs))) (hn : As.length = 0) (hst : st0 = As.reverse ++ .ref b :: rest) (hR : rm.frames + 1 ≤ R.frames ∧ 8 + (1 + 11) + rm.locals ≤ R.locals) (hW : (rest.map fun v => v.category).sum ≤ 8) (hf : cells + rm.cells ≤ R.cells ∧ slots + rm.slots ≤ R.slots) (hsk : ∀ r, (mk r).toList ++ rest = sk r) (kk : ∀ (r : ρ) (h' : zz_H) (n' : Nat), post r h' n' → zz_W D zz_cl B p l e R s m args below meth c Q h' n' (cells + rm.cells) (slots + rm.slots) L (pc + 3) (sk r)) : zz_W D zz_cl B p l e R s m args below meth c Q h n cells slots L pc st0 :=
  z_callV F C wd_589 wd_12 wd_706 wd_587 wd_588 ⟨by decide, by decide, by decide +kernel⟩ rfl rfl d hM hh hn hst hR hW hf hsk kk
theorem iv_B_42 (F : zz_F B zz_tb X) (C : zz_C D zz_cl (zz_ty dA) B zz_tb X p s m args meth c cc RR_B ret nm) {rm : Room} {As st0 : List Value} {sk : ρ → List Value} {b : Nat} {fs : List Value} (d : decode cc pc = .ok (.invokevirtual 42, 3)) (hM : zz_M l D zz_cl (zz_ty dA) B zz_tb X yy_G_secondCount (Cond.code yy_G_secondCount prog_5_method_5_code 1 (some FieldType.int)) rm (.ref b :: As) h n mk post) (hh : h b = some (.inr (6, fs))) (hn : As.length = 0) (hst : st0 = As.reverse ++ .ref b :: rest) (hR : rm.frames + 1 ≤ R.frames ∧ 8 + (1 + 11) + rm.locals ≤ R.locals) (hW : (rest.map fun v => v.category).sum ≤ 8) (hf : cells + rm.cells ≤ R.cells ∧ slots + rm.slots ≤ R.slots) (hsk : ∀ r, (mk r).toList ++ rest = sk r) (kk : ∀ (r : ρ) (h' : zz_H) (n' : Nat), post r h' n' → zz_W D zz_cl B p l e R s m args below meth c Q h' n' (cells + rm.cells) (slots + rm.slots) L (pc + 3) (sk r)) : zz_W D zz_cl B p l e R s m args below meth c Q h n cells slots L pc st0 :=
  z_callV F C wd_594 wd_12 wd_707 wd_592 wd_593 ⟨by decide, by decide, by decide +kernel⟩ rfl rfl d hM hh hn hst hR hW hf hsk kk
theorem iv_B_49 (F : zz_F B zz_tb X) (C : zz_C D zz_cl (zz_ty dA) B zz_tb X p s m args meth c cc RR_B ret nm) {rm : Room} {As st0 : List Value} {sk : ρ → List Value} {b : Nat} {fs : List Value} (d : decode cc pc = .ok (.invokevirtual 49, 3)) (hM : zz_M l D zz_cl (zz_ty dA) B zz_tb X yy_F_ofRow (Cond.code yy_F_ofRow prog_3_method_7_code 5 (some FieldType.long)) rm (.ref b :: As) h n mk post) (hh : h b = some (.inr (5, fs))) (hn : As.length = 2) (hst : st0 = As.reverse ++ .ref b :: rest) (hR : rm.frames + 1 ≤ R.frames ∧ 8 + (5 + 11) + rm.locals ≤ R.locals) (hW : (rest.map fun v => v.category).sum ≤ 8) (hf : cells + rm.cells ≤ R.cells ∧ slots + rm.slots ≤ R.slots) (hsk : ∀ r, (mk r).toList ++ rest = sk r) (kk : ∀ (r : ρ) (h' : zz_H) (n' : Nat), post r h' n' → zz_W D zz_cl B p l e R s m args below meth c Q h' n' (cells + rm.cells) (slots + rm.slots) L (pc + 3) (sk r)) : zz_W D zz_cl B p l e R s m args below meth c Q h n cells slots L pc st0 :=
  z_callV F C wd_598 wd_14 wd_708 wd_596 wd_597 ⟨by decide, by decide, by decide +kernel⟩ rfl rfl d hM hh hn hst hR hW hf hsk kk
theorem iv_B_53 (F : zz_F B zz_tb X) (C : zz_C D zz_cl (zz_ty dA) B zz_tb X p s m args meth c cc RR_B ret nm) {rm : Room} {As st0 : List Value} {sk : ρ → List Value} {b : Nat} {fs : List Value} (d : decode cc pc = .ok (.invokevirtual 53, 3)) (hM : zz_M l D zz_cl (zz_ty dA) B zz_tb X yy_G_choose (Cond.code yy_G_choose prog_5_method_15_code 3 (some FieldType.int)) rm (.ref b :: As) h n mk post) (hh : h b = some (.inr (6, fs))) (hn : As.length = 1) (hst : st0 = As.reverse ++ .ref b :: rest) (hR : rm.frames + 1 ≤ R.frames ∧ 8 + (3 + 11) + rm.locals ≤ R.locals) (hW : (rest.map fun v => v.category).sum ≤ 8) (hf : cells + rm.cells ≤ R.cells ∧ slots + rm.slots ≤ R.slots) (hsk : ∀ r, (mk r).toList ++ rest = sk r) (kk : ∀ (r : ρ) (h' : zz_H) (n' : Nat), post r h' n' → zz_W D zz_cl B p l e R s m args below meth c Q h' n' (cells + rm.cells) (slots + rm.slots) L (pc + 3) (sk r)) : zz_W D zz_cl B p l e R s m args below meth c Q h n cells slots L pc st0 :=
  z_callV F C wd_643 wd_12 wd_709 wd_641 wd_642 ⟨by decide, by decide, by decide +kernel⟩ rfl rfl d hM hh hn hst hR hW hf hsk kk
theorem iv_B_57 (F : zz_F B zz_tb X) (C : zz_C D zz_cl (zz_ty dA) B zz_tb X p s m args meth c cc RR_B ret nm) {rm : Room} {As st0 : List Value} {sk : ρ → List Value} {b : Nat} {fs : List Value} (d : decode cc pc = .ok (.invokevirtual 57, 3)) (hM : zz_M l D zz_cl (zz_ty dA) B zz_tb X yy_B_differing (Cond.code yy_B_differing prog_7_method_5_code 8 (some FieldType.long)) rm (.ref b :: As) h n mk post) (hh : h b = some (.inr (8, fs))) (hn : As.length = 2) (hst : st0 = As.reverse ++ .ref b :: rest) (hR : rm.frames + 1 ≤ R.frames ∧ 8 + (8 + 11) + rm.locals ≤ R.locals) (hW : (rest.map fun v => v.category).sum ≤ 8) (hf : cells + rm.cells ≤ R.cells ∧ slots + rm.slots ≤ R.slots) (hsk : ∀ r, (mk r).toList ++ rest = sk r) (kk : ∀ (r : ρ) (h' : zz_H) (n' : Nat), post r h' n' → zz_W D zz_cl B p l e R s m args below meth c Q h' n' (cells + rm.cells) (slots + rm.slots) L (pc + 3) (sk r)) : zz_W D zz_cl B p l e R s m args below meth c Q h n cells slots L pc st0 :=
  z_callV F C wd_717 wd_3 wd_714 wd_716 (zz_wp (y := yy_B_differing) (k := 1) (by decide +kernel) (by decide +kernel)) ⟨by decide, by decide, by decide +kernel⟩ rfl rfl d hM hh hn hst hR hW hf hsk kk
theorem iv_B_60 (F : zz_F B zz_tb X) (C : zz_C D zz_cl (zz_ty dA) B zz_tb X p s m args meth c cc RR_B ret nm) {rm : Room} {As st0 : List Value} {sk : ρ → List Value} {b : Nat} {fs : List Value} (d : decode cc pc = .ok (.invokevirtual 60, 3)) (hM : zz_M l D zz_cl (zz_ty dA) B zz_tb X yy_R_leafFor (Cond.code yy_R_leafFor prog_6_method_6_code 2 (some FieldType.int)) rm (.ref b :: As) h n mk post) (hh : h b = some (.inr (7, fs))) (hn : As.length = 1) (hst : st0 = As.reverse ++ .ref b :: rest) (hR : rm.frames + 1 ≤ R.frames ∧ 8 + (2 + 11) + rm.locals ≤ R.locals) (hW : (rest.map fun v => v.category).sum ≤ 8) (hf : cells + rm.cells ≤ R.cells ∧ slots + rm.slots ≤ R.slots) (hsk : ∀ r, (mk r).toList ++ rest = sk r) (kk : ∀ (r : ρ) (h' : zz_H) (n' : Nat), post r h' n' → zz_W D zz_cl B p l e R s m args below meth c Q h' n' (cells + rm.cells) (slots + rm.slots) L (pc + 3) (sk r)) : zz_W D zz_cl B p l e R s m args below meth c Q h n cells slots L pc st0 :=
  z_callV F C wd_722 wd_13 wd_719 wd_720 wd_721 ⟨by decide, by decide, by decide +kernel⟩ rfl rfl d hM hh hn hst hR hW hf hsk kk
theorem iv_B_69 (F : zz_F B zz_tb X) (C : zz_C D zz_cl (zz_ty dA) B zz_tb X p s m args meth c cc RR_B ret nm) {rm : Room} {As st0 : List Value} {sk : ρ → List Value} {b : Nat} {fs : List Value} (d : decode cc pc = .ok (.invokevirtual 69, 3)) (hM : zz_M l D zz_cl (zz_ty dA) B zz_tb X yy_B_bringForward (Cond.code yy_B_bringForward prog_7_method_6_code 9 (some FieldType.int)) rm (.ref b :: As) h n mk post) (hh : h b = some (.inr (8, fs))) (hn : As.length = 3) (hst : st0 = As.reverse ++ .ref b :: rest) (hR : rm.frames + 1 ≤ R.frames ∧ 8 + (9 + 11) + rm.locals ≤ R.locals) (hW : (rest.map fun v => v.category).sum ≤ 8) (hf : cells + rm.cells ≤ R.cells ∧ slots + rm.slots ≤ R.slots) (hsk : ∀ r, (mk r).toList ++ rest = sk r) (kk : ∀ (r : ρ) (h' : zz_H) (n' : Nat), post r h' n' → zz_W D zz_cl B p l e R s m args below meth c Q h' n' (cells + rm.cells) (slots + rm.slots) L (pc + 3) (sk r)) : zz_W D zz_cl B p l e R s m args below meth c Q h n cells slots L pc st0 :=
  z_callV F C wd_737 wd_3 wd_734 wd_736 (zz_wp (y := yy_B_bringForward) (k := 1) (by decide +kernel) (by decide +kernel)) ⟨by decide, by decide, by decide +kernel⟩ rfl rfl d hM hh hn hst hR hW hf hsk kk
theorem iv_B_73 (F : zz_F B zz_tb X) (C : zz_C D zz_cl (zz_ty dA) B zz_tb X p s m args meth c cc RR_B ret nm) {rm : Room} {As st0 : List Value} {sk : ρ → List Value} {b : Nat} {fs : List Value} (d : decode cc pc = .ok (.invokevirtual 73, 3)) (hM : zz_M l D zz_cl (zz_ty dA) B zz_tb X yy_R_nodeFor (Cond.code yy_R_nodeFor prog_6_method_7_code 5 (some FieldType.int)) rm (.ref b :: As) h n mk post) (hh : h b = some (.inr (7, fs))) (hn : As.length = 3) (hst : st0 = As.reverse ++ .ref b :: rest) (hR : rm.frames + 1 ≤ R.frames ∧ 8 + (5 + 11) + rm.locals ≤ R.locals) (hW : (rest.map fun v => v.category).sum ≤ 8) (hf : cells + rm.cells ≤ R.cells ∧ slots + rm.slots ≤ R.slots) (hsk : ∀ r, (mk r).toList ++ rest = sk r) (kk : ∀ (r : ρ) (h' : zz_H) (n' : Nat), post r h' n' → zz_W D zz_cl B p l e R s m args below meth c Q h' n' (cells + rm.cells) (slots + rm.slots) L (pc + 3) (sk r)) : zz_W D zz_cl B p l e R s m args below meth c Q h n cells slots L pc st0 :=
  z_callV F C wd_726 wd_13 wd_738 wd_724 wd_725 ⟨by decide, by decide, by decide +kernel⟩ rfl rfl d hM hh hn hst hR hW hf hsk kk
theorem pf_B_13 (C : zz_C D zz_cl (zz_ty dA) B zz_tb X p s m args meth c cc RR_B ret "<init>") {a : Nat} {fs : List Value} {v : Value} (d : decode cc pc = .ok (.putfield 13, 3)) (hh : h a = some (.inr (8, fs))) (hl : 0 < fs.length) (hn : narrow (.array (.long)) v = v) (hf : fits (.array (.long)) v = true) (k9 : zz_W D zz_cl B p l e R s m args below meth c Q (zz_up h a (.inr (8, fs.set 0 v))) n cells slots L (pc + 3) rest) : zz_W D zz_cl B p l e R s m args below meth c Q h n cells slots L pc (v :: .ref a :: rest) := z_putF (ty := .array (.long)) (k := 0) C tt_B rfl in_B tk_B nn_B (by decide) wd_55 rfl rfl rfl rfl (by decide +kernel) d hh hl hn hf k9
theorem an_D_16 (C : zz_C D zz_cl (zz_ty dA) B zz_tb X p s m args meth c cc RR_D ret nm) {N : Nat} {x : Int32} (d : decode cc pc = .ok (.anewarray 16, 3)) (hx : ¬ x < 0) (hN : x.toNatClampNeg = N) (hby : N * 4 ≤ 536870912) (hcl : cells + 1 ≤ R.cells) (hsl : slots + N ≤ R.slots) (k9 : zz_W D zz_cl B p l e R s m args below meth c Q (zz_up h n (.inl (dA 3, N, .inr (.inr (.inr (.inr (fun _ => none))))))) (n + 1) (cells + 1) (slots + N) L (pc + 3) (.ref n :: rest)) : zz_W D zz_cl B p l e R s m args below meth c Q h n cells slots L pc (.int x :: rest) := z_anew (t0 := 3) C wd_45 wd_46 rfl d hx hN hby hcl hsl k9
theorem an_D_26 (C : zz_C D zz_cl (zz_ty dA) B zz_tb X p s m args meth c cc RR_D ret nm) {N : Nat} {x : Int32} (d : decode cc pc = .ok (.anewarray 26, 3)) (hx : ¬ x < 0) (hN : x.toNatClampNeg = N) (hby : N * 4 ≤ 536870912) (hcl : cells + 1 ≤ R.cells) (hsl : slots + N ≤ R.slots) (k9 : zz_W D zz_cl B p l e R s m args below meth c Q (zz_up h n (.inl (dA 4, N, .inr (.inr (.inr (.inr (fun _ => none))))))) (n + 1) (cells + 1) (slots + N) L (pc + 3) (.ref n :: rest)) : zz_W D zz_cl B p l e R s m args below meth c Q h n cells slots L pc (.int x :: rest) := z_anew (t0 := 4) C wd_47 wd_48 rfl d hx hN hby hcl hsl k9
theorem gf_D_10 (C : zz_C D zz_cl (zz_ty dA) B zz_tb X p s m args meth c cc RR_D ret nm) {a : Nat} {fs : List Value} {v : Value} (d : decode cc pc = .ok (.getfield 10, 3)) (hh : h a = some (.inr (0, fs))) (hv : fs[0]? = some v) (k9 : zz_W D zz_cl B p l e R s m args below meth c Q h n cells slots L (pc + 3) (v :: rest)) : zz_W D zz_cl B p l e R s m args below meth c Q h n cells slots L pc (.ref a :: rest) := z_get (k := 0) C rfl in_D (by decide) wd_110 rfl d hh hv k9
theorem gf_D_18 (C : zz_C D zz_cl (zz_ty dA) B zz_tb X p s m args meth c cc RR_D ret nm) {a : Nat} {fs : List Value} {v : Value} (d : decode cc pc = .ok (.getfield 18, 3)) (hh : h a = some (.inr (0, fs))) (hv : fs[1]? = some v) (k9 : zz_W D zz_cl B p l e R s m args below meth c Q h n cells slots L (pc + 3) (v :: rest)) : zz_W D zz_cl B p l e R s m args below meth c Q h n cells slots L pc (.ref a :: rest) := z_get (k := 1) C rfl in_D (by decide) wd_111 rfl d hh hv k9
theorem gf_D_22 (C : zz_C D zz_cl (zz_ty dA) B zz_tb X p s m args meth c cc RR_D ret nm) {a : Nat} {fs : List Value} {v : Value} (d : decode cc pc = .ok (.getfield 22, 3)) (hh : h a = some (.inr (0, fs))) (hv : fs[2]? = some v) (k9 : zz_W D zz_cl B p l e R s m args below meth c Q h n cells slots L (pc + 3) (v :: rest)) : zz_W D zz_cl B p l e R s m args below meth c Q h n cells slots L pc (.ref a :: rest) := z_get (k := 2) C rfl in_D (by decide) wd_112 rfl d hh hv k9
theorem gf_D_28 (C : zz_C D zz_cl (zz_ty dA) B zz_tb X p s m args meth c cc RR_D ret nm) {a : Nat} {fs : List Value} {v : Value} (d : decode cc pc = .ok (.getfield 28, 3)) (hh : h a = some (.inr (0, fs))) (hv : fs[3]? = some v) (k9 : zz_W D zz_cl B p l e R s m args below meth c Q h n cells slots L (pc + 3) (v :: rest)) : zz_W D zz_cl B p l e R s m args below meth c Q h n cells slots L pc (.ref a :: rest) := z_get (k := 3) C rfl in_D (by decide) wd_113 rfl d hh hv k9
theorem gf_D_32 (C : zz_C D zz_cl (zz_ty dA) B zz_tb X p s m args meth c cc RR_D ret nm) {a : Nat} {fs : List Value} {v : Value} (d : decode cc pc = .ok (.getfield 32, 3)) (hh : h a = some (.inr (0, fs))) (hv : fs[4]? = some v) (k9 : zz_W D zz_cl B p l e R s m args below meth c Q h n cells slots L (pc + 3) (v :: rest)) : zz_W D zz_cl B p l e R s m args below meth c Q h n cells slots L pc (.ref a :: rest) := z_get (k := 4) C rfl in_D (by decide) wd_114 rfl d hh hv k9
theorem gf_D_38 (C : zz_C D zz_cl (zz_ty dA) B zz_tb X p s m args meth c cc RR_D ret nm) {a : Nat} {fs : List Value} {v : Value} (d : decode cc pc = .ok (.getfield 38, 3)) (hh : h a = some (.inr (0, fs))) (hv : fs[5]? = some v) (k9 : zz_W D zz_cl B p l e R s m args below meth c Q h n cells slots L (pc + 3) (v :: rest)) : zz_W D zz_cl B p l e R s m args below meth c Q h n cells slots L pc (.ref a :: rest) := z_get (k := 5) C rfl in_D (by decide) wd_115 rfl d hh hv k9
theorem gf_D_45 (C : zz_C D zz_cl (zz_ty dA) B zz_tb X p s m args meth c cc RR_D ret nm) {a : Nat} {fs : List Value} {v : Value} (d : decode cc pc = .ok (.getfield 45, 3)) (hh : h a = some (.inr (0, fs))) (hv : fs[6]? = some v) (k9 : zz_W D zz_cl B p l e R s m args below meth c Q h n cells slots L (pc + 3) (v :: rest)) : zz_W D zz_cl B p l e R s m args below meth c Q h n cells slots L pc (.ref a :: rest) := z_get (k := 6) C rfl in_D (by decide) wd_116 rfl d hh hv k9
theorem gf_D_49 (C : zz_C D zz_cl (zz_ty dA) B zz_tb X p s m args meth c cc RR_D ret nm) {a : Nat} {fs : List Value} {v : Value} (d : decode cc pc = .ok (.getfield 49, 3)) (hh : h a = some (.inr (0, fs))) (hv : fs[7]? = some v) (k9 : zz_W D zz_cl B p l e R s m args below meth c Q h n cells slots L (pc + 3) (v :: rest)) : zz_W D zz_cl B p l e R s m args below meth c Q h n cells slots L pc (.ref a :: rest) := z_get (k := 7) C rfl in_D (by decide) wd_117 rfl d hh hv k9
theorem gf_D_52 (C : zz_C D zz_cl (zz_ty dA) B zz_tb X p s m args meth c cc RR_D ret nm) {a : Nat} {fs : List Value} {v : Value} (d : decode cc pc = .ok (.getfield 52, 3)) (hh : h a = some (.inr (0, fs))) (hv : fs[8]? = some v) (k9 : zz_W D zz_cl B p l e R s m args below meth c Q h n cells slots L (pc + 3) (v :: rest)) : zz_W D zz_cl B p l e R s m args below meth c Q h n cells slots L pc (.ref a :: rest) := z_get (k := 8) C rfl in_D (by decide) wd_118 rfl d hh hv k9
theorem gf_D_55 (C : zz_C D zz_cl (zz_ty dA) B zz_tb X p s m args meth c cc RR_D ret nm) {a : Nat} {fs : List Value} {v : Value} (d : decode cc pc = .ok (.getfield 55, 3)) (hh : h a = some (.inr (0, fs))) (hv : fs[9]? = some v) (k9 : zz_W D zz_cl B p l e R s m args below meth c Q h n cells slots L (pc + 3) (v :: rest)) : zz_W D zz_cl B p l e R s m args below meth c Q h n cells slots L pc (.ref a :: rest) := z_get (k := 9) C rfl in_D (by decide) wd_119 rfl d hh hv k9
theorem gf_D_108 (C : zz_C D zz_cl (zz_ty dA) B zz_tb X p s m args meth c cc RR_D ret nm) {a : Nat} {fs : List Value} {v : Value} (d : decode cc pc = .ok (.getfield 108, 3)) (hh : h a = some (.inr (4, fs))) (hv : fs[1]? = some v) (k9 : zz_W D zz_cl B p l e R s m args below meth c Q h n cells slots L (pc + 3) (v :: rest)) : zz_W D zz_cl B p l e R s m args below meth c Q h n cells slots L pc (.ref a :: rest) := z_get (k := 1) C rfl in_M (by decide) wd_393 rfl d hh hv k9
theorem gf_D_112 (C : zz_C D zz_cl (zz_ty dA) B zz_tb X p s m args meth c cc RR_D ret nm) {a : Nat} {fs : List Value} {v : Value} (d : decode cc pc = .ok (.getfield 112, 3)) (hh : h a = some (.inr (6, fs))) (hv : fs[0]? = some v) (k9 : zz_W D zz_cl B p l e R s m args below meth c Q h n cells slots L (pc + 3) (v :: rest)) : zz_W D zz_cl B p l e R s m args below meth c Q h n cells slots L pc (.ref a :: rest) := z_get (k := 0) C rfl in_G (by decide) wd_327 rfl d hh hv k9
theorem gf_D_121 (C : zz_C D zz_cl (zz_ty dA) B zz_tb X p s m args meth c cc RR_D ret nm) {a : Nat} {fs : List Value} {v : Value} (d : decode cc pc = .ok (.getfield 121, 3)) (hh : h a = some (.inr (4, fs))) (hv : fs[3]? = some v) (k9 : zz_W D zz_cl B p l e R s m args below meth c Q h n cells slots L (pc + 3) (v :: rest)) : zz_W D zz_cl B p l e R s m args below meth c Q h n cells slots L pc (.ref a :: rest) := z_get (k := 3) C rfl in_M (by decide) wd_396 rfl d hh hv k9
theorem gf_D_142 (C : zz_C D zz_cl (zz_ty dA) B zz_tb X p s m args meth c cc RR_D ret nm) {a : Nat} {fs : List Value} {v : Value} (d : decode cc pc = .ok (.getfield 142, 3)) (hh : h a = some (.inr (4, fs))) (hv : fs[5]? = some v) (k9 : zz_W D zz_cl B p l e R s m args below meth c Q h n cells slots L (pc + 3) (v :: rest)) : zz_W D zz_cl B p l e R s m args below meth c Q h n cells slots L pc (.ref a :: rest) := z_get (k := 5) C rfl in_M (by decide) wd_400 rfl d hh hv k9
theorem gf_D_161 (C : zz_C D zz_cl (zz_ty dA) B zz_tb X p s m args meth c cc RR_D ret nm) {a : Nat} {fs : List Value} {v : Value} (d : decode cc pc = .ok (.getfield 161, 3)) (hh : h a = some (.inr (4, fs))) (hv : fs[9]? = some v) (k9 : zz_W D zz_cl B p l e R s m args below meth c Q h n cells slots L (pc + 3) (v :: rest)) : zz_W D zz_cl B p l e R s m args below meth c Q h n cells slots L pc (.ref a :: rest) := z_get (k := 9) C rfl in_M (by decide) wd_407 rfl d hh hv k9
theorem gf_D_174 (C : zz_C D zz_cl (zz_ty dA) B zz_tb X p s m args meth c cc RR_D ret nm) {a : Nat} {fs : List Value} {v : Value} (d : decode cc pc = .ok (.getfield 174, 3)) (hh : h a = some (.inr (6, fs))) (hv : fs[1]? = some v) (k9 : zz_W D zz_cl B p l e R s m args below meth c Q h n cells slots L (pc + 3) (v :: rest)) : zz_W D zz_cl B p l e R s m args below meth c Q h n cells slots L pc (.ref a :: rest) := z_get (k := 1) C rfl in_G (by decide) wd_332 rfl d hh hv k9
theorem gf_D_211 (C : zz_C D zz_cl (zz_ty dA) B zz_tb X p s m args meth c cc RR_D ret nm) {a : Nat} {fs : List Value} {v : Value} (d : decode cc pc = .ok (.getfield 211, 3)) (hh : h a = some (.inr (6, fs))) (hv : fs[2]? = some v) (k9 : zz_W D zz_cl B p l e R s m args below meth c Q h n cells slots L (pc + 3) (v :: rest)) : zz_W D zz_cl B p l e R s m args below meth c Q h n cells slots L pc (.ref a :: rest) := z_get (k := 2) C rfl in_G (by decide) wd_336 rfl d hh hv k9
theorem gf_D_244 (C : zz_C D zz_cl (zz_ty dA) B zz_tb X p s m args meth c cc RR_D ret nm) {a : Nat} {fs : List Value} {v : Value} (d : decode cc pc = .ok (.getfield 244, 3)) (hh : h a = some (.inr (10, fs))) (hv : fs[0]? = some v) (k9 : zz_W D zz_cl B p l e R s m args below meth c Q h n cells slots L (pc + 3) (v :: rest)) : zz_W D zz_cl B p l e R s m args below meth c Q h n cells slots L pc (.ref a :: rest) := z_get (k := 0) C rfl in_N (by decide) wd_93 rfl d hh hv k9
theorem gf_D_247 (C : zz_C D zz_cl (zz_ty dA) B zz_tb X p s m args meth c cc RR_D ret nm) {a : Nat} {fs : List Value} {v : Value} (d : decode cc pc = .ok (.getfield 247, 3)) (hh : h a = some (.inr (10, fs))) (hv : fs[1]? = some v) (k9 : zz_W D zz_cl B p l e R s m args below meth c Q h n cells slots L (pc + 3) (v :: rest)) : zz_W D zz_cl B p l e R s m args below meth c Q h n cells slots L pc (.ref a :: rest) := z_get (k := 1) C rfl in_N (by decide) wd_95 rfl d hh hv k9
theorem oi_D_1 (C : zz_C D zz_cl (zz_ty dA) B zz_tb X p s m args meth c cc RR_D ret nm) {a : Nat} (d : decode cc pc = .ok (.invokespecial 1, 3)) (hfr : 1 ≤ R.frames) (hlo : (rest.map fun v => v.category).sum + 12 ≤ R.locals) (k9 : zz_W D zz_cl B p l e R s m args below meth c Q h n cells slots L (pc + 3) rest) : zz_W D zz_cl B p l e R s m args below meth c Q h n cells slots L pc (.ref a :: rest) := z_objInit C wd_28 wd_29 wd_30 d hfr hlo k9
theorem ii_D_9 (F : zz_F B zz_tb X) (C : zz_C D zz_cl (zz_ty dA) B zz_tb X p s m args meth c cc RR_D ret nm) {rm : Room} {As st0 : List Value} {sk : ρ → List Value} {b : Nat} (d : decode cc pc = .ok (.invokespecial 9, 3)) (hM : zz_M l D zz_cl (zz_ty dA) B zz_tb X yy_H_init (Cond.code yy_H_init prog_8_method_1_code 1 none) rm (.ref b :: As) h n mk post) (hn : As.length = 0) (hst : st0 = As.reverse ++ .ref b :: rest) (hR : rm.frames + 1 ≤ R.frames ∧ 8 + (1 + 11) + rm.locals ≤ R.locals) (hW : (rest.map fun v => v.category).sum ≤ 8) (hf : cells + rm.cells ≤ R.cells ∧ slots + rm.slots ≤ R.slots) (hsk : ∀ r, (mk r).toList ++ rest = sk r) (kk : ∀ (r : ρ) (h' : zz_H) (n' : Nat), post r h' n' → zz_W D zz_cl B p l e R s m args below meth c Q h' n' (cells + rm.cells) (slots + rm.slots) L (pc + 3) (sk r)) : zz_W D zz_cl B p l e R s m args below meth c Q h n cells slots L pc st0 :=
  z_callI F C wd_35 wd_2 wd_33 wd_34 rfl ⟨by decide, by decide, by decide +kernel⟩ d hM hn hst hR hW hf hsk kk
theorem ii_D_37 (F : zz_F B zz_tb X) (C : zz_C D zz_cl (zz_ty dA) B zz_tb X p s m args meth c cc RR_D ret nm) {rm : Room} {As st0 : List Value} {sk : ρ → List Value} {b : Nat} (d : decode cc pc = .ok (.invokespecial 37, 3)) (hM : zz_M l D zz_cl (zz_ty dA) B zz_tb X yy_B_init (Cond.code yy_B_init prog_7_method_1_code 1 none) rm (.ref b :: As) h n mk post) (hn : As.length = 0) (hst : st0 = As.reverse ++ .ref b :: rest) (hR : rm.frames + 1 ≤ R.frames ∧ 8 + (1 + 11) + rm.locals ≤ R.locals) (hW : (rest.map fun v => v.category).sum ≤ 8) (hf : cells + rm.cells ≤ R.cells ∧ slots + rm.slots ≤ R.slots) (hsk : ∀ r, (mk r).toList ++ rest = sk r) (kk : ∀ (r : ρ) (h' : zz_H) (n' : Nat), post r h' n' → zz_W D zz_cl B p l e R s m args below meth c Q h' n' (cells + rm.cells) (slots + rm.slots) L (pc + 3) (sk r)) : zz_W D zz_cl B p l e R s m args below meth c Q h n cells slots L pc st0 :=
  z_callIN F C wd_53 wd_3 wd_51 wd_52 rfl ⟨by decide, by decide, by decide +kernel⟩ d hM hn hst hR hW hf hsk kk
theorem ii_D_44 (F : zz_F B zz_tb X) (C : zz_C D zz_cl (zz_ty dA) B zz_tb X p s m args meth c cc RR_D ret nm) {rm : Room} {As st0 : List Value} {sk : ρ → List Value} {b : Nat} (d : decode cc pc = .ok (.invokespecial 44, 3)) (hM : zz_M l D zz_cl (zz_ty dA) B zz_tb X yy_N_init (Cond.code yy_N_init prog_9_method_1_code 2 none) rm (.ref b :: As) h n mk post) (hn : As.length = 0) (hst : st0 = As.reverse ++ .ref b :: rest) (hR : rm.frames + 1 ≤ R.frames ∧ 8 + (2 + 11) + rm.locals ≤ R.locals) (hW : (rest.map fun v => v.category).sum ≤ 8) (hf : cells + rm.cells ≤ R.cells ∧ slots + rm.slots ≤ R.slots) (hsk : ∀ r, (mk r).toList ++ rest = sk r) (kk : ∀ (r : ρ) (h' : zz_H) (n' : Nat), post r h' n' → zz_W D zz_cl B p l e R s m args below meth c Q h' n' (cells + rm.cells) (slots + rm.slots) L (pc + 3) (sk r)) : zz_W D zz_cl B p l e R s m args below meth c Q h n cells slots L pc st0 :=
  z_callI F C wd_64 wd_4 wd_62 wd_63 rfl ⟨by decide, by decide, by decide +kernel⟩ d hM hn hst hR hW hf hsk kk
theorem ii_D_89 (F : zz_F B zz_tb X) (C : zz_C D zz_cl (zz_ty dA) B zz_tb X p s m args meth c cc RR_D ret nm) {rm : Room} {As st0 : List Value} {sk : ρ → List Value} {b : Nat} (d : decode cc pc = .ok (.invokespecial 89, 3)) (hM : zz_M l D zz_cl (zz_ty dA) B zz_tb X yy_G_init (Cond.code yy_G_init prog_5_method_1_code 3 none) rm (.ref b :: As) h n mk post) (hn : As.length = 2) (hst : st0 = As.reverse ++ .ref b :: rest) (hR : rm.frames + 1 ≤ R.frames ∧ 8 + (3 + 11) + rm.locals ≤ R.locals) (hW : (rest.map fun v => v.category).sum ≤ 8) (hf : cells + rm.cells ≤ R.cells ∧ slots + rm.slots ≤ R.slots) (hsk : ∀ r, (mk r).toList ++ rest = sk r) (kk : ∀ (r : ρ) (h' : zz_H) (n' : Nat), post r h' n' → zz_W D zz_cl B p l e R s m args below meth c Q h' n' (cells + rm.cells) (slots + rm.slots) L (pc + 3) (sk r)) : zz_W D zz_cl B p l e R s m args below meth c Q h n cells slots L pc st0 :=
  z_callI F C wd_274 wd_12 wd_272 wd_273 rfl ⟨by decide, by decide, by decide +kernel⟩ d hM hn hst hR hW hf hsk kk
theorem ii_D_98 (F : zz_F B zz_tb X) (C : zz_C D zz_cl (zz_ty dA) B zz_tb X p s m args meth c cc RR_D ret nm) {rm : Room} {As st0 : List Value} {sk : ρ → List Value} {b : Nat} (d : decode cc pc = .ok (.invokespecial 98, 3)) (hM : zz_M l D zz_cl (zz_ty dA) B zz_tb X yy_M_init (Cond.code yy_M_init prog_10_method_1_code 3 none) rm (.ref b :: As) h n mk post) (hn : As.length = 2) (hst : st0 = As.reverse ++ .ref b :: rest) (hR : rm.frames + 1 ≤ R.frames ∧ 8 + (3 + 11) + rm.locals ≤ R.locals) (hW : (rest.map fun v => v.category).sum ≤ 8) (hf : cells + rm.cells ≤ R.cells ∧ slots + rm.slots ≤ R.slots) (hsk : ∀ r, (mk r).toList ++ rest = sk r) (kk : ∀ (r : ρ) (h' : zz_H) (n' : Nat), post r h' n' → zz_W D zz_cl B p l e R s m args below meth c Q h' n' (cells + rm.cells) (slots + rm.slots) L (pc + 3) (sk r)) : zz_W D zz_cl B p l e R s m args below meth c Q h n cells slots L pc st0 :=
  z_callI F C wd_384 wd_15 wd_382 wd_383 rfl ⟨by decide, by decide, by decide +kernel⟩ d hM hn hst hR hW hf hsk kk
theorem ii_D_149 (F : zz_F B zz_tb X) (C : zz_C D zz_cl (zz_ty dA) B zz_tb X p s m args meth c cc RR_D ret nm) {rm : Room} {As st0 : List Value} {sk : ρ → List Value} {b : Nat} (d : decode cc pc = .ok (.invokespecial 149, 3)) (hM : zz_M l D zz_cl (zz_ty dA) B zz_tb X yy_O_init (Cond.code yy_O_init prog_11_method_1_code 3 none) rm (.ref b :: As) h n mk post) (hn : As.length = 2) (hst : st0 = As.reverse ++ .ref b :: rest) (hR : rm.frames + 1 ≤ R.frames ∧ 8 + (3 + 11) + rm.locals ≤ R.locals) (hW : (rest.map fun v => v.category).sum ≤ 8) (hf : cells + rm.cells ≤ R.cells ∧ slots + rm.slots ≤ R.slots) (hsk : ∀ r, (mk r).toList ++ rest = sk r) (kk : ∀ (r : ρ) (h' : zz_H) (n' : Nat), post r h' n' → zz_W D zz_cl B p l e R s m args below meth c Q h' n' (cells + rm.cells) (slots + rm.slots) L (pc + 3) (sk r)) : zz_W D zz_cl B p l e R s m args below meth c Q h n cells slots L pc st0 :=
  z_callIN F C wd_506 wd_19 wd_504 wd_505 rfl ⟨by decide, by decide, by decide +kernel⟩ d hM hn hst hR hW hf hsk kk
theorem is_D_126 (F : zz_F B zz_tb X) (C : zz_C D zz_cl (zz_ty dA) B zz_tb X p s m args meth c cc RR_D ret nm) {rm : Room} {As st0 : List Value} {sk : ρ → List Value} (d : decode cc pc = .ok (.invokestatic 126, 3)) (hM : zz_M l D zz_cl (zz_ty dA) B zz_tb X yy_A_plainest (Cond.code yy_A_plainest prog_2_method_2_code 5 (some (FieldType.object "DispatchDesk$Atom"))) rm As h n mk post) (hn : As.length = 4) (hst : st0 = As.reverse ++ rest) (hR : rm.frames + 1 ≤ R.frames ∧ 8 + (5 + 11) + rm.locals ≤ R.locals) (hW : (rest.map fun v => v.category).sum ≤ 8) (hf : cells + rm.cells ≤ R.cells ∧ slots + rm.slots ≤ R.slots) (hsk : ∀ r, (mk r).toList ++ rest = sk r) (kk : ∀ (r : ρ) (h' : zz_H) (n' : Nat), post r h' n' → zz_W D zz_cl B p l e R s m args below meth c Q h' n' (cells + rm.cells) (slots + rm.slots) L (pc + 3) (sk r)) : zz_W D zz_cl B p l e R s m args below meth c Q h n cells slots L pc st0 :=
  z_callS F C wd_462 wd_18 wd_460 wd_461 ⟨by decide, by decide, by decide +kernel⟩ d hM hn hst hR hW hf hsk kk
theorem is_D_194 (F : zz_F B zz_tb X) (C : zz_C D zz_cl (zz_ty dA) B zz_tb X p s m args meth c cc RR_D ret nm) {rm : Room} {As st0 : List Value} {sk : ρ → List Value} (d : decode cc pc = .ok (.invokestatic 194, 3)) (hM : zz_M l D zz_cl (zz_ty dA) B zz_tb X yy_G_firstOfRow (Cond.code yy_G_firstOfRow prog_5_method_2_code 1 (some FieldType.int)) rm As h n mk post) (hn : As.length = 1) (hst : st0 = As.reverse ++ rest) (hR : rm.frames + 1 ≤ R.frames ∧ 8 + (1 + 11) + rm.locals ≤ R.locals) (hW : (rest.map fun v => v.category).sum ≤ 8) (hf : cells + rm.cells ≤ R.cells ∧ slots + rm.slots ≤ R.slots) (hsk : ∀ r, (mk r).toList ++ rest = sk r) (kk : ∀ (r : ρ) (h' : zz_H) (n' : Nat), post r h' n' → zz_W D zz_cl B p l e R s m args below meth c Q h' n' (cells + rm.cells) (slots + rm.slots) L (pc + 3) (sk r)) : zz_W D zz_cl B p l e R s m args below meth c Q h n cells slots L pc st0 :=
  z_callS F C wd_662 wd_12 wd_660 wd_661 ⟨by decide, by decide, by decide +kernel⟩ d hM hn hst hR hW hf hsk kk
theorem is_D_197 (F : zz_F B zz_tb X) (C : zz_C D zz_cl (zz_ty dA) B zz_tb X p s m args meth c cc RR_D ret nm) {rm : Room} {As st0 : List Value} {sk : ρ → List Value} (d : decode cc pc = .ok (.invokestatic 197, 3)) (hM : zz_M l D zz_cl (zz_ty dA) B zz_tb X yy_G_secondOfRow (Cond.code yy_G_secondOfRow prog_5_method_3_code 1 (some FieldType.int)) rm As h n mk post) (hn : As.length = 1) (hst : st0 = As.reverse ++ rest) (hR : rm.frames + 1 ≤ R.frames ∧ 8 + (1 + 11) + rm.locals ≤ R.locals) (hW : (rest.map fun v => v.category).sum ≤ 8) (hf : cells + rm.cells ≤ R.cells ∧ slots + rm.slots ≤ R.slots) (hsk : ∀ r, (mk r).toList ++ rest = sk r) (kk : ∀ (r : ρ) (h' : zz_H) (n' : Nat), post r h' n' → zz_W D zz_cl B p l e R s m args below meth c Q h' n' (cells + rm.cells) (slots + rm.slots) L (pc + 3) (sk r)) : zz_W D zz_cl B p l e R s m args below meth c Q h n cells slots L pc st0 :=
  z_callS F C wd_665 wd_12 wd_663 wd_664 ⟨by decide, by decide, by decide +kernel⟩ d hM hn hst hR hW hf hsk kk
theorem is_D_266 (F : zz_F B zz_tb X) (C : zz_C D zz_cl (zz_ty dA) B zz_tb X p s m args meth c cc RR_D ret nm) {rm : Room} {As st0 : List Value} {sk : ρ → List Value} (d : decode cc pc = .ok (.invokestatic 266, 3)) (hM : zz_M l D zz_cl (zz_ty dA) B zz_tb X yy_V_isNumber (Cond.code yy_V_isNumber prog_12_method_2_code 1 (some FieldType.boolean)) rm As h n mk post) (hn : As.length = 1) (hst : st0 = As.reverse ++ rest) (hR : rm.frames + 1 ≤ R.frames ∧ 8 + (1 + 11) + rm.locals ≤ R.locals) (hW : (rest.map fun v => v.category).sum ≤ 8) (hf : cells + rm.cells ≤ R.cells ∧ slots + rm.slots ≤ R.slots) (hsk : ∀ r, (mk r).toList ++ rest = sk r) (kk : ∀ (r : ρ) (h' : zz_H) (n' : Nat), post r h' n' → zz_W D zz_cl B p l e R s m args below meth c Q h' n' (cells + rm.cells) (slots + rm.slots) L (pc + 3) (sk r)) : zz_W D zz_cl B p l e R s m args below meth c Q h n cells slots L pc st0 :=
  z_callS F C wd_457 wd_16 wd_455 wd_456 ⟨by decide, by decide, by decide +kernel⟩ d hM hn hst hR hW hf hsk kk
theorem iv_D_58 (F : zz_F B zz_tb X) (C : zz_C D zz_cl (zz_ty dA) B zz_tb X p s m args meth c cc RR_D ret nm) {rm : Room} {As st0 : List Value} {sk : ρ → List Value} {b : Nat} {fs : List Value} (d : decode cc pc = .ok (.invokevirtual 58, 3)) (hM : zz_M l D zz_cl (zz_ty dA) B zz_tb X yy_H_has (Cond.code yy_H_has prog_8_method_2_code 2 (some FieldType.boolean)) rm (.ref b :: As) h n mk post) (hh : h b = some (.inr (1, fs))) (hn : As.length = 1) (hst : st0 = As.reverse ++ .ref b :: rest) (hR : rm.frames + 1 ≤ R.frames ∧ 8 + (2 + 11) + rm.locals ≤ R.locals) (hW : (rest.map fun v => v.category).sum ≤ 8) (hf : cells + rm.cells ≤ R.cells ∧ slots + rm.slots ≤ R.slots) (hsk : ∀ r, (mk r).toList ++ rest = sk r) (kk : ∀ (r : ρ) (h' : zz_H) (n' : Nat), post r h' n' → zz_W D zz_cl B p l e R s m args below meth c Q h' n' (cells + rm.cells) (slots + rm.slots) L (pc + 3) (sk r)) : zz_W D zz_cl B p l e R s m args below meth c Q h n cells slots L pc st0 :=
  z_callV F C wd_161 wd_2 wd_158 wd_159 wd_160 ⟨by decide, by decide, by decide +kernel⟩ rfl rfl d hM hh hn hst hR hW hf hsk kk
theorem iv_D_69 (F : zz_F B zz_tb X) (C : zz_C D zz_cl (zz_ty dA) B zz_tb X p s m args meth c cc RR_D ret nm) {rm : Room} {As st0 : List Value} {sk : ρ → List Value} {b : Nat} {fs : List Value} (d : decode cc pc = .ok (.invokevirtual 69, 3)) (hM : zz_M l D zz_cl (zz_ty dA) B zz_tb X yy_H_isFull (Cond.code yy_H_isFull prog_8_method_3_code 1 (some FieldType.boolean)) rm (.ref b :: As) h n mk post) (hh : h b = some (.inr (1, fs))) (hn : As.length = 0) (hst : st0 = As.reverse ++ .ref b :: rest) (hR : rm.frames + 1 ≤ R.frames ∧ 8 + (1 + 11) + rm.locals ≤ R.locals) (hW : (rest.map fun v => v.category).sum ≤ 8) (hf : cells + rm.cells ≤ R.cells ∧ slots + rm.slots ≤ R.slots) (hsk : ∀ r, (mk r).toList ++ rest = sk r) (kk : ∀ (r : ρ) (h' : zz_H) (n' : Nat), post r h' n' → zz_W D zz_cl B p l e R s m args below meth c Q h' n' (cells + rm.cells) (slots + rm.slots) L (pc + 3) (sk r)) : zz_W D zz_cl B p l e R s m args below meth c Q h n cells slots L pc st0 :=
  z_callV F C wd_233 wd_2 wd_230 wd_231 wd_232 ⟨by decide, by decide, by decide +kernel⟩ rfl rfl d hM hh hn hst hR hW hf hsk kk
theorem iv_D_78 (F : zz_F B zz_tb X) (C : zz_C D zz_cl (zz_ty dA) B zz_tb X p s m args meth c cc RR_D ret nm) {rm : Room} {As st0 : List Value} {sk : ρ → List Value} {b : Nat} {fs : List Value} (d : decode cc pc = .ok (.invokevirtual 78, 3)) (hM : zz_M l D zz_cl (zz_ty dA) B zz_tb X yy_G_outdate (Cond.code yy_G_outdate prog_5_method_8_code 1 none) rm (.ref b :: As) h n mk post) (hh : h b = some (.inr (6, fs))) (hn : As.length = 0) (hst : st0 = As.reverse ++ .ref b :: rest) (hR : rm.frames + 1 ≤ R.frames ∧ 8 + (1 + 11) + rm.locals ≤ R.locals) (hW : (rest.map fun v => v.category).sum ≤ 8) (hf : cells + rm.cells ≤ R.cells ∧ slots + rm.slots ≤ R.slots) (hsk : ∀ r, (mk r).toList ++ rest = sk r) (kk : ∀ (r : ρ) (h' : zz_H) (n' : Nat), post r h' n' → zz_W D zz_cl B p l e R s m args below meth c Q h' n' (cells + rm.cells) (slots + rm.slots) L (pc + 3) (sk r)) : zz_W D zz_cl B p l e R s m args below meth c Q h n cells slots L pc st0 :=
  z_callV F C wd_253 wd_12 wd_250 wd_251 wd_252 ⟨by decide, by decide, by decide +kernel⟩ rfl rfl d hM hh hn hst hR hW hf hsk kk
theorem iv_D_81 (F : zz_F B zz_tb X) (C : zz_C D zz_cl (zz_ty dA) B zz_tb X p s m args meth c cc RR_D ret nm) {rm : Room} {As st0 : List Value} {sk : ρ → List Value} {b : Nat} {fs : List Value} (d : decode cc pc = .ok (.invokevirtual 81, 3)) (hM : zz_M l D zz_cl (zz_ty dA) B zz_tb X yy_H_add (Cond.code yy_H_add prog_8_method_4_code 2 (some FieldType.int)) rm (.ref b :: As) h n mk post) (hh : h b = some (.inr (1, fs))) (hn : As.length = 1) (hst : st0 = As.reverse ++ .ref b :: rest) (hR : rm.frames + 1 ≤ R.frames ∧ 8 + (2 + 11) + rm.locals ≤ R.locals) (hW : (rest.map fun v => v.category).sum ≤ 8) (hf : cells + rm.cells ≤ R.cells ∧ slots + rm.slots ≤ R.slots) (hsk : ∀ r, (mk r).toList ++ rest = sk r) (kk : ∀ (r : ρ) (h' : zz_H) (n' : Nat), post r h' n' → zz_W D zz_cl B p l e R s m args below meth c Q h' n' (cells + rm.cells) (slots + rm.slots) L (pc + 3) (sk r)) : zz_W D zz_cl B p l e R s m args below meth c Q h n cells slots L pc st0 :=
  z_callV F C wd_261 wd_2 wd_258 wd_259 wd_260 ⟨by decide, by decide, by decide +kernel⟩ rfl rfl d hM hh hn hst hR hW hf hsk kk
theorem ix_D_92 (F : zz_F B zz_tb X) (C : zz_C D zz_cl (zz_ty dA) B zz_tb X p s m args meth c cc RR_D ret nm) {rm : Room} {As st0 : List Value} {sk : ρ → List Value} {b : Nat} {fs : List Value} {ρ' : Type} {mk' : ρ' → Option Value} {post9 : ρ' → zz_H → Nat → Prop} {px' : String → zz_H → Nat → Prop} {m9 s9 : Nat} (d : decode cc pc = .ok (.invokevirtual 92, 3)) (hM : zz_MX l D zz_cl (zz_ty dA) B zz_tb X yy_D_genericAt (Cond.code yy_D_genericAt prog_1_method_17_code 2 (some (FieldType.object "DispatchDesk$Generic"))) rm (.ref b :: As) h n mk post px) (hno : ∀ x ∈ c.exceptionTable.toList, False) (hh : h b = some (.inr (0, fs))) (hn : As.length = 1) (hst : st0 = As.reverse ++ .ref b :: rest) (hR : rm.frames + 1 ≤ R.frames ∧ 8 + (2 + 11) + rm.locals ≤ R.locals) (hW : (rest.map fun v => v.category).sum ≤ 8) (hf : cells + rm.cells ≤ R.cells ∧ slots + rm.slots ≤ R.slots) (hsk : ∀ r, (mk r).toList ++ rest = sk r) (hpx : ∀ (E : String) (h' : zz_H) (n' : Nat), px E h' n' → px' E h' n') (hm : cells + rm.cells ≤ m9) (hs9 : slots + rm.slots ≤ s9) (kk : ∀ (r : ρ) (h' : zz_H) (n' : Nat), post r h' n' → zz_W D zz_cl B p l e R s m args below meth c (vx_MQ below (zz_Q D zz_cl B mk' post9) (zz_E D zz_cl B px') args s m9 s9 (fun q => B ≤ q)) h' n' (cells + rm.cells) (slots + rm.slots) L (pc + 3) (sk r)) : zz_W D zz_cl B p l e R s m args below meth c (vx_MQ below (zz_Q D zz_cl B mk' post9) (zz_E D zz_cl B px') args s m9 s9 (fun q => B ≤ q)) h n cells slots L pc st0 :=
  z_callVX F C wd_378 wd_1 wd_375 wd_377 (zz_wp (y := yy_D_genericAt) (k := 10) (by decide +kernel) (by decide +kernel)) ⟨by decide, by decide, by decide +kernel⟩ rfl rfl d hM hno hh hn hst hR hW hf hsk hpx hm hs9 kk
theorem iv_D_101 (F : zz_F B zz_tb X) (C : zz_C D zz_cl (zz_ty dA) B zz_tb X p s m args meth c cc RR_D ret nm) {rm : Room} {As st0 : List Value} {sk : ρ → List Value} {b : Nat} {fs : List Value} (d : decode cc pc = .ok (.invokevirtual 101, 3)) (hM : zz_M l D zz_cl (zz_ty dA) B zz_tb X yy_G_add (Cond.code yy_G_add prog_5_method_7_code 2 none) rm (.ref b :: As) h n mk post) (hh : h b = some (.inr (6, fs))) (hn : As.length = 1) (hst : st0 = As.reverse ++ .ref b :: rest) (hR : rm.frames + 1 ≤ R.frames ∧ 8 + (2 + 11) + rm.locals ≤ R.locals) (hW : (rest.map fun v => v.category).sum ≤ 8) (hf : cells + rm.cells ≤ R.cells ∧ slots + rm.slots ≤ R.slots) (hsk : ∀ r, (mk r).toList ++ rest = sk r) (kk : ∀ (r : ρ) (h' : zz_H) (n' : Nat), post r h' n' → zz_W D zz_cl B p l e R s m args below meth c Q h' n' (cells + rm.cells) (slots + rm.slots) L (pc + 3) (sk r)) : zz_W D zz_cl B p l e R s m args below meth c Q h n cells slots L pc st0 :=
  z_callV F C wd_433 wd_12 wd_430 wd_431 wd_432 ⟨by decide, by decide, by decide +kernel⟩ rfl rfl d hM hh hn hst hR hW hf hsk kk
theorem ix_D_104 (F : zz_F B zz_tb X) (C : zz_C D zz_cl (zz_ty dA) B zz_tb X p s m args meth c cc RR_D ret nm) {rm : Room} {As st0 : List Value} {sk : ρ → List Value} {b : Nat} {fs : List Value} {ρ' : Type} {mk' : ρ' → Option Value} {post9 : ρ' → zz_H → Nat → Prop} {px' : String → zz_H → Nat → Prop} {m9 s9 : Nat} (d : decode cc pc = .ok (.invokevirtual 104, 3)) (hM : zz_MX l D zz_cl (zz_ty dA) B zz_tb X yy_D_methodAt (Cond.code yy_D_methodAt prog_1_method_18_code 2 (some (FieldType.object "DispatchDesk$Method"))) rm (.ref b :: As) h n mk post px) (hno : ∀ x ∈ c.exceptionTable.toList, False) (hh : h b = some (.inr (0, fs))) (hn : As.length = 1) (hst : st0 = As.reverse ++ .ref b :: rest) (hR : rm.frames + 1 ≤ R.frames ∧ 8 + (2 + 11) + rm.locals ≤ R.locals) (hW : (rest.map fun v => v.category).sum ≤ 8) (hf : cells + rm.cells ≤ R.cells ∧ slots + rm.slots ≤ R.slots) (hsk : ∀ r, (mk r).toList ++ rest = sk r) (hpx : ∀ (E : String) (h' : zz_H) (n' : Nat), px E h' n' → px' E h' n') (hm : cells + rm.cells ≤ m9) (hs9 : slots + rm.slots ≤ s9) (kk : ∀ (r : ρ) (h' : zz_H) (n' : Nat), post r h' n' → zz_W D zz_cl B p l e R s m args below meth c (vx_MQ below (zz_Q D zz_cl B mk' post9) (zz_E D zz_cl B px') args s m9 s9 (fun q => B ≤ q)) h' n' (cells + rm.cells) (slots + rm.slots) L (pc + 3) (sk r)) : zz_W D zz_cl B p l e R s m args below meth c (vx_MQ below (zz_Q D zz_cl B mk' post9) (zz_E D zz_cl B px') args s m9 s9 (fun q => B ≤ q)) h n cells slots L pc st0 :=
  z_callVX F C wd_449 wd_1 wd_446 wd_448 (zz_wp (y := yy_D_methodAt) (k := 10) (by decide +kernel) (by decide +kernel)) ⟨by decide, by decide, by decide +kernel⟩ rfl rfl d hM hno hh hn hst hR hW hf hsk hpx hm hs9 kk
theorem iv_D_115 (F : zz_F B zz_tb X) (C : zz_C D zz_cl (zz_ty dA) B zz_tb X p s m args meth c cc RR_D ret nm) {rm : Room} {As st0 : List Value} {sk : ρ → List Value} {b : Nat} {fs : List Value} (d : decode cc pc = .ok (.invokevirtual 115, 3)) (hM : zz_M l D zz_cl (zz_ty dA) B zz_tb X yy_D_isAtom (Cond.code yy_D_isAtom prog_1_method_21_code 6 (some FieldType.boolean)) rm (.ref b :: As) h n mk post) (hh : h b = some (.inr (0, fs))) (hn : As.length = 4) (hst : st0 = As.reverse ++ .ref b :: rest) (hR : rm.frames + 1 ≤ R.frames ∧ 8 + (6 + 11) + rm.locals ≤ R.locals) (hW : (rest.map fun v => v.category).sum ≤ 8) (hf : cells + rm.cells ≤ R.cells ∧ slots + rm.slots ≤ R.slots) (hsk : ∀ r, (mk r).toList ++ rest = sk r) (kk : ∀ (r : ρ) (h' : zz_H) (n' : Nat), post r h' n' → zz_W D zz_cl B p l e R s m args below meth c Q h' n' (cells + rm.cells) (slots + rm.slots) L (pc + 3) (sk r)) : zz_W D zz_cl B p l e R s m args below meth c Q h n cells slots L pc st0 :=
  z_callV F C wd_454 wd_1 wd_451 wd_453 (zz_wp (y := yy_D_isAtom) (k := 10) (by decide +kernel) (by decide +kernel)) ⟨by decide, by decide, by decide +kernel⟩ rfl rfl d hM hh hn hst hR hW hf hsk kk
theorem iv_D_132 (F : zz_F B zz_tb X) (C : zz_C D zz_cl (zz_ty dA) B zz_tb X p s m args meth c cc RR_D ret nm) {rm : Room} {As st0 : List Value} {sk : ρ → List Value} {b : Nat} {fs : List Value} (d : decode cc pc = .ok (.invokevirtual 132, 3)) (hM : zz_M l D zz_cl (zz_ty dA) B zz_tb X yy_M_addAtom (Cond.code yy_M_addAtom prog_10_method_3_code 2 (some FieldType.int)) rm (.ref b :: As) h n mk post) (hh : h b = some (.inr (4, fs))) (hn : As.length = 1) (hst : st0 = As.reverse ++ .ref b :: rest) (hR : rm.frames + 1 ≤ R.frames ∧ 8 + (2 + 11) + rm.locals ≤ R.locals) (hW : (rest.map fun v => v.category).sum ≤ 8) (hf : cells + rm.cells ≤ R.cells ∧ slots + rm.slots ≤ R.slots) (hsk : ∀ r, (mk r).toList ++ rest = sk r) (kk : ∀ (r : ρ) (h' : zz_H) (n' : Nat), post r h' n' → zz_W D zz_cl B p l e R s m args below meth c Q h' n' (cells + rm.cells) (slots + rm.slots) L (pc + 3) (sk r)) : zz_W D zz_cl B p l e R s m args below meth c Q h n cells slots L pc st0 :=
  z_callV F C wd_488 wd_15 wd_485 wd_486 wd_487 ⟨by decide, by decide, by decide +kernel⟩ rfl rfl d hM hh hn hst hR hW hf hsk kk
theorem iv_D_136 (F : zz_F B zz_tb X) (C : zz_C D zz_cl (zz_ty dA) B zz_tb X p s m args meth c cc RR_D ret nm) {rm : Room} {As st0 : List Value} {sk : ρ → List Value} {b : Nat} {fs : List Value} (d : decode cc pc = .ok (.invokevirtual 136, 3)) (hM : zz_M l D zz_cl (zz_ty dA) B zz_tb X yy_D_isOperation (Cond.code yy_D_isOperation prog_1_method_22_code 4 (some FieldType.boolean)) rm (.ref b :: As) h n mk post) (hh : h b = some (.inr (0, fs))) (hn : As.length = 3) (hst : st0 = As.reverse ++ .ref b :: rest) (hR : rm.frames + 1 ≤ R.frames ∧ 8 + (4 + 11) + rm.locals ≤ R.locals) (hW : (rest.map fun v => v.category).sum ≤ 8) (hf : cells + rm.cells ≤ R.cells ∧ slots + rm.slots ≤ R.slots) (hsk : ∀ r, (mk r).toList ++ rest = sk r) (kk : ∀ (r : ρ) (h' : zz_H) (n' : Nat), post r h' n' → zz_W D zz_cl B p l e R s m args below meth c Q h' n' (cells + rm.cells) (slots + rm.slots) L (pc + 3) (sk r)) : zz_W D zz_cl B p l e R s m args below meth c Q h n cells slots L pc st0 :=
  z_callV F C wd_499 wd_1 wd_496 wd_498 (zz_wp (y := yy_D_isOperation) (k := 10) (by decide +kernel) (by decide +kernel)) ⟨by decide, by decide, by decide +kernel⟩ rfl rfl d hM hh hn hst hR hW hf hsk kk
theorem iv_D_152 (F : zz_F B zz_tb X) (C : zz_C D zz_cl (zz_ty dA) B zz_tb X p s m args meth c cc RR_D ret nm) {rm : Room} {As st0 : List Value} {sk : ρ → List Value} {b : Nat} {fs : List Value} (d : decode cc pc = .ok (.invokevirtual 152, 3)) (hM : zz_M l D zz_cl (zz_ty dA) B zz_tb X yy_M_addOperation (Cond.code yy_M_addOperation prog_10_method_4_code 2 (some FieldType.int)) rm (.ref b :: As) h n mk post) (hh : h b = some (.inr (4, fs))) (hn : As.length = 1) (hst : st0 = As.reverse ++ .ref b :: rest) (hR : rm.frames + 1 ≤ R.frames ∧ 8 + (2 + 11) + rm.locals ≤ R.locals) (hW : (rest.map fun v => v.category).sum ≤ 8) (hf : cells + rm.cells ≤ R.cells ∧ slots + rm.slots ≤ R.slots) (hsk : ∀ r, (mk r).toList ++ rest = sk r) (kk : ∀ (r : ρ) (h' : zz_H) (n' : Nat), post r h' n' → zz_W D zz_cl B p l e R s m args below meth c Q h' n' (cells + rm.cells) (slots + rm.slots) L (pc + 3) (sk r)) : zz_W D zz_cl B p l e R s m args below meth c Q h n cells slots L pc st0 :=
  z_callV F C wd_518 wd_15 wd_515 wd_516 wd_517 ⟨by decide, by decide, by decide +kernel⟩ rfl rfl d hM hh hn hst hR hW hf hsk kk
theorem iv_D_158 (F : zz_F B zz_tb X) (C : zz_C D zz_cl (zz_ty dA) B zz_tb X p s m args meth c cc RR_D ret nm) {rm : Room} {As st0 : List Value} {sk : ρ → List Value} {b : Nat} {fs : List Value} (d : decode cc pc = .ok (.invokevirtual 158, 3)) (hM : zz_M l D zz_cl (zz_ty dA) B zz_tb X yy_G_refresh (Cond.code yy_G_refresh prog_5_method_9_code 2 none) rm (.ref b :: As) h n mk post) (hh : h b = some (.inr (6, fs))) (hn : As.length = 0) (hst : st0 = As.reverse ++ .ref b :: rest) (hR : rm.frames + 1 ≤ R.frames ∧ 8 + (2 + 11) + rm.locals ≤ R.locals) (hW : (rest.map fun v => v.category).sum ≤ 8) (hf : cells + rm.cells ≤ R.cells ∧ slots + rm.slots ≤ R.slots) (hsk : ∀ r, (mk r).toList ++ rest = sk r) (kk : ∀ (r : ρ) (h' : zz_H) (n' : Nat), post r h' n' → zz_W D zz_cl B p l e R s m args below meth c Q h' n' (cells + rm.cells) (slots + rm.slots) L (pc + 3) (sk r)) : zz_W D zz_cl B p l e R s m args below meth c Q h n cells slots L pc st0 :=
  z_callV F C wd_530 wd_12 wd_527 wd_528 wd_529 ⟨by decide, by decide, by decide +kernel⟩ rfl rfl d hM hh hn hst hR hW hf hsk kk
theorem iv_D_164 (F : zz_F B zz_tb X) (C : zz_C D zz_cl (zz_ty dA) B zz_tb X p s m args meth c cc RR_D ret nm) {rm : Room} {As st0 : List Value} {sk : ρ → List Value} {b : Nat} {fs : List Value} (d : decode cc pc = .ok (.invokevirtual 164, 3)) (hM : zz_M l D zz_cl (zz_ty dA) B zz_tb X yy_M_bit (Cond.code yy_M_bit prog_10_method_2_code 1 (some FieldType.int)) rm (.ref b :: As) h n mk post) (hh : h b = some (.inr (4, fs))) (hn : As.length = 0) (hst : st0 = As.reverse ++ .ref b :: rest) (hR : rm.frames + 1 ≤ R.frames ∧ 8 + (1 + 11) + rm.locals ≤ R.locals) (hW : (rest.map fun v => v.category).sum ≤ 8) (hf : cells + rm.cells ≤ R.cells ∧ slots + rm.slots ≤ R.slots) (hsk : ∀ r, (mk r).toList ++ rest = sk r) (kk : ∀ (r : ρ) (h' : zz_H) (n' : Nat), post r h' n' → zz_W D zz_cl B p l e R s m args below meth c Q h' n' (cells + rm.cells) (slots + rm.slots) L (pc + 3) (sk r)) : zz_W D zz_cl B p l e R s m args below meth c Q h n cells slots L pc st0 :=
  z_callV F C wd_437 wd_15 wd_617 wd_435 wd_436 ⟨by decide, by decide, by decide +kernel⟩ rfl rfl d hM hh hn hst hR hW hf hsk kk
theorem iv_D_168 (F : zz_F B zz_tb X) (C : zz_C D zz_cl (zz_ty dA) B zz_tb X p s m args meth c cc RR_D ret nm) {rm : Room} {As st0 : List Value} {sk : ρ → List Value} {b : Nat} {fs : List Value} (d : decode cc pc = .ok (.invokevirtual 168, 3)) (hM : zz_M l D zz_cl (zz_ty dA) B zz_tb X yy_D_isRow (Cond.code yy_D_isRow prog_1_method_20_code 4 (some FieldType.boolean)) rm (.ref b :: As) h n mk post) (hh : h b = some (.inr (0, fs))) (hn : As.length = 3) (hst : st0 = As.reverse ++ .ref b :: rest) (hR : rm.frames + 1 ≤ R.frames ∧ 8 + (4 + 11) + rm.locals ≤ R.locals) (hW : (rest.map fun v => v.category).sum ≤ 8) (hf : cells + rm.cells ≤ R.cells ∧ slots + rm.slots ≤ R.slots) (hsk : ∀ r, (mk r).toList ++ rest = sk r) (kk : ∀ (r : ρ) (h' : zz_H) (n' : Nat), post r h' n' → zz_W D zz_cl B p l e R s m args below meth c Q h' n' (cells + rm.cells) (slots + rm.slots) L (pc + 3) (sk r)) : zz_W D zz_cl B p l e R s m args below meth c Q h n cells slots L pc st0 :=
  z_callV F C wd_628 wd_1 wd_625 wd_627 (zz_wp (y := yy_D_isRow) (k := 10) (by decide +kernel) (by decide +kernel)) ⟨by decide, by decide, by decide +kernel⟩ rfl rfl d hM hh hn hst hR hW hf hsk kk
theorem iv_D_178 (F : zz_F B zz_tb X) (C : zz_C D zz_cl (zz_ty dA) B zz_tb X p s m args meth c cc RR_D ret nm) {rm : Room} {As st0 : List Value} {sk : ρ → List Value} {b : Nat} {fs : List Value} (d : decode cc pc = .ok (.invokevirtual 178, 3)) (hM : zz_M l D zz_cl (zz_ty dA) B zz_tb X yy_G_secondOrNone (Cond.code yy_G_secondOrNone prog_5_method_6_code 2 (some FieldType.int)) rm (.ref b :: As) h n mk post) (hh : h b = some (.inr (6, fs))) (hn : As.length = 1) (hst : st0 = As.reverse ++ .ref b :: rest) (hR : rm.frames + 1 ≤ R.frames ∧ 8 + (2 + 11) + rm.locals ≤ R.locals) (hW : (rest.map fun v => v.category).sum ≤ 8) (hf : cells + rm.cells ≤ R.cells ∧ slots + rm.slots ≤ R.slots) (hsk : ∀ r, (mk r).toList ++ rest = sk r) (kk : ∀ (r : ρ) (h' : zz_H) (n' : Nat), post r h' n' → zz_W D zz_cl B p l e R s m args below meth c Q h' n' (cells + rm.cells) (slots + rm.slots) L (pc + 3) (sk r)) : zz_W D zz_cl B p l e R s m args below meth c Q h n cells slots L pc st0 :=
  z_callV F C wd_638 wd_12 wd_635 wd_636 wd_637 ⟨by decide, by decide, by decide +kernel⟩ rfl rfl d hM hh hn hst hR hW hf hsk kk
theorem iv_D_181 (F : zz_F B zz_tb X) (C : zz_C D zz_cl (zz_ty dA) B zz_tb X p s m args meth c cc RR_D ret nm) {rm : Room} {As st0 : List Value} {sk : ρ → List Value} {b : Nat} {fs : List Value} (d : decode cc pc = .ok (.invokevirtual 181, 3)) (hM : zz_M l D zz_cl (zz_ty dA) B zz_tb X yy_F_ofRow (Cond.code yy_F_ofRow prog_3_method_7_code 5 (some FieldType.long)) rm (.ref b :: As) h n mk post) (hh : h b = some (.inr (5, fs))) (hn : As.length = 2) (hst : st0 = As.reverse ++ .ref b :: rest) (hR : rm.frames + 1 ≤ R.frames ∧ 8 + (5 + 11) + rm.locals ≤ R.locals) (hW : (rest.map fun v => v.category).sum ≤ 8) (hf : cells + rm.cells ≤ R.cells ∧ slots + rm.slots ≤ R.slots) (hsk : ∀ r, (mk r).toList ++ rest = sk r) (kk : ∀ (r : ρ) (h' : zz_H) (n' : Nat), post r h' n' → zz_W D zz_cl B p l e R s m args below meth c Q h' n' (cells + rm.cells) (slots + rm.slots) L (pc + 3) (sk r)) : zz_W D zz_cl B p l e R s m args below meth c Q h n cells slots L pc st0 :=
  z_callV F C wd_598 wd_14 wd_639 wd_596 wd_597 ⟨by decide, by decide, by decide +kernel⟩ rfl rfl d hM hh hn hst hR hW hf hsk kk
theorem iv_D_187 (F : zz_F B zz_tb X) (C : zz_C D zz_cl (zz_ty dA) B zz_tb X p s m args meth c cc RR_D ret nm) {rm : Room} {As st0 : List Value} {sk : ρ → List Value} {b : Nat} {fs : List Value} (d : decode cc pc = .ok (.invokevirtual 187, 3)) (hM : zz_M l D zz_cl (zz_ty dA) B zz_tb X yy_G_choose (Cond.code yy_G_choose prog_5_method_15_code 3 (some FieldType.int)) rm (.ref b :: As) h n mk post) (hh : h b = some (.inr (6, fs))) (hn : As.length = 1) (hst : st0 = As.reverse ++ .ref b :: rest) (hR : rm.frames + 1 ≤ R.frames ∧ 8 + (3 + 11) + rm.locals ≤ R.locals) (hW : (rest.map fun v => v.category).sum ≤ 8) (hf : cells + rm.cells ≤ R.cells ∧ slots + rm.slots ≤ R.slots) (hsk : ∀ r, (mk r).toList ++ rest = sk r) (kk : ∀ (r : ρ) (h' : zz_H) (n' : Nat), post r h' n' → zz_W D zz_cl B p l e R s m args below meth c Q h' n' (cells + rm.cells) (slots + rm.slots) L (pc + 3) (sk r)) : zz_W D zz_cl B p l e R s m args below meth c Q h n cells slots L pc st0 :=
  z_callV F C wd_643 wd_12 wd_640 wd_641 wd_642 ⟨by decide, by decide, by decide +kernel⟩ rfl rfl d hM hh hn hst hR hW hf hsk kk
theorem iv_D_191 (F : zz_F B zz_tb X) (C : zz_C D zz_cl (zz_ty dA) B zz_tb X p s m args meth c cc RR_D ret nm) {rm : Room} {As st0 : List Value} {sk : ρ → List Value} {b : Nat} {fs : List Value} (d : decode cc pc = .ok (.invokevirtual 191, 3)) (hM : zz_M l D zz_cl (zz_ty dA) B zz_tb X yy_G_firstFault (Cond.code yy_G_firstFault prog_5_method_17_code 3 (some FieldType.int)) rm (.ref b :: As) h n mk post) (hh : h b = some (.inr (6, fs))) (hn : As.length = 0) (hst : st0 = As.reverse ++ .ref b :: rest) (hR : rm.frames + 1 ≤ R.frames ∧ 8 + (3 + 11) + rm.locals ≤ R.locals) (hW : (rest.map fun v => v.category).sum ≤ 8) (hf : cells + rm.cells ≤ R.cells ∧ slots + rm.slots ≤ R.slots) (hsk : ∀ r, (mk r).toList ++ rest = sk r) (kk : ∀ (r : ρ) (h' : zz_H) (n' : Nat), post r h' n' → zz_W D zz_cl B p l e R s m args below meth c Q h' n' (cells + rm.cells) (slots + rm.slots) L (pc + 3) (sk r)) : zz_W D zz_cl B p l e R s m args below meth c Q h n cells slots L pc st0 :=
  z_callV F C wd_658 wd_12 wd_655 wd_656 wd_657 ⟨by decide, by decide, by decide +kernel⟩ rfl rfl d hM hh hn hst hR hW hf hsk kk
theorem iv_D_205 (F : zz_F B zz_tb X) (C : zz_C D zz_cl (zz_ty dA) B zz_tb X p s m args meth c cc RR_D ret nm) {rm : Room} {As st0 : List Value} {sk : ρ → List Value} {b : Nat} {fs : List Value} (d : decode cc pc = .ok (.invokevirtual 205, 3)) (hM : zz_M l D zz_cl (zz_ty dA) B zz_tb X yy_B_build (Cond.code yy_B_build prog_7_method_2_code 4 (some FieldType.boolean)) rm (.ref b :: As) h n mk post) (hh : h b = some (.inr (8, fs))) (hn : As.length = 1) (hst : st0 = As.reverse ++ .ref b :: rest) (hR : rm.frames + 1 ≤ R.frames ∧ 8 + (4 + 11) + rm.locals ≤ R.locals) (hW : (rest.map fun v => v.category).sum ≤ 8) (hf : cells + rm.cells ≤ R.cells ∧ slots + rm.slots ≤ R.slots) (hsk : ∀ r, (mk r).toList ++ rest = sk r) (kk : ∀ (r : ρ) (h' : zz_H) (n' : Nat), post r h' n' → zz_W D zz_cl B p l e R s m args below meth c Q h' n' (cells + rm.cells) (slots + rm.slots) L (pc + 3) (sk r)) : zz_W D zz_cl B p l e R s m args below meth c Q h n cells slots L pc st0 :=
  z_callV F C wd_700 wd_3 wd_697 wd_698 wd_699 ⟨by decide, by decide, by decide +kernel⟩ rfl rfl d hM hh hn hst hR hW hf hsk kk
theorem iv_D_215 (F : zz_F B zz_tb X) (C : zz_C D zz_cl (zz_ty dA) B zz_tb X p s m args meth c cc RR_D ret nm) {rm : Room} {As st0 : List Value} {sk : ρ → List Value} {b : Nat} {fs : List Value} (d : decode cc pc = .ok (.invokevirtual 215, 3)) (hM : zz_M l D zz_cl (zz_ty dA) B zz_tb X yy_R_size (Cond.code yy_R_size prog_6_method_4_code 1 (some FieldType.int)) rm (.ref b :: As) h n mk post) (hh : h b = some (.inr (7, fs))) (hn : As.length = 0) (hst : st0 = As.reverse ++ .ref b :: rest) (hR : rm.frames + 1 ≤ R.frames ∧ 8 + (1 + 11) + rm.locals ≤ R.locals) (hW : (rest.map fun v => v.category).sum ≤ 8) (hf : cells + rm.cells ≤ R.cells ∧ slots + rm.slots ≤ R.slots) (hsk : ∀ r, (mk r).toList ++ rest = sk r) (kk : ∀ (r : ρ) (h' : zz_H) (n' : Nat), post r h' n' → zz_W D zz_cl B p l e R s m args below meth c Q h' n' (cells + rm.cells) (slots + rm.slots) L (pc + 3) (sk r)) : zz_W D zz_cl B p l e R s m args below meth c Q h n cells slots L pc st0 :=
  z_callV F C wd_743 wd_13 wd_740 wd_741 wd_742 ⟨by decide, by decide, by decide +kernel⟩ rfl rfl d hM hh hn hst hR hW hf hsk kk
theorem ix_D_220 (F : zz_F B zz_tb X) (C : zz_C D zz_cl (zz_ty dA) B zz_tb X p s m args meth c cc RR_D ret nm) {rm : Room} {As st0 : List Value} {sk : ρ → List Value} {b : Nat} {fs : List Value} {ρ' : Type} {mk' : ρ' → Option Value} {post9 : ρ' → zz_H → Nat → Prop} {px' : String → zz_H → Nat → Prop} {m9 s9 : Nat} (d : decode cc pc = .ok (.invokevirtual 220, 3)) (hM : zz_MX l D zz_cl (zz_ty dA) B zz_tb X yy_D_compiledAt (Cond.code yy_D_compiledAt prog_1_method_19_code 4 (some (FieldType.object "DispatchDesk$Generic"))) rm (.ref b :: As) h n mk post px) (hno : ∀ x ∈ c.exceptionTable.toList, False) (hh : h b = some (.inr (0, fs))) (hn : As.length = 2) (hst : st0 = As.reverse ++ .ref b :: rest) (hR : rm.frames + 1 ≤ R.frames ∧ 8 + (4 + 11) + rm.locals ≤ R.locals) (hW : (rest.map fun v => v.category).sum ≤ 8) (hf : cells + rm.cells ≤ R.cells ∧ slots + rm.slots ≤ R.slots) (hsk : ∀ r, (mk r).toList ++ rest = sk r) (hpx : ∀ (E : String) (h' : zz_H) (n' : Nat), px E h' n' → px' E h' n') (hm : cells + rm.cells ≤ m9) (hs9 : slots + rm.slots ≤ s9) (kk : ∀ (r : ρ) (h' : zz_H) (n' : Nat), post r h' n' → zz_W D zz_cl B p l e R s m args below meth c (vx_MQ below (zz_Q D zz_cl B mk' post9) (zz_E D zz_cl B px') args s m9 s9 (fun q => B ≤ q)) h' n' (cells + rm.cells) (slots + rm.slots) L (pc + 3) (sk r)) : zz_W D zz_cl B p l e R s m args below meth c (vx_MQ below (zz_Q D zz_cl B mk' post9) (zz_E D zz_cl B px') args s m9 s9 (fun q => B ≤ q)) h n cells slots L pc st0 :=
  z_callVX F C wd_754 wd_1 wd_751 wd_753 (zz_wp (y := yy_D_compiledAt) (k := 10) (by decide +kernel) (by decide +kernel)) ⟨by decide, by decide, by decide +kernel⟩ rfl rfl d hM hno hh hn hst hR hW hf hsk hpx hm hs9 kk
theorem iv_D_226 (F : zz_F B zz_tb X) (C : zz_C D zz_cl (zz_ty dA) B zz_tb X p s m args meth c cc RR_D ret nm) {rm : Room} {As st0 : List Value} {sk : ρ → List Value} {b : Nat} {fs : List Value} (d : decode cc pc = .ok (.invokevirtual 226, 3)) (hM : zz_M l D zz_cl (zz_ty dA) B zz_tb X yy_R_part (Cond.code yy_R_part prog_6_method_5_code 3 (some FieldType.int)) rm (.ref b :: As) h n mk post) (hh : h b = some (.inr (7, fs))) (hn : As.length = 2) (hst : st0 = As.reverse ++ .ref b :: rest) (hR : rm.frames + 1 ≤ R.frames ∧ 8 + (3 + 11) + rm.locals ≤ R.locals) (hW : (rest.map fun v => v.category).sum ≤ 8) (hf : cells + rm.cells ≤ R.cells ∧ slots + rm.slots ≤ R.slots) (hsk : ∀ r, (mk r).toList ++ rest = sk r) (kk : ∀ (r : ρ) (h' : zz_H) (n' : Nat), post r h' n' → zz_W D zz_cl B p l e R s m args below meth c Q h' n' (cells + rm.cells) (slots + rm.slots) L (pc + 3) (sk r)) : zz_W D zz_cl B p l e R s m args below meth c Q h n cells slots L pc st0 :=
  z_callV F C wd_765 wd_13 wd_762 wd_763 wd_764 ⟨by decide, by decide, by decide +kernel⟩ rfl rfl d hM hh hn hst hR hW hf hsk kk
theorem iv_D_230 (F : zz_F B zz_tb X) (C : zz_C D zz_cl (zz_ty dA) B zz_tb X p s m args meth c cc RR_D ret nm) {rm : Room} {As st0 : List Value} {sk : ρ → List Value} {b : Nat} {fs : List Value} (d : decode cc pc = .ok (.invokevirtual 230, 3)) (hM : zz_M l D zz_cl (zz_ty dA) B zz_tb X yy_F_size (Cond.code yy_F_size prog_3_method_2_code 1 (some FieldType.int)) rm (.ref b :: As) h n mk post) (hh : h b = some (.inr (5, fs))) (hn : As.length = 0) (hst : st0 = As.reverse ++ .ref b :: rest) (hR : rm.frames + 1 ≤ R.frames ∧ 8 + (1 + 11) + rm.locals ≤ R.locals) (hW : (rest.map fun v => v.category).sum ≤ 8) (hf : cells + rm.cells ≤ R.cells ∧ slots + rm.slots ≤ R.slots) (hsk : ∀ r, (mk r).toList ++ rest = sk r) (kk : ∀ (r : ρ) (h' : zz_H) (n' : Nat), post r h' n' → zz_W D zz_cl B p l e R s m args below meth c Q h' n' (cells + rm.cells) (slots + rm.slots) L (pc + 3) (sk r)) : zz_W D zz_cl B p l e R s m args below meth c Q h n cells slots L pc st0 :=
  z_callV F C wd_776 wd_14 wd_773 wd_774 wd_775 ⟨by decide, by decide, by decide +kernel⟩ rfl rfl d hM hh hn hst hR hW hf hsk kk
theorem iv_D_233 (F : zz_F B zz_tb X) (C : zz_C D zz_cl (zz_ty dA) B zz_tb X p s m args meth c cc RR_D ret nm) {rm : Room} {As st0 : List Value} {sk : ρ → List Value} {b : Nat} {fs : List Value} (d : decode cc pc = .ok (.invokevirtual 233, 3)) (hM : zz_M l D zz_cl (zz_ty dA) B zz_tb X yy_F_part (Cond.code yy_F_part prog_3_method_3_code 4 (some FieldType.int)) rm (.ref b :: As) h n mk post) (hh : h b = some (.inr (5, fs))) (hn : As.length = 2) (hst : st0 = As.reverse ++ .ref b :: rest) (hR : rm.frames + 1 ≤ R.frames ∧ 8 + (4 + 11) + rm.locals ≤ R.locals) (hW : (rest.map fun v => v.category).sum ≤ 8) (hf : cells + rm.cells ≤ R.cells ∧ slots + rm.slots ≤ R.slots) (hsk : ∀ r, (mk r).toList ++ rest = sk r) (kk : ∀ (r : ρ) (h' : zz_H) (n' : Nat), post r h' n' → zz_W D zz_cl B p l e R s m args below meth c Q h' n' (cells + rm.cells) (slots + rm.slots) L (pc + 3) (sk r)) : zz_W D zz_cl B p l e R s m args below meth c Q h n cells slots L pc st0 :=
  z_callV F C wd_781 wd_14 wd_778 wd_779 wd_780 ⟨by decide, by decide, by decide +kernel⟩ rfl rfl d hM hh hn hst hR hW hf hsk kk
theorem iv_D_236 (F : zz_F B zz_tb X) (C : zz_C D zz_cl (zz_ty dA) B zz_tb X p s m args meth c cc RR_D ret nm) {rm : Room} {As st0 : List Value} {sk : ρ → List Value} {b : Nat} {fs : List Value} (d : decode cc pc = .ok (.invokevirtual 236, 3)) (hM : zz_M l D zz_cl (zz_ty dA) B zz_tb X yy_N_load (Cond.code yy_N_load prog_9_method_2_code 4 none) rm (.ref b :: As) h n mk post) (hh : h b = some (.inr (10, fs))) (hn : As.length = 3) (hst : st0 = As.reverse ++ .ref b :: rest) (hR : rm.frames + 1 ≤ R.frames ∧ 8 + (4 + 11) + rm.locals ≤ R.locals) (hW : (rest.map fun v => v.category).sum ≤ 8) (hf : cells + rm.cells ≤ R.cells ∧ slots + rm.slots ≤ R.slots) (hsk : ∀ r, (mk r).toList ++ rest = sk r) (kk : ∀ (r : ρ) (h' : zz_H) (n' : Nat), post r h' n' → zz_W D zz_cl B p l e R s m args below meth c Q h' n' (cells + rm.cells) (slots + rm.slots) L (pc + 3) (sk r)) : zz_W D zz_cl B p l e R s m args below meth c Q h n cells slots L pc st0 :=
  z_callV F C wd_797 wd_4 wd_794 wd_795 wd_796 ⟨by decide, by decide, by decide +kernel⟩ rfl rfl d hM hh hn hst hR hW hf hsk kk
theorem iv_D_240 (F : zz_F B zz_tb X) (C : zz_C D zz_cl (zz_ty dA) B zz_tb X p s m args meth c cc RR_D ret nm) {rm : Room} {As st0 : List Value} {sk : ρ → List Value} {b : Nat} {fs : List Value} (d : decode cc pc = .ok (.invokevirtual 240, 3)) (hM : zz_M l D zz_cl (zz_ty dA) B zz_tb X yy_N_call (Cond.code yy_N_call prog_9_method_3_code 9 (some FieldType.int)) rm (.ref b :: As) h n mk post) (hh : h b = some (.inr (10, fs))) (hn : As.length = 4) (hst : st0 = As.reverse ++ .ref b :: rest) (hR : rm.frames + 1 ≤ R.frames ∧ 8 + (9 + 11) + rm.locals ≤ R.locals) (hW : (rest.map fun v => v.category).sum ≤ 8) (hf : cells + rm.cells ≤ R.cells ∧ slots + rm.slots ≤ R.slots) (hsk : ∀ r, (mk r).toList ++ rest = sk r) (kk : ∀ (r : ρ) (h' : zz_H) (n' : Nat), post r h' n' → zz_W D zz_cl B p l e R s m args below meth c Q h' n' (cells + rm.cells) (slots + rm.slots) L (pc + 3) (sk r)) : zz_W D zz_cl B p l e R s m args below meth c Q h n cells slots L pc st0 :=
  z_callV F C wd_801 wd_4 wd_798 wd_799 wd_800 ⟨by decide, by decide, by decide +kernel⟩ rfl rfl d hM hh hn hst hR hW hf hsk kk
theorem iv_D_256 (F : zz_F B zz_tb X) (C : zz_C D zz_cl (zz_ty dA) B zz_tb X p s m args meth c cc RR_D ret nm) {rm : Room} {As st0 : List Value} {sk : ρ → List Value} {b : Nat} {fs : List Value} (d : decode cc pc = .ok (.invokevirtual 256, 3)) (hM : zz_M l D zz_cl (zz_ty dA) B zz_tb X yy_R_isEmpty (Cond.code yy_R_isEmpty prog_6_method_3_code 1 (some FieldType.boolean)) rm (.ref b :: As) h n mk post) (hh : h b = some (.inr (7, fs))) (hn : As.length = 0) (hst : st0 = As.reverse ++ .ref b :: rest) (hR : rm.frames + 1 ≤ R.frames ∧ 8 + (1 + 11) + rm.locals ≤ R.locals) (hW : (rest.map fun v => v.category).sum ≤ 8) (hf : cells + rm.cells ≤ R.cells ∧ slots + rm.slots ≤ R.slots) (hsk : ∀ r, (mk r).toList ++ rest = sk r) (kk : ∀ (r : ρ) (h' : zz_H) (n' : Nat), post r h' n' → zz_W D zz_cl B p l e R s m args below meth c Q h' n' (cells + rm.cells) (slots + rm.slots) L (pc + 3) (sk r)) : zz_W D zz_cl B p l e R s m args below meth c Q h n cells slots L pc st0 :=
  z_callV F C wd_759 wd_13 wd_756 wd_757 wd_758 ⟨by decide, by decide, by decide +kernel⟩ rfl rfl d hM hh hn hst hR hW hf hsk kk
theorem iv_D_261 (F : zz_F B zz_tb X) (C : zz_C D zz_cl (zz_ty dA) B zz_tb X p s m args meth c cc RR_D ret nm) {rm : Room} {As st0 : List Value} {sk : ρ → List Value} {b : Nat} {fs : List Value} (d : decode cc pc = .ok (.invokevirtual 261, 3)) (hM : zz_M l D zz_cl (zz_ty dA) B zz_tb X yy_H_hasValue (Cond.code yy_H_hasValue prog_8_method_7_code 2 (some FieldType.boolean)) rm (.ref b :: As) h n mk post) (hh : h b = some (.inr (1, fs))) (hn : As.length = 1) (hst : st0 = As.reverse ++ .ref b :: rest) (hR : rm.frames + 1 ≤ R.frames ∧ 8 + (2 + 11) + rm.locals ≤ R.locals) (hW : (rest.map fun v => v.category).sum ≤ 8) (hf : cells + rm.cells ≤ R.cells ∧ slots + rm.slots ≤ R.slots) (hsk : ∀ r, (mk r).toList ++ rest = sk r) (kk : ∀ (r : ρ) (h' : zz_H) (n' : Nat), post r h' n' → zz_W D zz_cl B p l e R s m args below meth c Q h' n' (cells + rm.cells) (slots + rm.slots) L (pc + 3) (sk r)) : zz_W D zz_cl B p l e R s m args below meth c Q h n cells slots L pc st0 :=
  z_callV F C wd_632 wd_2 wd_629 wd_630 wd_631 ⟨by decide, by decide, by decide +kernel⟩ rfl rfl d hM hh hn hst hR hW hf hsk kk
theorem nw_D_7 (C : zz_C D zz_cl (zz_ty dA) B zz_tb X p s m args meth c cc RR_D ret nm) (d : decode cc pc = .ok (.new 7, 3)) (hcl : cells + 1 ≤ R.cells) (hsl : slots + 2 ≤ R.slots) (k9 : zz_W D zz_cl B p l e R s m args below meth c Q (zz_up h n (.inr (1, [.null, .int 0]))) (n + 1) (cells + 1) (slots + 2) L (pc + 3) (.ref n :: rest)) : zz_W D zz_cl B p l e R s m args below meth c Q h n cells slots L pc rest := z_new C tt_H (ci := 1) rfl in_H tk_H wd_31 wd_32 wd_2 (by decide +kernel) d hcl hsl k9
theorem nw_D_16 (C : zz_C D zz_cl (zz_ty dA) B zz_tb X p s m args meth c cc RR_D ret nm) (d : decode cc pc = .ok (.new 16, 3)) (hcl : cells + 1 ≤ R.cells) (hsl : slots + 11 ≤ R.slots) (k9 : zz_W D zz_cl B p l e R s m args below meth c Q (zz_up h n (.inr (6, [.int 0, .null, .null, .null, .null, .int 0, .int 0, .int 0, .int 0, .long 0, .int 0]))) (n + 1) (cells + 1) (slots + 11) L (pc + 3) (.ref n :: rest)) : zz_W D zz_cl B p l e R s m args below meth c Q h n cells slots L pc rest := z_new C tt_G (ci := 6) rfl in_G tk_G wd_45 wd_271 wd_12 (by decide +kernel) d hcl hsl k9
theorem nw_D_26 (C : zz_C D zz_cl (zz_ty dA) B zz_tb X p s m args meth c cc RR_D ret nm) (d : decode cc pc = .ok (.new 26, 3)) (hcl : cells + 1 ≤ R.cells) (hsl : slots + 10 ≤ R.slots) (k9 : zz_W D zz_cl B p l e R s m args below meth c Q (zz_up h n (.inr (4, [.int 0, .null, .null, .int 0, .null, .int 0, .long 0, .long 0, .int 0, .int 0]))) (n + 1) (cells + 1) (slots + 10) L (pc + 3) (.ref n :: rest)) : zz_W D zz_cl B p l e R s m args below meth c Q h n cells slots L pc rest := z_new C tt_M (ci := 4) rfl in_M tk_M wd_47 wd_381 wd_15 (by decide +kernel) d hcl hsl k9
theorem nw_D_35 (C : zz_C D zz_cl (zz_ty dA) B zz_tb X p s m args meth c cc RR_D ret nm) (d : decode cc pc = .ok (.new 35, 3)) (hcl : cells + 1 ≤ R.cells) (hsl : slots + 1 ≤ R.slots) (k9 : zz_W D zz_cl B p l e R s m args below meth c Q (zz_up h n (.inr (8, [.null]))) (n + 1) (cells + 1) (slots + 1) L (pc + 3) (.ref n :: rest)) : zz_W D zz_cl B p l e R s m args below meth c Q h n cells slots L pc rest := z_new C tt_B (ci := 8) rfl in_B tk_B wd_49 wd_50 wd_3 (by decide +kernel) d hcl hsl k9
theorem nw_D_42 (C : zz_C D zz_cl (zz_ty dA) B zz_tb X p s m args meth c cc RR_D ret nm) (d : decode cc pc = .ok (.new 42, 3)) (hcl : cells + 1 ≤ R.cells) (hsl : slots + 5 ≤ R.slots) (k9 : zz_W D zz_cl B p l e R s m args below meth c Q (zz_up h n (.inr (10, [.int 0, .int 0, .null, .null, .null]))) (n + 1) (cells + 1) (slots + 5) L (pc + 3) (.ref n :: rest)) : zz_W D zz_cl B p l e R s m args below meth c Q h n cells slots L pc rest := z_new C tt_N (ci := 10) rfl in_N tk_N wd_60 wd_61 wd_4 (by decide +kernel) d hcl hsl k9
theorem nw_D_147 (C : zz_C D zz_cl (zz_ty dA) B zz_tb X p s m args meth c cc RR_D ret nm) (d : decode cc pc = .ok (.new 147, 3)) (hcl : cells + 1 ≤ R.cells) (hsl : slots + 2 ≤ R.slots) (k9 : zz_W D zz_cl B p l e R s m args below meth c Q (zz_up h n (.inr (3, [.int 0, .int 0]))) (n + 1) (cells + 1) (slots + 2) L (pc + 3) (.ref n :: rest)) : zz_W D zz_cl B p l e R s m args below meth c Q h n cells slots L pc rest := z_new C tt_O (ci := 3) rfl in_O tk_O wd_502 wd_503 wd_19 (by decide +kernel) d hcl hsl k9
theorem pf_D_10 (C : zz_C D zz_cl (zz_ty dA) B zz_tb X p s m args meth c cc RR_D ret "<init>") {a : Nat} {fs : List Value} {v : Value} (d : decode cc pc = .ok (.putfield 10, 3)) (hh : h a = some (.inr (0, fs))) (hl : 0 < fs.length) (hn : narrow (.object "DispatchDesk$Hierarchy") v = v) (hf : fits (.object "DispatchDesk$Hierarchy") v = true) (k9 : zz_W D zz_cl B p l e R s m args below meth c Q (zz_up h a (.inr (0, fs.set 0 v))) n cells slots L (pc + 3) rest) : zz_W D zz_cl B p l e R s m args below meth c Q h n cells slots L pc (v :: .ref a :: rest) := z_putF (ty := .object "DispatchDesk$Hierarchy") (k := 0) C tt_D rfl in_D tk_D nn_D (by decide) wd_110 rfl rfl rfl rfl (by decide +kernel) d hh hl hn hf k9
theorem pf_D_18 (C : zz_C D zz_cl (zz_ty dA) B zz_tb X p s m args meth c cc RR_D ret "<init>") {a : Nat} {fs : List Value} {v : Value} (d : decode cc pc = .ok (.putfield 18, 3)) (hh : h a = some (.inr (0, fs))) (hl : 1 < fs.length) (hn : narrow (.array (.object "DispatchDesk$Generic")) v = v) (hf : fits (.array (.object "DispatchDesk$Generic")) v = true) (k9 : zz_W D zz_cl B p l e R s m args below meth c Q (zz_up h a (.inr (0, fs.set 1 v))) n cells slots L (pc + 3) rest) : zz_W D zz_cl B p l e R s m args below meth c Q h n cells slots L pc (v :: .ref a :: rest) := z_putF (ty := .array (.object "DispatchDesk$Generic")) (k := 1) C tt_D rfl in_D tk_D nn_D (by decide) wd_111 rfl rfl rfl rfl (by decide +kernel) d hh hl hn hf k9
theorem pf_D_22 (C : zz_C D zz_cl (zz_ty dA) B zz_tb X p s m args meth c cc RR_D ret nm) {a : Nat} {fs : List Value} {v : Value} (d : decode cc pc = .ok (.putfield 22, 3)) (hh : h a = some (.inr (0, fs))) (hl : 2 < fs.length) (hn : narrow (.int) v = v) (hf : fits (.int) v = true) (k9 : zz_W D zz_cl B p l e R s m args below meth c Q (zz_up h a (.inr (0, fs.set 2 v))) n cells slots L (pc + 3) rest) : zz_W D zz_cl B p l e R s m args below meth c Q h n cells slots L pc (v :: .ref a :: rest) := z_put (ty := .int) (k := 2) C tt_D rfl in_D tk_D nn_D (by decide) wd_112 rfl rfl (by decide +kernel) d hh hl hn hf k9
theorem pf_D_28 (C : zz_C D zz_cl (zz_ty dA) B zz_tb X p s m args meth c cc RR_D ret "<init>") {a : Nat} {fs : List Value} {v : Value} (d : decode cc pc = .ok (.putfield 28, 3)) (hh : h a = some (.inr (0, fs))) (hl : 3 < fs.length) (hn : narrow (.array (.object "DispatchDesk$Method")) v = v) (hf : fits (.array (.object "DispatchDesk$Method")) v = true) (k9 : zz_W D zz_cl B p l e R s m args below meth c Q (zz_up h a (.inr (0, fs.set 3 v))) n cells slots L (pc + 3) rest) : zz_W D zz_cl B p l e R s m args below meth c Q h n cells slots L pc (v :: .ref a :: rest) := z_putF (ty := .array (.object "DispatchDesk$Method")) (k := 3) C tt_D rfl in_D tk_D nn_D (by decide) wd_113 rfl rfl rfl rfl (by decide +kernel) d hh hl hn hf k9
theorem pf_D_32 (C : zz_C D zz_cl (zz_ty dA) B zz_tb X p s m args meth c cc RR_D ret nm) {a : Nat} {fs : List Value} {v : Value} (d : decode cc pc = .ok (.putfield 32, 3)) (hh : h a = some (.inr (0, fs))) (hl : 4 < fs.length) (hn : narrow (.int) v = v) (hf : fits (.int) v = true) (k9 : zz_W D zz_cl B p l e R s m args below meth c Q (zz_up h a (.inr (0, fs.set 4 v))) n cells slots L (pc + 3) rest) : zz_W D zz_cl B p l e R s m args below meth c Q h n cells slots L pc (v :: .ref a :: rest) := z_put (ty := .int) (k := 4) C tt_D rfl in_D tk_D nn_D (by decide) wd_114 rfl rfl (by decide +kernel) d hh hl hn hf k9
theorem pf_D_38 (C : zz_C D zz_cl (zz_ty dA) B zz_tb X p s m args meth c cc RR_D ret "<init>") {a : Nat} {fs : List Value} {v : Value} (d : decode cc pc = .ok (.putfield 38, 3)) (hh : h a = some (.inr (0, fs))) (hl : 5 < fs.length) (hn : narrow (.object "DispatchDesk$GraphBuilder") v = v) (hf : fits (.object "DispatchDesk$GraphBuilder") v = true) (k9 : zz_W D zz_cl B p l e R s m args below meth c Q (zz_up h a (.inr (0, fs.set 5 v))) n cells slots L (pc + 3) rest) : zz_W D zz_cl B p l e R s m args below meth c Q h n cells slots L pc (v :: .ref a :: rest) := z_putF (ty := .object "DispatchDesk$GraphBuilder") (k := 5) C tt_D rfl in_D tk_D nn_D (by decide) wd_115 rfl rfl rfl rfl (by decide +kernel) d hh hl hn hf k9
theorem pf_D_45 (C : zz_C D zz_cl (zz_ty dA) B zz_tb X p s m args meth c cc RR_D ret "<init>") {a : Nat} {fs : List Value} {v : Value} (d : decode cc pc = .ok (.putfield 45, 3)) (hh : h a = some (.inr (0, fs))) (hl : 6 < fs.length) (hn : narrow (.object "DispatchDesk$Machine") v = v) (hf : fits (.object "DispatchDesk$Machine") v = true) (k9 : zz_W D zz_cl B p l e R s m args below meth c Q (zz_up h a (.inr (0, fs.set 6 v))) n cells slots L (pc + 3) rest) : zz_W D zz_cl B p l e R s m args below meth c Q h n cells slots L pc (v :: .ref a :: rest) := z_putF (ty := .object "DispatchDesk$Machine") (k := 6) C tt_D rfl in_D tk_D nn_D (by decide) wd_116 rfl rfl rfl rfl (by decide +kernel) d hh hl hn hf k9
theorem pf_D_49 (C : zz_C D zz_cl (zz_ty dA) B zz_tb X p s m args meth c cc RR_D ret nm) {a : Nat} {fs : List Value} {v : Value} (d : decode cc pc = .ok (.putfield 49, 3)) (hh : h a = some (.inr (0, fs))) (hl : 7 < fs.length) (hn : narrow (.int) v = v) (hf : fits (.int) v = true) (k9 : zz_W D zz_cl B p l e R s m args below meth c Q (zz_up h a (.inr (0, fs.set 7 v))) n cells slots L (pc + 3) rest) : zz_W D zz_cl B p l e R s m args below meth c Q h n cells slots L pc (v :: .ref a :: rest) := z_put (ty := .int) (k := 7) C tt_D rfl in_D tk_D nn_D (by decide) wd_117 rfl rfl (by decide +kernel) d hh hl hn hf k9
theorem pf_D_52 (C : zz_C D zz_cl (zz_ty dA) B zz_tb X p s m args meth c cc RR_D ret nm) {a : Nat} {fs : List Value} {v : Value} (d : decode cc pc = .ok (.putfield 52, 3)) (hh : h a = some (.inr (0, fs))) (hl : 8 < fs.length) (hn : narrow (.int) v = v) (hf : fits (.int) v = true) (k9 : zz_W D zz_cl B p l e R s m args below meth c Q (zz_up h a (.inr (0, fs.set 8 v))) n cells slots L (pc + 3) rest) : zz_W D zz_cl B p l e R s m args below meth c Q h n cells slots L pc (v :: .ref a :: rest) := z_put (ty := .int) (k := 8) C tt_D rfl in_D tk_D nn_D (by decide) wd_118 rfl rfl (by decide +kernel) d hh hl hn hf k9
theorem pf_D_55 (C : zz_C D zz_cl (zz_ty dA) B zz_tb X p s m args meth c cc RR_D ret nm) {a : Nat} {fs : List Value} {v : Value} (d : decode cc pc = .ok (.putfield 55, 3)) (hh : h a = some (.inr (0, fs))) (hl : 9 < fs.length) (hn : narrow (.int) v = v) (hf : fits (.int) v = true) (k9 : zz_W D zz_cl B p l e R s m args below meth c Q (zz_up h a (.inr (0, fs.set 9 v))) n cells slots L (pc + 3) rest) : zz_W D zz_cl B p l e R s m args below meth c Q h n cells slots L pc (v :: .ref a :: rest) := z_put (ty := .int) (k := 9) C tt_D rfl in_D tk_D nn_D (by decide) wd_119 rfl rfl (by decide +kernel) d hh hl hn hf k9
theorem gf_E_13 (C : zz_C D zz_cl (zz_ty dA) B zz_tb X p s m args meth c cc RR_E ret nm) {a : Nat} {fs : List Value} {v : Value} (d : decode cc pc = .ok (.getfield 13, 3)) (hh : h a = some (.inr (9, fs))) (hv : fs[1]? = some v) (k9 : zz_W D zz_cl B p l e R s m args below meth c Q h n cells slots L (pc + 3) (v :: rest)) : zz_W D zz_cl B p l e R s m args below meth c Q h n cells slots L pc (.ref a :: rest) := z_get (k := 1) C rfl in_E (by decide) wd_75 rfl d hh hv k9
theorem gf_E_20 (C : zz_C D zz_cl (zz_ty dA) B zz_tb X p s m args meth c cc RR_E ret nm) {a : Nat} {fs : List Value} {v : Value} (d : decode cc pc = .ok (.getfield 20, 3)) (hh : h a = some (.inr (9, fs))) (hv : fs[3]? = some v) (k9 : zz_W D zz_cl B p l e R s m args below meth c Q h n cells slots L (pc + 3) (v :: rest)) : zz_W D zz_cl B p l e R s m args below meth c Q h n cells slots L pc (.ref a :: rest) := z_get (k := 3) C rfl in_E (by decide) wd_79 rfl d hh hv k9
theorem gf_E_24 (C : zz_C D zz_cl (zz_ty dA) B zz_tb X p s m args meth c cc RR_E ret nm) {a : Nat} {fs : List Value} {v : Value} (d : decode cc pc = .ok (.getfield 24, 3)) (hh : h a = some (.inr (9, fs))) (hv : fs[4]? = some v) (k9 : zz_W D zz_cl B p l e R s m args below meth c Q h n cells slots L (pc + 3) (v :: rest)) : zz_W D zz_cl B p l e R s m args below meth c Q h n cells slots L pc (.ref a :: rest) := z_get (k := 4) C rfl in_E (by decide) wd_80 rfl d hh hv k9
theorem oi_E_1 (C : zz_C D zz_cl (zz_ty dA) B zz_tb X p s m args meth c cc RR_E ret nm) {a : Nat} (d : decode cc pc = .ok (.invokespecial 1, 3)) (hfr : 1 ≤ R.frames) (hlo : (rest.map fun v => v.category).sum + 12 ≤ R.locals) (k9 : zz_W D zz_cl B p l e R s m args below meth c Q h n cells slots L (pc + 3) rest) : zz_W D zz_cl B p l e R s m args below meth c Q h n cells slots L pc (.ref a :: rest) := z_objInit C wd_72 wd_29 wd_30 d hfr hlo k9
theorem pf_E_7 (C : zz_C D zz_cl (zz_ty dA) B zz_tb X p s m args meth c cc RR_E ret nm) {a : Nat} {fs : List Value} {v : Value} (d : decode cc pc = .ok (.putfield 7, 3)) (hh : h a = some (.inr (9, fs))) (hl : 0 < fs.length) (hn : narrow (.object "DispatchDesk$Method") v = v) (hf : fits (.object "DispatchDesk$Method") v = true) (k9 : zz_W D zz_cl B p l e R s m args below meth c Q (zz_up h a (.inr (9, fs.set 0 v))) n cells slots L (pc + 3) rest) : zz_W D zz_cl B p l e R s m args below meth c Q h n cells slots L pc (v :: .ref a :: rest) := z_put (ty := .object "DispatchDesk$Method") (k := 0) C tt_E rfl in_E tk_E nn_E (by decide) wd_73 rfl rfl (by decide +kernel) d hh hl hn hf k9
theorem pf_E_13 (C : zz_C D zz_cl (zz_ty dA) B zz_tb X p s m args meth c cc RR_E ret nm) {a : Nat} {fs : List Value} {v : Value} (d : decode cc pc = .ok (.putfield 13, 3)) (hh : h a = some (.inr (9, fs))) (hl : 1 < fs.length) (hn : narrow (.int) v = v) (hf : fits (.int) v = true) (k9 : zz_W D zz_cl B p l e R s m args below meth c Q (zz_up h a (.inr (9, fs.set 1 v))) n cells slots L (pc + 3) rest) : zz_W D zz_cl B p l e R s m args below meth c Q h n cells slots L pc (v :: .ref a :: rest) := z_put (ty := .int) (k := 1) C tt_E rfl in_E tk_E nn_E (by decide) wd_75 rfl rfl (by decide +kernel) d hh hl hn hf k9
theorem pf_E_17 (C : zz_C D zz_cl (zz_ty dA) B zz_tb X p s m args meth c cc RR_E ret nm) {a : Nat} {fs : List Value} {v : Value} (d : decode cc pc = .ok (.putfield 17, 3)) (hh : h a = some (.inr (9, fs))) (hl : 2 < fs.length) (hn : narrow (.int) v = v) (hf : fits (.int) v = true) (k9 : zz_W D zz_cl B p l e R s m args below meth c Q (zz_up h a (.inr (9, fs.set 2 v))) n cells slots L (pc + 3) rest) : zz_W D zz_cl B p l e R s m args below meth c Q h n cells slots L pc (v :: .ref a :: rest) := z_put (ty := .int) (k := 2) C tt_E rfl in_E tk_E nn_E (by decide) wd_77 rfl rfl (by decide +kernel) d hh hl hn hf k9
theorem pf_E_20 (C : zz_C D zz_cl (zz_ty dA) B zz_tb X p s m args meth c cc RR_E ret "<init>") {a : Nat} {fs : List Value} {v : Value} (d : decode cc pc = .ok (.putfield 20, 3)) (hh : h a = some (.inr (9, fs))) (hl : 3 < fs.length) (hn : narrow (.array (.int)) v = v) (hf : fits (.array (.int)) v = true) (k9 : zz_W D zz_cl B p l e R s m args below meth c Q (zz_up h a (.inr (9, fs.set 3 v))) n cells slots L (pc + 3) rest) : zz_W D zz_cl B p l e R s m args below meth c Q h n cells slots L pc (v :: .ref a :: rest) := z_putF (ty := .array (.int)) (k := 3) C tt_E rfl in_E tk_E nn_E (by decide) wd_79 rfl rfl rfl rfl (by decide +kernel) d hh hl hn hf k9
theorem pf_E_24 (C : zz_C D zz_cl (zz_ty dA) B zz_tb X p s m args meth c cc RR_E ret nm) {a : Nat} {fs : List Value} {v : Value} (d : decode cc pc = .ok (.putfield 24, 3)) (hh : h a = some (.inr (9, fs))) (hl : 4 < fs.length) (hn : narrow (.int) v = v) (hf : fits (.int) v = true) (k9 : zz_W D zz_cl B p l e R s m args below meth c Q (zz_up h a (.inr (9, fs.set 4 v))) n cells slots L (pc + 3) rest) : zz_W D zz_cl B p l e R s m args below meth c Q h n cells slots L pc (v :: .ref a :: rest) := z_put (ty := .int) (k := 4) C tt_E rfl in_E tk_E nn_E (by decide) wd_80 rfl rfl (by decide +kernel) d hh hl hn hf k9
theorem an_F_13 (C : zz_C D zz_cl (zz_ty dA) B zz_tb X p s m args meth c cc RR_F ret nm) {N : Nat} {x : Int32} (d : decode cc pc = .ok (.anewarray 13, 3)) (hx : ¬ x < 0) (hN : x.toNatClampNeg = N) (hby : N * 4 ≤ 536870912) (hcl : cells + 1 ≤ R.cells) (hsl : slots + N ≤ R.slots) (k9 : zz_W D zz_cl B p l e R s m args below meth c Q (zz_up h n (.inl (dA 5, N, .inr (.inr (.inr (.inr (fun _ => none))))))) (n + 1) (cells + 1) (slots + N) L (pc + 3) (.ref n :: rest)) : zz_W D zz_cl B p l e R s m args below meth c Q h n cells slots L pc (.int x :: rest) := z_anew (t0 := 5) C wd_302 wd_303 rfl d hx hN hby hcl hsl k9
theorem gf_F_15 (C : zz_C D zz_cl (zz_ty dA) B zz_tb X p s m args meth c cc RR_F ret nm) {a : Nat} {fs : List Value} {v : Value} (d : decode cc pc = .ok (.getfield 15, 3)) (hh : h a = some (.inr (5, fs))) (hv : fs[1]? = some v) (k9 : zz_W D zz_cl B p l e R s m args below meth c Q h n cells slots L (pc + 3) (v :: rest)) : zz_W D zz_cl B p l e R s m args below meth c Q h n cells slots L pc (.ref a :: rest) := z_get (k := 1) C rfl in_F (by decide) wd_305 rfl d hh hv k9
theorem gf_F_19 (C : zz_C D zz_cl (zz_ty dA) B zz_tb X p s m args meth c cc RR_F ret nm) {a : Nat} {fs : List Value} {v : Value} (d : decode cc pc = .ok (.getfield 19, 3)) (hh : h a = some (.inr (5, fs))) (hv : fs[2]? = some v) (k9 : zz_W D zz_cl B p l e R s m args below meth c Q h n cells slots L (pc + 3) (v :: rest)) : zz_W D zz_cl B p l e R s m args below meth c Q h n cells slots L pc (.ref a :: rest) := z_get (k := 2) C rfl in_F (by decide) wd_306 rfl d hh hv k9
theorem gf_F_25 (C : zz_C D zz_cl (zz_ty dA) B zz_tb X p s m args meth c cc RR_F ret nm) {a : Nat} {fs : List Value} {v : Value} (d : decode cc pc = .ok (.getfield 25, 3)) (hh : h a = some (.inr (5, fs))) (hv : fs[3]? = some v) (k9 : zz_W D zz_cl B p l e R s m args below meth c Q h n cells slots L (pc + 3) (v :: rest)) : zz_W D zz_cl B p l e R s m args below meth c Q h n cells slots L pc (.ref a :: rest) := z_get (k := 3) C rfl in_F (by decide) wd_307 rfl d hh hv k9
theorem gf_F_29 (C : zz_C D zz_cl (zz_ty dA) B zz_tb X p s m args meth c cc RR_F ret nm) {a : Nat} {fs : List Value} {v : Value} (d : decode cc pc = .ok (.getfield 29, 3)) (hh : h a = some (.inr (5, fs))) (hv : fs[4]? = some v) (k9 : zz_W D zz_cl B p l e R s m args below meth c Q h n cells slots L (pc + 3) (v :: rest)) : zz_W D zz_cl B p l e R s m args below meth c Q h n cells slots L pc (.ref a :: rest) := z_get (k := 4) C rfl in_F (by decide) wd_308 rfl d hh hv k9
theorem gf_F_32 (C : zz_C D zz_cl (zz_ty dA) B zz_tb X p s m args meth c cc RR_F ret nm) {a : Nat} {fs : List Value} {v : Value} (d : decode cc pc = .ok (.getfield 32, 3)) (hh : h a = some (.inr (5, fs))) (hv : fs[5]? = some v) (k9 : zz_W D zz_cl B p l e R s m args below meth c Q h n cells slots L (pc + 3) (v :: rest)) : zz_W D zz_cl B p l e R s m args below meth c Q h n cells slots L pc (.ref a :: rest) := z_get (k := 5) C rfl in_F (by decide) wd_309 rfl d hh hv k9
theorem gf_F_36 (C : zz_C D zz_cl (zz_ty dA) B zz_tb X p s m args meth c cc RR_F ret nm) {a : Nat} {fs : List Value} {v : Value} (d : decode cc pc = .ok (.getfield 36, 3)) (hh : h a = some (.inr (5, fs))) (hv : fs[6]? = some v) (k9 : zz_W D zz_cl B p l e R s m args below meth c Q h n cells slots L (pc + 3) (v :: rest)) : zz_W D zz_cl B p l e R s m args below meth c Q h n cells slots L pc (.ref a :: rest) := z_get (k := 6) C rfl in_F (by decide) wd_310 rfl d hh hv k9
theorem gf_F_39 (C : zz_C D zz_cl (zz_ty dA) B zz_tb X p s m args meth c cc RR_F ret nm) {a : Nat} {fs : List Value} {v : Value} (d : decode cc pc = .ok (.getfield 39, 3)) (hh : h a = some (.inr (5, fs))) (hv : fs[0]? = some v) (k9 : zz_W D zz_cl B p l e R s m args below meth c Q h n cells slots L (pc + 3) (v :: rest)) : zz_W D zz_cl B p l e R s m args below meth c Q h n cells slots L pc (.ref a :: rest) := z_get (k := 0) C rfl in_F (by decide) wd_304 rfl d hh hv k9
theorem oi_F_5 (C : zz_C D zz_cl (zz_ty dA) B zz_tb X p s m args meth c cc RR_F ret nm) {a : Nat} (d : decode cc pc = .ok (.invokespecial 5, 3)) (hfr : 1 ≤ R.frames) (hlo : (rest.map fun v => v.category).sum + 12 ≤ R.locals) (k9 : zz_W D zz_cl B p l e R s m args below meth c Q h n cells slots L (pc + 3) rest) : zz_W D zz_cl B p l e R s m args below meth c Q h n cells slots L pc (.ref a :: rest) := z_objInit C wd_301 wd_29 wd_30 d hfr hlo k9
theorem is_F_68 (F : zz_F B zz_tb X) (C : zz_C D zz_cl (zz_ty dA) B zz_tb X p s m args meth c cc RR_F ret nm) {rm : Room} {As st0 : List Value} {sk : ρ → List Value} (d : decode cc pc = .ok (.invokestatic 68, 3)) (hM : zz_M l D zz_cl (zz_ty dA) B zz_tb X yy_V_numberOf (Cond.code yy_V_numberOf prog_12_method_5_code 1 (some FieldType.int)) rm As h n mk post) (hn : As.length = 1) (hst : st0 = As.reverse ++ rest) (hR : rm.frames + 1 ≤ R.frames ∧ 8 + (1 + 11) + rm.locals ≤ R.locals) (hW : (rest.map fun v => v.category).sum ≤ 8) (hf : cells + rm.cells ≤ R.cells ∧ slots + rm.slots ≤ R.slots) (hsk : ∀ r, (mk r).toList ++ rest = sk r) (kk : ∀ (r : ρ) (h' : zz_H) (n' : Nat), post r h' n' → zz_W D zz_cl B p l e R s m args below meth c Q h' n' (cells + rm.cells) (slots + rm.slots) L (pc + 3) (sk r)) : zz_W D zz_cl B p l e R s m args below meth c Q h n cells slots L pc st0 :=
  z_callS F C wd_569 wd_16 wd_599 wd_568 ⟨by decide, by decide, by decide +kernel⟩ d hM hn hst hR hW hf hsk kk
theorem is_F_74 (F : zz_F B zz_tb X) (C : zz_C D zz_cl (zz_ty dA) B zz_tb X p s m args meth c cc RR_F ret nm) {rm : Room} {As st0 : List Value} {sk : ρ → List Value} (d : decode cc pc = .ok (.invokestatic 74, 3)) (hM : zz_M l D zz_cl (zz_ty dA) B zz_tb X yy_V_classOf (Cond.code yy_V_classOf prog_12_method_4_code 1 (some FieldType.int)) rm As h n mk post) (hn : As.length = 1) (hst : st0 = As.reverse ++ rest) (hR : rm.frames + 1 ≤ R.frames ∧ 8 + (1 + 11) + rm.locals ≤ R.locals) (hW : (rest.map fun v => v.category).sum ≤ 8) (hf : cells + rm.cells ≤ R.cells ∧ slots + rm.slots ≤ R.slots) (hsk : ∀ r, (mk r).toList ++ rest = sk r) (kk : ∀ (r : ρ) (h' : zz_H) (n' : Nat), post r h' n' → zz_W D zz_cl B p l e R s m args below meth c Q h' n' (cells + rm.cells) (slots + rm.slots) L (pc + 3) (sk r)) : zz_W D zz_cl B p l e R s m args below meth c Q h n cells slots L pc st0 :=
  z_callS F C wd_572 wd_16 wd_600 wd_571 ⟨by decide, by decide, by decide +kernel⟩ d hM hn hst hR hW hf hsk kk
theorem iv_F_43 (F : zz_F B zz_tb X) (C : zz_C D zz_cl (zz_ty dA) B zz_tb X p s m args meth c cc RR_F ret nm) {rm : Room} {As st0 : List Value} {sk : ρ → List Value} {b : Nat} {fs : List Value} (d : decode cc pc = .ok (.invokevirtual 43, 3)) (hM : zz_M l D zz_cl (zz_ty dA) B zz_tb X yy_A_kind (Cond.code yy_A_kind prog_2_method_8_code 1 (some FieldType.int)) rm (.ref b :: As) h n mk post) (hh : h b = some (.inr (2, fs))) (hn : As.length = 0) (hst : st0 = As.reverse ++ .ref b :: rest) (hR : rm.frames + 1 ≤ R.frames ∧ 8 + (1 + 11) + rm.locals ≤ R.locals) (hW : (rest.map fun v => v.category).sum ≤ 8) (hf : cells + rm.cells ≤ R.cells ∧ slots + rm.slots ≤ R.slots) (hsk : ∀ r, (mk r).toList ++ rest = sk r) (kk : ∀ (r : ρ) (h' : zz_H) (n' : Nat), post r h' n' → zz_W D zz_cl B p l e R s m args below meth c Q h' n' (cells + rm.cells) (slots + rm.slots) L (pc + 3) (sk r)) : zz_W D zz_cl B p l e R s m args below meth c Q h n cells slots L pc st0 :=
  z_callV F C wd_554 wd_18 wd_551 wd_552 wd_553 ⟨by decide, by decide, by decide +kernel⟩ rfl rfl d hM hh hn hst hR hW hf hsk kk
theorem iv_F_47 (F : zz_F B zz_tb X) (C : zz_C D zz_cl (zz_ty dA) B zz_tb X p s m args meth c cc RR_F ret nm) {rm : Room} {As st0 : List Value} {sk : ρ → List Value} {b : Nat} {fs : List Value} (d : decode cc pc = .ok (.invokevirtual 47, 3)) (hM : zz_M l D zz_cl (zz_ty dA) B zz_tb X yy_A_i (Cond.code yy_A_i prog_2_method_9_code 1 (some FieldType.int)) rm (.ref b :: As) h n mk post) (hh : h b = some (.inr (2, fs))) (hn : As.length = 0) (hst : st0 = As.reverse ++ .ref b :: rest) (hR : rm.frames + 1 ≤ R.frames ∧ 8 + (1 + 11) + rm.locals ≤ R.locals) (hW : (rest.map fun v => v.category).sum ≤ 8) (hf : cells + rm.cells ≤ R.cells ∧ slots + rm.slots ≤ R.slots) (hsk : ∀ r, (mk r).toList ++ rest = sk r) (kk : ∀ (r : ρ) (h' : zz_H) (n' : Nat), post r h' n' → zz_W D zz_cl B p l e R s m args below meth c Q h' n' (cells + rm.cells) (slots + rm.slots) L (pc + 3) (sk r)) : zz_W D zz_cl B p l e R s m args below meth c Q h n cells slots L pc st0 :=
  z_callV F C wd_558 wd_18 wd_555 wd_556 wd_557 ⟨by decide, by decide, by decide +kernel⟩ rfl rfl d hM hh hn hst hR hW hf hsk kk
theorem iv_F_50 (F : zz_F B zz_tb X) (C : zz_C D zz_cl (zz_ty dA) B zz_tb X p s m args meth c cc RR_F ret nm) {rm : Room} {As st0 : List Value} {sk : ρ → List Value} {b : Nat} {fs : List Value} (d : decode cc pc = .ok (.invokevirtual 50, 3)) (hM : zz_M l D zz_cl (zz_ty dA) B zz_tb X yy_A_x (Cond.code yy_A_x prog_2_method_10_code 1 (some FieldType.int)) rm (.ref b :: As) h n mk post) (hh : h b = some (.inr (2, fs))) (hn : As.length = 0) (hst : st0 = As.reverse ++ .ref b :: rest) (hR : rm.frames + 1 ≤ R.frames ∧ 8 + (1 + 11) + rm.locals ≤ R.locals) (hW : (rest.map fun v => v.category).sum ≤ 8) (hf : cells + rm.cells ≤ R.cells ∧ slots + rm.slots ≤ R.slots) (hsk : ∀ r, (mk r).toList ++ rest = sk r) (kk : ∀ (r : ρ) (h' : zz_H) (n' : Nat), post r h' n' → zz_W D zz_cl B p l e R s m args below meth c Q h' n' (cells + rm.cells) (slots + rm.slots) L (pc + 3) (sk r)) : zz_W D zz_cl B p l e R s m args below meth c Q h n cells slots L pc st0 :=
  z_callV F C wd_785 wd_18 wd_782 wd_783 wd_784 ⟨by decide, by decide, by decide +kernel⟩ rfl rfl d hM hh hn hst hR hW hf hsk kk
theorem iv_F_53 (F : zz_F B zz_tb X) (C : zz_C D zz_cl (zz_ty dA) B zz_tb X p s m args meth c cc RR_F ret nm) {rm : Room} {As st0 : List Value} {sk : ρ → List Value} {b : Nat} {fs : List Value} (d : decode cc pc = .ok (.invokevirtual 53, 3)) (hM : zz_M l D zz_cl (zz_ty dA) B zz_tb X yy_A_asksTheSame (Cond.code yy_A_asksTheSame prog_2_method_3_code 2 (some FieldType.boolean)) rm (.ref b :: As) h n mk post) (hh : h b = some (.inr (2, fs))) (hn : As.length = 1) (hst : st0 = As.reverse ++ .ref b :: rest) (hR : rm.frames + 1 ≤ R.frames ∧ 8 + (2 + 11) + rm.locals ≤ R.locals) (hW : (rest.map fun v => v.category).sum ≤ 8) (hf : cells + rm.cells ≤ R.cells ∧ slots + rm.slots ≤ R.slots) (hsk : ∀ r, (mk r).toList ++ rest = sk r) (kk : ∀ (r : ρ) (h' : zz_H) (n' : Nat), post r h' n' → zz_W D zz_cl B p l e R s m args below meth c Q h' n' (cells + rm.cells) (slots + rm.slots) L (pc + 3) (sk r)) : zz_W D zz_cl B p l e R s m args below meth c Q h n cells slots L pc st0 :=
  z_callV F C wd_546 wd_18 wd_543 wd_544 wd_545 ⟨by decide, by decide, by decide +kernel⟩ rfl rfl d hM hh hn hst hR hW hf hsk kk
theorem iv_F_57 (F : zz_F B zz_tb X) (C : zz_C D zz_cl (zz_ty dA) B zz_tb X p s m args meth c cc RR_F ret nm) {rm : Room} {As st0 : List Value} {sk : ρ → List Value} {b : Nat} {fs : List Value} (d : decode cc pc = .ok (.invokevirtual 57, 3)) (hM : zz_M l D zz_cl (zz_ty dA) B zz_tb X yy_F_note (Cond.code yy_F_note prog_3_method_6_code 6 none) rm (.ref b :: As) h n mk post) (hh : h b = some (.inr (5, fs))) (hn : As.length = 2) (hst : st0 = As.reverse ++ .ref b :: rest) (hR : rm.frames + 1 ≤ R.frames ∧ 8 + (6 + 11) + rm.locals ≤ R.locals) (hW : (rest.map fun v => v.category).sum ≤ 8) (hf : cells + rm.cells ≤ R.cells ∧ slots + rm.slots ≤ R.slots) (hsk : ∀ r, (mk r).toList ++ rest = sk r) (kk : ∀ (r : ρ) (h' : zz_H) (n' : Nat), post r h' n' → zz_W D zz_cl B p l e R s m args below meth c Q h' n' (cells + rm.cells) (slots + rm.slots) L (pc + 3) (sk r)) : zz_W D zz_cl B p l e R s m args below meth c Q h n cells slots L pc st0 :=
  z_callV F C wd_550 wd_14 wd_547 wd_549 (zz_wp (y := yy_F_note) (k := 7) (by decide +kernel) (by decide +kernel)) ⟨by decide, by decide, by decide +kernel⟩ rfl rfl d hM hh hn hst hR hW hf hsk kk
theorem iv_F_61 (F : zz_F B zz_tb X) (C : zz_C D zz_cl (zz_ty dA) B zz_tb X p s m args meth c cc RR_F ret nm) {rm : Room} {As st0 : List Value} {sk : ρ → List Value} {b : Nat} {fs : List Value} (d : decode cc pc = .ok (.invokevirtual 61, 3)) (hM : zz_M l D zz_cl (zz_ty dA) B zz_tb X yy_H_valueCount (Cond.code yy_H_valueCount prog_8_method_6_code 1 (some FieldType.int)) rm (.ref b :: As) h n mk post) (hh : h b = some (.inr (1, fs))) (hn : As.length = 0) (hst : st0 = As.reverse ++ .ref b :: rest) (hR : rm.frames + 1 ≤ R.frames ∧ 8 + (1 + 11) + rm.locals ≤ R.locals) (hW : (rest.map fun v => v.category).sum ≤ 8) (hf : cells + rm.cells ≤ R.cells ∧ slots + rm.slots ≤ R.slots) (hsk : ∀ r, (mk r).toList ++ rest = sk r) (kk : ∀ (r : ρ) (h' : zz_H) (n' : Nat), post r h' n' → zz_W D zz_cl B p l e R s m args below meth c Q h' n' (cells + rm.cells) (slots + rm.slots) L (pc + 3) (sk r)) : zz_W D zz_cl B p l e R s m args below meth c Q h n cells slots L pc st0 :=
  z_callV F C wd_562 wd_2 wd_559 wd_560 wd_561 ⟨by decide, by decide, by decide +kernel⟩ rfl rfl d hM hh hn hst hR hW hf hsk kk
theorem iv_F_64 (F : zz_F B zz_tb X) (C : zz_C D zz_cl (zz_ty dA) B zz_tb X p s m args meth c cc RR_F ret nm) {rm : Room} {As st0 : List Value} {sk : ρ → List Value} {b : Nat} {fs : List Value} (d : decode cc pc = .ok (.invokevirtual 64, 3)) (hM : zz_M l D zz_cl (zz_ty dA) B zz_tb X yy_A_holdsFor (Cond.code yy_A_holdsFor prog_2_method_4_code 4 (some FieldType.boolean)) rm (.ref b :: As) h n mk post) (hh : h b = some (.inr (2, fs))) (hn : As.length = 2) (hst : st0 = As.reverse ++ .ref b :: rest) (hR : rm.frames + 1 ≤ R.frames ∧ 8 + (4 + 11) + rm.locals ≤ R.locals) (hW : (rest.map fun v => v.category).sum ≤ 8) (hf : cells + rm.cells ≤ R.cells ∧ slots + rm.slots ≤ R.slots) (hsk : ∀ r, (mk r).toList ++ rest = sk r) (kk : ∀ (r : ρ) (h' : zz_H) (n' : Nat), post r h' n' → zz_W D zz_cl B p l e R s m args below meth c Q h' n' (cells + rm.cells) (slots + rm.slots) L (pc + 3) (sk r)) : zz_W D zz_cl B p l e R s m args below meth c Q h n cells slots L pc st0 :=
  z_callV F C wd_566 wd_18 wd_563 wd_564 wd_565 ⟨by decide, by decide, by decide +kernel⟩ rfl rfl d hM hh hn hst hR hW hf hsk kk
theorem pf_F_15 (C : zz_C D zz_cl (zz_ty dA) B zz_tb X p s m args meth c cc RR_F ret "<init>") {a : Nat} {fs : List Value} {v : Value} (d : decode cc pc = .ok (.putfield 15, 3)) (hh : h a = some (.inr (5, fs))) (hl : 1 < fs.length) (hn : narrow (.array (.object "DispatchDesk$Atom")) v = v) (hf : fits (.array (.object "DispatchDesk$Atom")) v = true) (k9 : zz_W D zz_cl B p l e R s m args below meth c Q (zz_up h a (.inr (5, fs.set 1 v))) n cells slots L (pc + 3) rest) : zz_W D zz_cl B p l e R s m args below meth c Q h n cells slots L pc (v :: .ref a :: rest) := z_putF (ty := .array (.object "DispatchDesk$Atom")) (k := 1) C tt_F rfl in_F tk_F nn_F (by decide) wd_305 rfl rfl rfl rfl (by decide +kernel) d hh hl hn hf k9
theorem pf_F_19 (C : zz_C D zz_cl (zz_ty dA) B zz_tb X p s m args meth c cc RR_F ret nm) {a : Nat} {fs : List Value} {v : Value} (d : decode cc pc = .ok (.putfield 19, 3)) (hh : h a = some (.inr (5, fs))) (hl : 2 < fs.length) (hn : narrow (.int) v = v) (hf : fits (.int) v = true) (k9 : zz_W D zz_cl B p l e R s m args below meth c Q (zz_up h a (.inr (5, fs.set 2 v))) n cells slots L (pc + 3) rest) : zz_W D zz_cl B p l e R s m args below meth c Q h n cells slots L pc (v :: .ref a :: rest) := z_put (ty := .int) (k := 2) C tt_F rfl in_F tk_F nn_F (by decide) wd_306 rfl rfl (by decide +kernel) d hh hl hn hf k9
theorem pf_F_25 (C : zz_C D zz_cl (zz_ty dA) B zz_tb X p s m args meth c cc RR_F ret "<init>") {a : Nat} {fs : List Value} {v : Value} (d : decode cc pc = .ok (.putfield 25, 3)) (hh : h a = some (.inr (5, fs))) (hl : 3 < fs.length) (hn : narrow (.array (.long)) v = v) (hf : fits (.array (.long)) v = true) (k9 : zz_W D zz_cl B p l e R s m args below meth c Q (zz_up h a (.inr (5, fs.set 3 v))) n cells slots L (pc + 3) rest) : zz_W D zz_cl B p l e R s m args below meth c Q h n cells slots L pc (v :: .ref a :: rest) := z_putF (ty := .array (.long)) (k := 3) C tt_F rfl in_F tk_F nn_F (by decide) wd_307 rfl rfl rfl rfl (by decide +kernel) d hh hl hn hf k9
theorem pf_F_29 (C : zz_C D zz_cl (zz_ty dA) B zz_tb X p s m args meth c cc RR_F ret "<init>") {a : Nat} {fs : List Value} {v : Value} (d : decode cc pc = .ok (.putfield 29, 3)) (hh : h a = some (.inr (5, fs))) (hl : 4 < fs.length) (hn : narrow (.array (.long)) v = v) (hf : fits (.array (.long)) v = true) (k9 : zz_W D zz_cl B p l e R s m args below meth c Q (zz_up h a (.inr (5, fs.set 4 v))) n cells slots L (pc + 3) rest) : zz_W D zz_cl B p l e R s m args below meth c Q h n cells slots L pc (v :: .ref a :: rest) := z_putF (ty := .array (.long)) (k := 4) C tt_F rfl in_F tk_F nn_F (by decide) wd_308 rfl rfl rfl rfl (by decide +kernel) d hh hl hn hf k9
theorem pf_F_32 (C : zz_C D zz_cl (zz_ty dA) B zz_tb X p s m args meth c cc RR_F ret nm) {a : Nat} {fs : List Value} {v : Value} (d : decode cc pc = .ok (.putfield 32, 3)) (hh : h a = some (.inr (5, fs))) (hl : 5 < fs.length) (hn : narrow (.long) v = v) (hf : fits (.long) v = true) (k9 : zz_W D zz_cl B p l e R s m args below meth c Q (zz_up h a (.inr (5, fs.set 5 v))) n cells slots L (pc + 3) rest) : zz_W D zz_cl B p l e R s m args below meth c Q h n cells slots L pc (v :: .ref a :: rest) := z_put (ty := .long) (k := 5) C tt_F rfl in_F tk_F nn_F (by decide) wd_309 rfl rfl (by decide +kernel) d hh hl hn hf k9
theorem pf_F_36 (C : zz_C D zz_cl (zz_ty dA) B zz_tb X p s m args meth c cc RR_F ret nm) {a : Nat} {fs : List Value} {v : Value} (d : decode cc pc = .ok (.putfield 36, 3)) (hh : h a = some (.inr (5, fs))) (hl : 6 < fs.length) (hn : narrow (.long) v = v) (hf : fits (.long) v = true) (k9 : zz_W D zz_cl B p l e R s m args below meth c Q (zz_up h a (.inr (5, fs.set 6 v))) n cells slots L (pc + 3) rest) : zz_W D zz_cl B p l e R s m args below meth c Q h n cells slots L pc (v :: .ref a :: rest) := z_put (ty := .long) (k := 6) C tt_F rfl in_F tk_F nn_F (by decide) wd_310 rfl rfl (by decide +kernel) d hh hl hn hf k9
theorem pf_F_39 (C : zz_C D zz_cl (zz_ty dA) B zz_tb X p s m args meth c cc RR_F ret "<init>") {a : Nat} {fs : List Value} {v : Value} (d : decode cc pc = .ok (.putfield 39, 3)) (hh : h a = some (.inr (5, fs))) (hl : 0 < fs.length) (hn : narrow (.object "DispatchDesk$Hierarchy") v = v) (hf : fits (.object "DispatchDesk$Hierarchy") v = true) (k9 : zz_W D zz_cl B p l e R s m args below meth c Q (zz_up h a (.inr (5, fs.set 0 v))) n cells slots L (pc + 3) rest) : zz_W D zz_cl B p l e R s m args below meth c Q h n cells slots L pc (v :: .ref a :: rest) := z_putF (ty := .object "DispatchDesk$Hierarchy") (k := 0) C tt_F rfl in_F tk_F nn_F (by decide) wd_304 rfl rfl rfl rfl (by decide +kernel) d hh hl hn hf k9
theorem an_G_18 (C : zz_C D zz_cl (zz_ty dA) B zz_tb X p s m args meth c cc RR_G ret nm) {N : Nat} {x : Int32} (d : decode cc pc = .ok (.anewarray 18, 3)) (hx : ¬ x < 0) (hN : x.toNatClampNeg = N) (hby : N * 4 ≤ 536870912) (hcl : cells + 1 ≤ R.cells) (hsl : slots + N ≤ R.slots) (k9 : zz_W D zz_cl B p l e R s m args below meth c Q (zz_up h n (.inl (dA 4, N, .inr (.inr (.inr (.inr (fun _ => none))))))) (n + 1) (cells + 1) (slots + N) L (pc + 3) (.ref n :: rest)) : zz_W D zz_cl B p l e R s m args below meth c Q h n cells slots L pc (.int x :: rest) := z_anew (t0 := 4) C wd_295 wd_48 rfl d hx hN hby hcl hsl k9
theorem gf_G_12 (C : zz_C D zz_cl (zz_ty dA) B zz_tb X p s m args meth c cc RR_G ret nm) {a : Nat} {fs : List Value} {v : Value} (d : decode cc pc = .ok (.getfield 12, 3)) (hh : h a = some (.inr (6, fs))) (hv : fs[2]? = some v) (k9 : zz_W D zz_cl B p l e R s m args below meth c Q h n cells slots L (pc + 3) (v :: rest)) : zz_W D zz_cl B p l e R s m args below meth c Q h n cells slots L pc (.ref a :: rest) := z_get (k := 2) C rfl in_G (by decide) wd_333 rfl d hh hv k9
theorem gf_G_20 (C : zz_C D zz_cl (zz_ty dA) B zz_tb X p s m args meth c cc RR_G ret nm) {a : Nat} {fs : List Value} {v : Value} (d : decode cc pc = .ok (.getfield 20, 3)) (hh : h a = some (.inr (6, fs))) (hv : fs[4]? = some v) (k9 : zz_W D zz_cl B p l e R s m args below meth c Q h n cells slots L (pc + 3) (v :: rest)) : zz_W D zz_cl B p l e R s m args below meth c Q h n cells slots L pc (.ref a :: rest) := z_get (k := 4) C rfl in_G (by decide) wd_338 rfl d hh hv k9
theorem gf_G_24 (C : zz_C D zz_cl (zz_ty dA) B zz_tb X p s m args meth c cc RR_G ret nm) {a : Nat} {fs : List Value} {v : Value} (d : decode cc pc = .ok (.getfield 24, 3)) (hh : h a = some (.inr (6, fs))) (hv : fs[5]? = some v) (k9 : zz_W D zz_cl B p l e R s m args below meth c Q h n cells slots L (pc + 3) (v :: rest)) : zz_W D zz_cl B p l e R s m args below meth c Q h n cells slots L pc (.ref a :: rest) := z_get (k := 5) C rfl in_G (by decide) wd_339 rfl d hh hv k9
theorem gf_G_28 (C : zz_C D zz_cl (zz_ty dA) B zz_tb X p s m args meth c cc RR_G ret nm) {a : Nat} {fs : List Value} {v : Value} (d : decode cc pc = .ok (.getfield 28, 3)) (hh : h a = some (.inr (6, fs))) (hv : fs[6]? = some v) (k9 : zz_W D zz_cl B p l e R s m args below meth c Q h n cells slots L (pc + 3) (v :: rest)) : zz_W D zz_cl B p l e R s m args below meth c Q h n cells slots L pc (.ref a :: rest) := z_get (k := 6) C rfl in_G (by decide) wd_340 rfl d hh hv k9
theorem gf_G_31 (C : zz_C D zz_cl (zz_ty dA) B zz_tb X p s m args meth c cc RR_G ret nm) {a : Nat} {fs : List Value} {v : Value} (d : decode cc pc = .ok (.getfield 31, 3)) (hh : h a = some (.inr (6, fs))) (hv : fs[7]? = some v) (k9 : zz_W D zz_cl B p l e R s m args below meth c Q h n cells slots L (pc + 3) (v :: rest)) : zz_W D zz_cl B p l e R s m args below meth c Q h n cells slots L pc (.ref a :: rest) := z_get (k := 7) C rfl in_G (by decide) wd_341 rfl d hh hv k9
theorem gf_G_35 (C : zz_C D zz_cl (zz_ty dA) B zz_tb X p s m args meth c cc RR_G ret nm) {a : Nat} {fs : List Value} {v : Value} (d : decode cc pc = .ok (.getfield 35, 3)) (hh : h a = some (.inr (6, fs))) (hv : fs[8]? = some v) (k9 : zz_W D zz_cl B p l e R s m args below meth c Q h n cells slots L (pc + 3) (v :: rest)) : zz_W D zz_cl B p l e R s m args below meth c Q h n cells slots L pc (.ref a :: rest) := z_get (k := 8) C rfl in_G (by decide) wd_342 rfl d hh hv k9
theorem gf_G_38 (C : zz_C D zz_cl (zz_ty dA) B zz_tb X p s m args meth c cc RR_G ret nm) {a : Nat} {fs : List Value} {v : Value} (d : decode cc pc = .ok (.getfield 38, 3)) (hh : h a = some (.inr (6, fs))) (hv : fs[9]? = some v) (k9 : zz_W D zz_cl B p l e R s m args below meth c Q h n cells slots L (pc + 3) (v :: rest)) : zz_W D zz_cl B p l e R s m args below meth c Q h n cells slots L pc (.ref a :: rest) := z_get (k := 9) C rfl in_G (by decide) wd_343 rfl d hh hv k9
theorem gf_G_42 (C : zz_C D zz_cl (zz_ty dA) B zz_tb X p s m args meth c cc RR_G ret nm) {a : Nat} {fs : List Value} {v : Value} (d : decode cc pc = .ok (.getfield 42, 3)) (hh : h a = some (.inr (6, fs))) (hv : fs[10]? = some v) (k9 : zz_W D zz_cl B p l e R s m args below meth c Q h n cells slots L (pc + 3) (v :: rest)) : zz_W D zz_cl B p l e R s m args below meth c Q h n cells slots L pc (.ref a :: rest) := z_get (k := 10) C rfl in_G (by decide) wd_344 rfl d hh hv k9
theorem gf_G_45 (C : zz_C D zz_cl (zz_ty dA) B zz_tb X p s m args meth c cc RR_G ret nm) {a : Nat} {fs : List Value} {v : Value} (d : decode cc pc = .ok (.getfield 45, 3)) (hh : h a = some (.inr (6, fs))) (hv : fs[0]? = some v) (k9 : zz_W D zz_cl B p l e R s m args below meth c Q h n cells slots L (pc + 3) (v :: rest)) : zz_W D zz_cl B p l e R s m args below meth c Q h n cells slots L pc (.ref a :: rest) := z_get (k := 0) C rfl in_G (by decide) wd_326 rfl d hh hv k9
theorem gf_G_48 (C : zz_C D zz_cl (zz_ty dA) B zz_tb X p s m args meth c cc RR_G ret nm) {a : Nat} {fs : List Value} {v : Value} (d : decode cc pc = .ok (.getfield 48, 3)) (hh : h a = some (.inr (6, fs))) (hv : fs[3]? = some v) (k9 : zz_W D zz_cl B p l e R s m args below meth c Q h n cells slots L (pc + 3) (v :: rest)) : zz_W D zz_cl B p l e R s m args below meth c Q h n cells slots L pc (.ref a :: rest) := z_get (k := 3) C rfl in_G (by decide) wd_337 rfl d hh hv k9
theorem gf_G_57 (C : zz_C D zz_cl (zz_ty dA) B zz_tb X p s m args meth c cc RR_G ret nm) {a : Nat} {fs : List Value} {v : Value} (d : decode cc pc = .ok (.getfield 57, 3)) (hh : h a = some (.inr (6, fs))) (hv : fs[1]? = some v) (k9 : zz_W D zz_cl B p l e R s m args below meth c Q h n cells slots L (pc + 3) (v :: rest)) : zz_W D zz_cl B p l e R s m args below meth c Q h n cells slots L pc (.ref a :: rest) := z_get (k := 1) C rfl in_G (by decide) wd_329 rfl d hh hv k9
theorem gf_G_89 (C : zz_C D zz_cl (zz_ty dA) B zz_tb X p s m args meth c cc RR_G ret nm) {a : Nat} {fs : List Value} {v : Value} (d : decode cc pc = .ok (.getfield 89, 3)) (hh : h a = some (.inr (4, fs))) (hv : fs[8]? = some v) (k9 : zz_W D zz_cl B p l e R s m args below meth c Q h n cells slots L (pc + 3) (v :: rest)) : zz_W D zz_cl B p l e R s m args below meth c Q h n cells slots L pc (.ref a :: rest) := z_get (k := 8) C rfl in_M (by decide) wd_405 rfl d hh hv k9
theorem gf_G_112 (C : zz_C D zz_cl (zz_ty dA) B zz_tb X p s m args meth c cc RR_G ret nm) {a : Nat} {fs : List Value} {v : Value} (d : decode cc pc = .ok (.getfield 112, 3)) (hh : h a = some (.inr (4, fs))) (hv : fs[9]? = some v) (k9 : zz_W D zz_cl B p l e R s m args below meth c Q h n cells slots L (pc + 3) (v :: rest)) : zz_W D zz_cl B p l e R s m args below meth c Q h n cells slots L pc (.ref a :: rest) := z_get (k := 9) C rfl in_M (by decide) wd_408 rfl d hh hv k9
theorem gf_G_119 (C : zz_C D zz_cl (zz_ty dA) B zz_tb X p s m args meth c cc RR_G ret nm) {a : Nat} {fs : List Value} {v : Value} (d : decode cc pc = .ok (.getfield 119, 3)) (hh : h a = some (.inr (4, fs))) (hv : fs[0]? = some v) (k9 : zz_W D zz_cl B p l e R s m args below meth c Q h n cells slots L (pc + 3) (v :: rest)) : zz_W D zz_cl B p l e R s m args below meth c Q h n cells slots L pc (.ref a :: rest) := z_get (k := 0) C rfl in_M (by decide) wd_390 rfl d hh hv k9
theorem oi_G_3 (C : zz_C D zz_cl (zz_ty dA) B zz_tb X p s m args meth c cc RR_G ret nm) {a : Nat} (d : decode cc pc = .ok (.invokespecial 3, 3)) (hfr : 1 ≤ R.frames) (hlo : (rest.map fun v => v.category).sum + 12 ≤ R.locals) (k9 : zz_W D zz_cl B p l e R s m args below meth c Q h n cells slots L (pc + 3) rest) : zz_W D zz_cl B p l e R s m args below meth c Q h n cells slots L pc (.ref a :: rest) := z_objInit C wd_275 wd_29 wd_30 d hfr hlo k9
theorem ii_G_11 (F : zz_F B zz_tb X) (C : zz_C D zz_cl (zz_ty dA) B zz_tb X p s m args meth c cc RR_G ret nm) {rm : Room} {As st0 : List Value} {sk : ρ → List Value} {b : Nat} (d : decode cc pc = .ok (.invokespecial 11, 3)) (hM : zz_M l D zz_cl (zz_ty dA) B zz_tb X yy_R_init (Cond.code yy_R_init prog_6_method_1_code 1 none) rm (.ref b :: As) h n mk post) (hn : As.length = 0) (hst : st0 = As.reverse ++ .ref b :: rest) (hR : rm.frames + 1 ≤ R.frames ∧ 8 + (1 + 11) + rm.locals ≤ R.locals) (hW : (rest.map fun v => v.category).sum ≤ 8) (hf : cells + rm.cells ≤ R.cells ∧ slots + rm.slots ≤ R.slots) (hsk : ∀ r, (mk r).toList ++ rest = sk r) (kk : ∀ (r : ρ) (h' : zz_H) (n' : Nat), post r h' n' → zz_W D zz_cl B p l e R s m args below meth c Q h' n' (cells + rm.cells) (slots + rm.slots) L (pc + 3) (sk r)) : zz_W D zz_cl B p l e R s m args below meth c Q h n cells slots L pc st0 :=
  z_callIN F C wd_280 wd_13 wd_278 wd_279 rfl ⟨by decide, by decide, by decide +kernel⟩ d hM hn hst hR hW hf hsk kk
theorem ii_G_54 (F : zz_F B zz_tb X) (C : zz_C D zz_cl (zz_ty dA) B zz_tb X p s m args meth c cc RR_G ret nm) {rm : Room} {As st0 : List Value} {sk : ρ → List Value} {b : Nat} (d : decode cc pc = .ok (.invokespecial 54, 3)) (hM : zz_M l D zz_cl (zz_ty dA) B zz_tb X yy_F_init (Cond.code yy_F_init prog_3_method_1_code 2 none) rm (.ref b :: As) h n mk post) (hn : As.length = 1) (hst : st0 = As.reverse ++ .ref b :: rest) (hR : rm.frames + 1 ≤ R.frames ∧ 8 + (2 + 11) + rm.locals ≤ R.locals) (hW : (rest.map fun v => v.category).sum ≤ 8) (hf : cells + rm.cells ≤ R.cells ∧ slots + rm.slots ≤ R.slots) (hsk : ∀ r, (mk r).toList ++ rest = sk r) (kk : ∀ (r : ρ) (h' : zz_H) (n' : Nat), post r h' n' → zz_W D zz_cl B p l e R s m args below meth c Q h' n' (cells + rm.cells) (slots + rm.slots) L (pc + 3) (sk r)) : zz_W D zz_cl B p l e R s m args below meth c Q h n cells slots L pc st0 :=
  z_callI F C wd_300 wd_14 wd_298 wd_299 rfl ⟨by decide, by decide, by decide +kernel⟩ d hM hn hst hR hW hf hsk kk
theorem iv_G_63 (F : zz_F B zz_tb X) (C : zz_C D zz_cl (zz_ty dA) B zz_tb X p s m args meth c cc RR_G ret nm) {rm : Room} {As st0 : List Value} {sk : ρ → List Value} {b : Nat} {fs : List Value} (d : decode cc pc = .ok (.invokevirtual 63, 3)) (hM : zz_M l D zz_cl (zz_ty dA) B zz_tb X yy_H_valueCount (Cond.code yy_H_valueCount prog_8_method_6_code 1 (some FieldType.int)) rm (.ref b :: As) h n mk post) (hh : h b = some (.inr (1, fs))) (hn : As.length = 0) (hst : st0 = As.reverse ++ .ref b :: rest) (hR : rm.frames + 1 ≤ R.frames ∧ 8 + (1 + 11) + rm.locals ≤ R.locals) (hW : (rest.map fun v => v.category).sum ≤ 8) (hf : cells + rm.cells ≤ R.cells ∧ slots + rm.slots ≤ R.slots) (hsk : ∀ r, (mk r).toList ++ rest = sk r) (kk : ∀ (r : ρ) (h' : zz_H) (n' : Nat), post r h' n' → zz_W D zz_cl B p l e R s m args below meth c Q h' n' (cells + rm.cells) (slots + rm.slots) L (pc + 3) (sk r)) : zz_W D zz_cl B p l e R s m args below meth c Q h n cells slots L pc st0 :=
  z_callV F C wd_562 wd_2 wd_590 wd_560 wd_561 ⟨by decide, by decide, by decide +kernel⟩ rfl rfl d hM hh hn hst hR hW hf hsk kk
theorem iv_G_67 (F : zz_F B zz_tb X) (C : zz_C D zz_cl (zz_ty dA) B zz_tb X p s m args meth c cc RR_G ret nm) {rm : Room} {As st0 : List Value} {sk : ρ → List Value} {b : Nat} {fs : List Value} (d : decode cc pc = .ok (.invokevirtual 67, 3)) (hM : zz_M l D zz_cl (zz_ty dA) B zz_tb X yy_M_bit (Cond.code yy_M_bit prog_10_method_2_code 1 (some FieldType.int)) rm (.ref b :: As) h n mk post) (hh : h b = some (.inr (4, fs))) (hn : As.length = 0) (hst : st0 = As.reverse ++ .ref b :: rest) (hR : rm.frames + 1 ≤ R.frames ∧ 8 + (1 + 11) + rm.locals ≤ R.locals) (hW : (rest.map fun v => v.category).sum ≤ 8) (hf : cells + rm.cells ≤ R.cells ∧ slots + rm.slots ≤ R.slots) (hsk : ∀ r, (mk r).toList ++ rest = sk r) (kk : ∀ (r : ρ) (h' : zz_H) (n' : Nat), post r h' n' → zz_W D zz_cl B p l e R s m args below meth c Q h' n' (cells + rm.cells) (slots + rm.slots) L (pc + 3) (sk r)) : zz_W D zz_cl B p l e R s m args below meth c Q h n cells slots L pc st0 :=
  z_callV F C wd_437 wd_15 wd_434 wd_435 wd_436 ⟨by decide, by decide, by decide +kernel⟩ rfl rfl d hM hh hn hst hR hW hf hsk kk
theorem iv_G_70 (F : zz_F B zz_tb X) (C : zz_C D zz_cl (zz_ty dA) B zz_tb X p s m args meth c cc RR_G ret nm) {rm : Room} {As st0 : List Value} {sk : ρ → List Value} {b : Nat} {fs : List Value} (d : decode cc pc = .ok (.invokevirtual 70, 3)) (hM : zz_M l D zz_cl (zz_ty dA) B zz_tb X yy_G_outdate (Cond.code yy_G_outdate prog_5_method_8_code 1 none) rm (.ref b :: As) h n mk post) (hh : h b = some (.inr (6, fs))) (hn : As.length = 0) (hst : st0 = As.reverse ++ .ref b :: rest) (hR : rm.frames + 1 ≤ R.frames ∧ 8 + (1 + 11) + rm.locals ≤ R.locals) (hW : (rest.map fun v => v.category).sum ≤ 8) (hf : cells + rm.cells ≤ R.cells ∧ slots + rm.slots ≤ R.slots) (hsk : ∀ r, (mk r).toList ++ rest = sk r) (kk : ∀ (r : ρ) (h' : zz_H) (n' : Nat), post r h' n' → zz_W D zz_cl B p l e R s m args below meth c Q h' n' (cells + rm.cells) (slots + rm.slots) L (pc + 3) (sk r)) : zz_W D zz_cl B p l e R s m args below meth c Q h n cells slots L pc st0 :=
  z_callV F C wd_253 wd_12 wd_438 wd_251 wd_252 ⟨by decide, by decide, by decide +kernel⟩ rfl rfl d hM hh hn hst hR hW hf hsk kk
theorem iv_G_73 (F : zz_F B zz_tb X) (C : zz_C D zz_cl (zz_ty dA) B zz_tb X p s m args meth c cc RR_G ret nm) {rm : Room} {As st0 : List Value} {sk : ρ → List Value} {b : Nat} {fs : List Value} (d : decode cc pc = .ok (.invokevirtual 73, 3)) (hM : zz_M l D zz_cl (zz_ty dA) B zz_tb X yy_R_clear (Cond.code yy_R_clear prog_6_method_2_code 1 none) rm (.ref b :: As) h n mk post) (hh : h b = some (.inr (7, fs))) (hn : As.length = 0) (hst : st0 = As.reverse ++ .ref b :: rest) (hR : rm.frames + 1 ≤ R.frames ∧ 8 + (1 + 11) + rm.locals ≤ R.locals) (hW : (rest.map fun v => v.category).sum ≤ 8) (hf : cells + rm.cells ≤ R.cells ∧ slots + rm.slots ≤ R.slots) (hsk : ∀ r, (mk r).toList ++ rest = sk r) (kk : ∀ (r : ρ) (h' : zz_H) (n' : Nat), post r h' n' → zz_W D zz_cl B p l e R s m args below meth c Q h' n' (cells + rm.cells) (slots + rm.slots) L (pc + 3) (sk r)) : zz_W D zz_cl B p l e R s m args below meth c Q h n cells slots L pc st0 :=
  z_callV F C wd_257 wd_13 wd_254 wd_255 wd_256 ⟨by decide, by decide, by decide +kernel⟩ rfl rfl d hM hh hn hst hR hW hf hsk kk
theorem iv_G_76 (F : zz_F B zz_tb X) (C : zz_C D zz_cl (zz_ty dA) B zz_tb X p s m args meth c cc RR_G ret nm) {rm : Room} {As st0 : List Value} {sk : ρ → List Value} {b : Nat} {fs : List Value} (d : decode cc pc = .ok (.invokevirtual 76, 3)) (hM : zz_M l D zz_cl (zz_ty dA) B zz_tb X yy_F_forget (Cond.code yy_F_forget prog_3_method_4_code 2 none) rm (.ref b :: As) h n mk post) (hh : h b = some (.inr (5, fs))) (hn : As.length = 0) (hst : st0 = As.reverse ++ .ref b :: rest) (hR : rm.frames + 1 ≤ R.frames ∧ 8 + (2 + 11) + rm.locals ≤ R.locals) (hW : (rest.map fun v => v.category).sum ≤ 8) (hf : cells + rm.cells ≤ R.cells ∧ slots + rm.slots ≤ R.slots) (hsk : ∀ r, (mk r).toList ++ rest = sk r) (kk : ∀ (r : ρ) (h' : zz_H) (n' : Nat), post r h' n' → zz_W D zz_cl B p l e R s m args below meth c Q h' n' (cells + rm.cells) (slots + rm.slots) L (pc + 3) (sk r)) : zz_W D zz_cl B p l e R s m args below meth c Q h n cells slots L pc st0 :=
  z_callV F C wd_534 wd_14 wd_531 wd_532 wd_533 ⟨by decide, by decide, by decide +kernel⟩ rfl rfl d hM hh hn hst hR hW hf hsk kk
theorem iv_G_79 (F : zz_F B zz_tb X) (C : zz_C D zz_cl (zz_ty dA) B zz_tb X p s m args meth c cc RR_G ret nm) {rm : Room} {As st0 : List Value} {sk : ρ → List Value} {b : Nat} {fs : List Value} (d : decode cc pc = .ok (.invokevirtual 79, 3)) (hM : zz_M l D zz_cl (zz_ty dA) B zz_tb X yy_M_learnCondition (Cond.code yy_M_learnCondition prog_10_method_5_code 5 none) rm (.ref b :: As) h n mk post) (hh : h b = some (.inr (4, fs))) (hn : As.length = 1) (hst : st0 = As.reverse ++ .ref b :: rest) (hR : rm.frames + 1 ≤ R.frames ∧ 8 + (5 + 11) + rm.locals ≤ R.locals) (hW : (rest.map fun v => v.category).sum ≤ 8) (hf : cells + rm.cells ≤ R.cells ∧ slots + rm.slots ≤ R.slots) (hsk : ∀ r, (mk r).toList ++ rest = sk r) (kk : ∀ (r : ρ) (h' : zz_H) (n' : Nat), post r h' n' → zz_W D zz_cl B p l e R s m args below meth c Q h' n' (cells + rm.cells) (slots + rm.slots) L (pc + 3) (sk r)) : zz_W D zz_cl B p l e R s m args below meth c Q h n cells slots L pc st0 :=
  z_callV F C wd_538 wd_15 wd_535 wd_536 wd_537 ⟨by decide, by decide, by decide +kernel⟩ rfl rfl d hM hh hn hst hR hW hf hsk kk
theorem iv_G_83 (F : zz_F B zz_tb X) (C : zz_C D zz_cl (zz_ty dA) B zz_tb X p s m args meth c cc RR_G ret nm) {rm : Room} {As st0 : List Value} {sk : ρ → List Value} {b : Nat} {fs : List Value} (d : decode cc pc = .ok (.invokevirtual 83, 3)) (hM : zz_M l D zz_cl (zz_ty dA) B zz_tb X yy_G_findImplied (Cond.code yy_G_findImplied prog_5_method_10_code 7 none) rm (.ref b :: As) h n mk post) (hh : h b = some (.inr (6, fs))) (hn : As.length = 0) (hst : st0 = As.reverse ++ .ref b :: rest) (hR : rm.frames + 1 ≤ R.frames ∧ 8 + (7 + 11) + rm.locals ≤ R.locals) (hW : (rest.map fun v => v.category).sum ≤ 8) (hf : cells + rm.cells ≤ R.cells ∧ slots + rm.slots ≤ R.slots) (hsk : ∀ r, (mk r).toList ++ rest = sk r) (kk : ∀ (r : ρ) (h' : zz_H) (n' : Nat), post r h' n' → zz_W D zz_cl B p l e R s m args below meth c Q h' n' (cells + rm.cells) (slots + rm.slots) L (pc + 3) (sk r)) : zz_W D zz_cl B p l e R s m args below meth c Q h n cells slots L pc st0 :=
  z_callV F C wd_584 wd_12 wd_581 wd_583 (zz_wp (y := yy_G_findImplied) (k := 11) (by decide +kernel) (by decide +kernel)) ⟨by decide, by decide, by decide +kernel⟩ rfl rfl d hM hh hn hst hR hW hf hsk kk
theorem iv_G_86 (F : zz_F B zz_tb X) (C : zz_C D zz_cl (zz_ty dA) B zz_tb X p s m args meth c cc RR_G ret nm) {rm : Room} {As st0 : List Value} {sk : ρ → List Value} {b : Nat} {fs : List Value} (d : decode cc pc = .ok (.invokevirtual 86, 3)) (hM : zz_M l D zz_cl (zz_ty dA) B zz_tb X yy_G_findBeyond (Cond.code yy_G_findBeyond prog_5_method_12_code 5 none) rm (.ref b :: As) h n mk post) (hh : h b = some (.inr (6, fs))) (hn : As.length = 0) (hst : st0 = As.reverse ++ .ref b :: rest) (hR : rm.frames + 1 ≤ R.frames ∧ 8 + (5 + 11) + rm.locals ≤ R.locals) (hW : (rest.map fun v => v.category).sum ≤ 8) (hf : cells + rm.cells ≤ R.cells ∧ slots + rm.slots ≤ R.slots) (hsk : ∀ r, (mk r).toList ++ rest = sk r) (kk : ∀ (r : ρ) (h' : zz_H) (n' : Nat), post r h' n' → zz_W D zz_cl B p l e R s m args below meth c Q h' n' (cells + rm.cells) (slots + rm.slots) L (pc + 3) (sk r)) : zz_W D zz_cl B p l e R s m args below meth c Q h n cells slots L pc st0 :=
  z_callV F C wd_616 wd_12 wd_613 wd_615 (zz_wp (y := yy_G_findBeyond) (k := 11) (by decide +kernel) (by decide +kernel)) ⟨by decide, by decide, by decide +kernel⟩ rfl rfl d hM hh hn hst hR hW hf hsk kk
theorem iv_G_94 (F : zz_F B zz_tb X) (C : zz_C D zz_cl (zz_ty dA) B zz_tb X p s m args meth c cc RR_G ret nm) {rm : Room} {As st0 : List Value} {sk : ρ → List Value} {b : Nat} {fs : List Value} (d : decode cc pc = .ok (.invokevirtual 94, 3)) (hM : zz_M l D zz_cl (zz_ty dA) B zz_tb X yy_G_firstCount (Cond.code yy_G_firstCount prog_5_method_4_code 1 (some FieldType.int)) rm (.ref b :: As) h n mk post) (hh : h b = some (.inr (6, fs))) (hn : As.length = 0) (hst : st0 = As.reverse ++ .ref b :: rest) (hR : rm.frames + 1 ≤ R.frames ∧ 8 + (1 + 11) + rm.locals ≤ R.locals) (hW : (rest.map fun v => v.category).sum ≤ 8) (hf : cells + rm.cells ≤ R.cells ∧ slots + rm.slots ≤ R.slots) (hsk : ∀ r, (mk r).toList ++ rest = sk r) (kk : ∀ (r : ρ) (h' : zz_H) (n' : Nat), post r h' n' → zz_W D zz_cl B p l e R s m args below meth c Q h' n' (cells + rm.cells) (slots + rm.slots) L (pc + 3) (sk r)) : zz_W D zz_cl B p l e R s m args below meth c Q h n cells slots L pc st0 :=
  z_callV F C wd_589 wd_12 wd_586 wd_587 wd_588 ⟨by decide, by decide, by decide +kernel⟩ rfl rfl d hM hh hn hst hR hW hf hsk kk
theorem iv_G_97 (F : zz_F B zz_tb X) (C : zz_C D zz_cl (zz_ty dA) B zz_tb X p s m args meth c cc RR_G ret nm) {rm : Room} {As st0 : List Value} {sk : ρ → List Value} {b : Nat} {fs : List Value} (d : decode cc pc = .ok (.invokevirtual 97, 3)) (hM : zz_M l D zz_cl (zz_ty dA) B zz_tb X yy_G_secondCount (Cond.code yy_G_secondCount prog_5_method_5_code 1 (some FieldType.int)) rm (.ref b :: As) h n mk post) (hh : h b = some (.inr (6, fs))) (hn : As.length = 0) (hst : st0 = As.reverse ++ .ref b :: rest) (hR : rm.frames + 1 ≤ R.frames ∧ 8 + (1 + 11) + rm.locals ≤ R.locals) (hW : (rest.map fun v => v.category).sum ≤ 8) (hf : cells + rm.cells ≤ R.cells ∧ slots + rm.slots ≤ R.slots) (hsk : ∀ r, (mk r).toList ++ rest = sk r) (kk : ∀ (r : ρ) (h' : zz_H) (n' : Nat), post r h' n' → zz_W D zz_cl B p l e R s m args below meth c Q h' n' (cells + rm.cells) (slots + rm.slots) L (pc + 3) (sk r)) : zz_W D zz_cl B p l e R s m args below meth c Q h n cells slots L pc st0 :=
  z_callV F C wd_594 wd_12 wd_591 wd_592 wd_593 ⟨by decide, by decide, by decide +kernel⟩ rfl rfl d hM hh hn hst hR hW hf hsk kk
theorem iv_G_100 (F : zz_F B zz_tb X) (C : zz_C D zz_cl (zz_ty dA) B zz_tb X p s m args meth c cc RR_G ret nm) {rm : Room} {As st0 : List Value} {sk : ρ → List Value} {b : Nat} {fs : List Value} (d : decode cc pc = .ok (.invokevirtual 100, 3)) (hM : zz_M l D zz_cl (zz_ty dA) B zz_tb X yy_F_ofRow (Cond.code yy_F_ofRow prog_3_method_7_code 5 (some FieldType.long)) rm (.ref b :: As) h n mk post) (hh : h b = some (.inr (5, fs))) (hn : As.length = 2) (hst : st0 = As.reverse ++ .ref b :: rest) (hR : rm.frames + 1 ≤ R.frames ∧ 8 + (5 + 11) + rm.locals ≤ R.locals) (hW : (rest.map fun v => v.category).sum ≤ 8) (hf : cells + rm.cells ≤ R.cells ∧ slots + rm.slots ≤ R.slots) (hsk : ∀ r, (mk r).toList ++ rest = sk r) (kk : ∀ (r : ρ) (h' : zz_H) (n' : Nat), post r h' n' → zz_W D zz_cl B p l e R s m args below meth c Q h' n' (cells + rm.cells) (slots + rm.slots) L (pc + 3) (sk r)) : zz_W D zz_cl B p l e R s m args below meth c Q h n cells slots L pc st0 :=
  z_callV F C wd_598 wd_14 wd_595 wd_596 wd_597 ⟨by decide, by decide, by decide +kernel⟩ rfl rfl d hM hh hn hst hR hW hf hsk kk
theorem iv_G_104 (F : zz_F B zz_tb X) (C : zz_C D zz_cl (zz_ty dA) B zz_tb X p s m args meth c cc RR_G ret nm) {rm : Room} {As st0 : List Value} {sk : ρ → List Value} {b : Nat} {fs : List Value} (d : decode cc pc = .ok (.invokevirtual 104, 3)) (hM : zz_M l D zz_cl (zz_ty dA) B zz_tb X yy_G_applicable (Cond.code yy_G_applicable prog_5_method_13_code 5 (some FieldType.int)) rm (.ref b :: As) h n mk post) (hh : h b = some (.inr (6, fs))) (hn : As.length = 1) (hst : st0 = As.reverse ++ .ref b :: rest) (hR : rm.frames + 1 ≤ R.frames ∧ 8 + (5 + 11) + rm.locals ≤ R.locals) (hW : (rest.map fun v => v.category).sum ≤ 8) (hf : cells + rm.cells ≤ R.cells ∧ slots + rm.slots ≤ R.slots) (hsk : ∀ r, (mk r).toList ++ rest = sk r) (kk : ∀ (r : ρ) (h' : zz_H) (n' : Nat), post r h' n' → zz_W D zz_cl B p l e R s m args below meth c Q h' n' (cells + rm.cells) (slots + rm.slots) L (pc + 3) (sk r)) : zz_W D zz_cl B p l e R s m args below meth c Q h n cells slots L pc st0 :=
  z_callV F C wd_604 wd_12 wd_601 wd_603 (zz_wp (y := yy_G_applicable) (k := 11) (by decide +kernel) (by decide +kernel)) ⟨by decide, by decide, by decide +kernel⟩ rfl rfl d hM hh hn hst hR hW hf hsk kk
theorem iv_G_108 (F : zz_F B zz_tb X) (C : zz_C D zz_cl (zz_ty dA) B zz_tb X p s m args meth c cc RR_G ret nm) {rm : Room} {As st0 : List Value} {sk : ρ → List Value} {b : Nat} {fs : List Value} (d : decode cc pc = .ok (.invokevirtual 108, 3)) (hM : zz_M l D zz_cl (zz_ty dA) B zz_tb X yy_G_noteTogether (Cond.code yy_G_noteTogether prog_5_method_11_code 3 none) rm (.ref b :: As) h n mk post) (hh : h b = some (.inr (6, fs))) (hn : As.length = 1) (hst : st0 = As.reverse ++ .ref b :: rest) (hR : rm.frames + 1 ≤ R.frames ∧ 8 + (3 + 11) + rm.locals ≤ R.locals) (hW : (rest.map fun v => v.category).sum ≤ 8) (hf : cells + rm.cells ≤ R.cells ∧ slots + rm.slots ≤ R.slots) (hsk : ∀ r, (mk r).toList ++ rest = sk r) (kk : ∀ (r : ρ) (h' : zz_H) (n' : Nat), post r h' n' → zz_W D zz_cl B p l e R s m args below meth c Q h' n' (cells + rm.cells) (slots + rm.slots) L (pc + 3) (sk r)) : zz_W D zz_cl B p l e R s m args below meth c Q h n cells slots L pc st0 :=
  z_callV F C wd_612 wd_12 wd_609 wd_611 (zz_wp (y := yy_G_noteTogether) (k := 11) (by decide +kernel) (by decide +kernel)) ⟨by decide, by decide, by decide +kernel⟩ rfl rfl d hM hh hn hst hR hW hf hsk kk
theorem iv_G_115 (F : zz_F B zz_tb X) (C : zz_C D zz_cl (zz_ty dA) B zz_tb X p s m args meth c cc RR_G ret nm) {rm : Room} {As st0 : List Value} {sk : ρ → List Value} {b : Nat} {fs : List Value} (d : decode cc pc = .ok (.invokevirtual 115, 3)) (hM : zz_M l D zz_cl (zz_ty dA) B zz_tb X yy_M_holds (Cond.code yy_M_holds prog_10_method_6_code 3 (some FieldType.boolean)) rm (.ref b :: As) h n mk post) (hh : h b = some (.inr (4, fs))) (hn : As.length = 1) (hst : st0 = As.reverse ++ .ref b :: rest) (hR : rm.frames + 1 ≤ R.frames ∧ 8 + (3 + 11) + rm.locals ≤ R.locals) (hW : (rest.map fun v => v.category).sum ≤ 8) (hf : cells + rm.cells ≤ R.cells ∧ slots + rm.slots ≤ R.slots) (hsk : ∀ r, (mk r).toList ++ rest = sk r) (kk : ∀ (r : ρ) (h' : zz_H) (n' : Nat), post r h' n' → zz_W D zz_cl B p l e R s m args below meth c Q h' n' (cells + rm.cells) (slots + rm.slots) L (pc + 3) (sk r)) : zz_W D zz_cl B p l e R s m args below meth c Q h n cells slots L pc st0 :=
  z_callV F C wd_608 wd_15 wd_605 wd_606 wd_607 ⟨by decide, by decide, by decide +kernel⟩ rfl rfl d hM hh hn hst hR hW hf hsk kk
theorem iv_G_122 (F : zz_F B zz_tb X) (C : zz_C D zz_cl (zz_ty dA) B zz_tb X p s m args meth c cc RR_G ret nm) {rm : Room} {As st0 : List Value} {sk : ρ → List Value} {b : Nat} {fs : List Value} (d : decode cc pc = .ok (.invokevirtual 122, 3)) (hM : zz_M l D zz_cl (zz_ty dA) B zz_tb X yy_G_pick (Cond.code yy_G_pick prog_5_method_14_code 5 (some FieldType.int)) rm (.ref b :: As) h n mk post) (hh : h b = some (.inr (6, fs))) (hn : As.length = 1) (hst : st0 = As.reverse ++ .ref b :: rest) (hR : rm.frames + 1 ≤ R.frames ∧ 8 + (5 + 11) + rm.locals ≤ R.locals) (hW : (rest.map fun v => v.category).sum ≤ 8) (hf : cells + rm.cells ≤ R.cells ∧ slots + rm.slots ≤ R.slots) (hsk : ∀ r, (mk r).toList ++ rest = sk r) (kk : ∀ (r : ρ) (h' : zz_H) (n' : Nat), post r h' n' → zz_W D zz_cl B p l e R s m args below meth c Q h' n' (cells + rm.cells) (slots + rm.slots) L (pc + 3) (sk r)) : zz_W D zz_cl B p l e R s m args below meth c Q h n cells slots L pc st0 :=
  z_callV F C wd_647 wd_12 wd_644 wd_646 (zz_wp (y := yy_G_pick) (k := 11) (by decide +kernel) (by decide +kernel)) ⟨by decide, by decide, by decide +kernel⟩ rfl rfl d hM hh hn hst hR hW hf hsk kk
theorem iv_G_126 (F : zz_F B zz_tb X) (C : zz_C D zz_cl (zz_ty dA) B zz_tb X p s m args meth c cc RR_G ret nm) {rm : Room} {As st0 : List Value} {sk : ρ → List Value} {b : Nat} {fs : List Value} (d : decode cc pc = .ok (.invokevirtual 126, 3)) (hM : zz_M l D zz_cl (zz_ty dA) B zz_tb X yy_G_choose (Cond.code yy_G_choose prog_5_method_15_code 3 (some FieldType.int)) rm (.ref b :: As) h n mk post) (hh : h b = some (.inr (6, fs))) (hn : As.length = 1) (hst : st0 = As.reverse ++ .ref b :: rest) (hR : rm.frames + 1 ≤ R.frames ∧ 8 + (3 + 11) + rm.locals ≤ R.locals) (hW : (rest.map fun v => v.category).sum ≤ 8) (hf : cells + rm.cells ≤ R.cells ∧ slots + rm.slots ≤ R.slots) (hsk : ∀ r, (mk r).toList ++ rest = sk r) (kk : ∀ (r : ρ) (h' : zz_H) (n' : Nat), post r h' n' → zz_W D zz_cl B p l e R s m args below meth c Q h' n' (cells + rm.cells) (slots + rm.slots) L (pc + 3) (sk r)) : zz_W D zz_cl B p l e R s m args below meth c Q h n cells slots L pc st0 :=
  z_callV F C wd_643 wd_12 wd_659 wd_641 wd_642 ⟨by decide, by decide, by decide +kernel⟩ rfl rfl d hM hh hn hst hR hW hf hsk kk
theorem nw_G_9 (C : zz_C D zz_cl (zz_ty dA) B zz_tb X p s m args meth c cc RR_G ret nm) (d : decode cc pc = .ok (.new 9, 3)) (hcl : cells + 1 ≤ R.cells) (hsl : slots + 4 ≤ R.slots) (k9 : zz_W D zz_cl B p l e R s m args below meth c Q (zz_up h n (.inr (7, [.null, .null, .null, .int 0]))) (n + 1) (cells + 1) (slots + 4) L (pc + 3) (.ref n :: rest)) : zz_W D zz_cl B p l e R s m args below meth c Q h n cells slots L pc rest := z_new C tt_R (ci := 7) rfl in_R tk_R wd_276 wd_277 wd_13 (by decide +kernel) d hcl hsl k9
theorem nw_G_52 (C : zz_C D zz_cl (zz_ty dA) B zz_tb X p s m args meth c cc RR_G ret nm) (d : decode cc pc = .ok (.new 52, 3)) (hcl : cells + 1 ≤ R.cells) (hsl : slots + 7 ≤ R.slots) (k9 : zz_W D zz_cl B p l e R s m args below meth c Q (zz_up h n (.inr (5, [.null, .null, .int 0, .null, .null, .long 0, .long 0]))) (n + 1) (cells + 1) (slots + 7) L (pc + 3) (.ref n :: rest)) : zz_W D zz_cl B p l e R s m args below meth c Q h n cells slots L pc rest := z_new C tt_F (ci := 5) rfl in_F tk_F wd_296 wd_297 wd_14 (by decide +kernel) d hcl hsl k9
theorem pf_G_12 (C : zz_C D zz_cl (zz_ty dA) B zz_tb X p s m args meth c cc RR_G ret "<init>") {a : Nat} {fs : List Value} {v : Value} (d : decode cc pc = .ok (.putfield 12, 3)) (hh : h a = some (.inr (6, fs))) (hl : 2 < fs.length) (hn : narrow (.object "DispatchDesk$Graph") v = v) (hf : fits (.object "DispatchDesk$Graph") v = true) (k9 : zz_W D zz_cl B p l e R s m args below meth c Q (zz_up h a (.inr (6, fs.set 2 v))) n cells slots L (pc + 3) rest) : zz_W D zz_cl B p l e R s m args below meth c Q h n cells slots L pc (v :: .ref a :: rest) := z_putF (ty := .object "DispatchDesk$Graph") (k := 2) C tt_G rfl in_G tk_G nn_G (by decide) wd_333 rfl rfl rfl rfl (by decide +kernel) d hh hl hn hf k9
theorem pf_G_20 (C : zz_C D zz_cl (zz_ty dA) B zz_tb X p s m args meth c cc RR_G ret "<init>") {a : Nat} {fs : List Value} {v : Value} (d : decode cc pc = .ok (.putfield 20, 3)) (hh : h a = some (.inr (6, fs))) (hl : 4 < fs.length) (hn : narrow (.array (.object "DispatchDesk$Method")) v = v) (hf : fits (.array (.object "DispatchDesk$Method")) v = true) (k9 : zz_W D zz_cl B p l e R s m args below meth c Q (zz_up h a (.inr (6, fs.set 4 v))) n cells slots L (pc + 3) rest) : zz_W D zz_cl B p l e R s m args below meth c Q h n cells slots L pc (v :: .ref a :: rest) := z_putF (ty := .array (.object "DispatchDesk$Method")) (k := 4) C tt_G rfl in_G tk_G nn_G (by decide) wd_338 rfl rfl rfl rfl (by decide +kernel) d hh hl hn hf k9
theorem pf_G_24 (C : zz_C D zz_cl (zz_ty dA) B zz_tb X p s m args meth c cc RR_G ret nm) {a : Nat} {fs : List Value} {v : Value} (d : decode cc pc = .ok (.putfield 24, 3)) (hh : h a = some (.inr (6, fs))) (hl : 5 < fs.length) (hn : narrow (.int) v = v) (hf : fits (.int) v = true) (k9 : zz_W D zz_cl B p l e R s m args below meth c Q (zz_up h a (.inr (6, fs.set 5 v))) n cells slots L (pc + 3) rest) : zz_W D zz_cl B p l e R s m args below meth c Q h n cells slots L pc (v :: .ref a :: rest) := z_put (ty := .int) (k := 5) C tt_G rfl in_G tk_G nn_G (by decide) wd_339 rfl rfl (by decide +kernel) d hh hl hn hf k9
theorem pf_G_28 (C : zz_C D zz_cl (zz_ty dA) B zz_tb X p s m args meth c cc RR_G ret nm) {a : Nat} {fs : List Value} {v : Value} (d : decode cc pc = .ok (.putfield 28, 3)) (hh : h a = some (.inr (6, fs))) (hl : 6 < fs.length) (hn : narrow (.int) v = v) (hf : fits (.int) v = true) (k9 : zz_W D zz_cl B p l e R s m args below meth c Q (zz_up h a (.inr (6, fs.set 6 v))) n cells slots L (pc + 3) rest) : zz_W D zz_cl B p l e R s m args below meth c Q h n cells slots L pc (v :: .ref a :: rest) := z_put (ty := .int) (k := 6) C tt_G rfl in_G tk_G nn_G (by decide) wd_340 rfl rfl (by decide +kernel) d hh hl hn hf k9
theorem pf_G_31 (C : zz_C D zz_cl (zz_ty dA) B zz_tb X p s m args meth c cc RR_G ret nm) {a : Nat} {fs : List Value} {v : Value} (d : decode cc pc = .ok (.putfield 31, 3)) (hh : h a = some (.inr (6, fs))) (hl : 7 < fs.length) (hn : narrow (.boolean) v = v) (hf : fits (.boolean) v = true) (k9 : zz_W D zz_cl B p l e R s m args below meth c Q (zz_up h a (.inr (6, fs.set 7 v))) n cells slots L (pc + 3) rest) : zz_W D zz_cl B p l e R s m args below meth c Q h n cells slots L pc (v :: .ref a :: rest) := z_put (ty := .boolean) (k := 7) C tt_G rfl in_G tk_G nn_G (by decide) wd_341 rfl rfl (by decide +kernel) d hh hl hn hf k9
theorem pf_G_35 (C : zz_C D zz_cl (zz_ty dA) B zz_tb X p s m args meth c cc RR_G ret nm) {a : Nat} {fs : List Value} {v : Value} (d : decode cc pc = .ok (.putfield 35, 3)) (hh : h a = some (.inr (6, fs))) (hl : 8 < fs.length) (hn : narrow (.boolean) v = v) (hf : fits (.boolean) v = true) (k9 : zz_W D zz_cl B p l e R s m args below meth c Q (zz_up h a (.inr (6, fs.set 8 v))) n cells slots L (pc + 3) rest) : zz_W D zz_cl B p l e R s m args below meth c Q h n cells slots L pc (v :: .ref a :: rest) := z_put (ty := .boolean) (k := 8) C tt_G rfl in_G tk_G nn_G (by decide) wd_342 rfl rfl (by decide +kernel) d hh hl hn hf k9
theorem pf_G_38 (C : zz_C D zz_cl (zz_ty dA) B zz_tb X p s m args meth c cc RR_G ret nm) {a : Nat} {fs : List Value} {v : Value} (d : decode cc pc = .ok (.putfield 38, 3)) (hh : h a = some (.inr (6, fs))) (hl : 9 < fs.length) (hn : narrow (.long) v = v) (hf : fits (.long) v = true) (k9 : zz_W D zz_cl B p l e R s m args below meth c Q (zz_up h a (.inr (6, fs.set 9 v))) n cells slots L (pc + 3) rest) : zz_W D zz_cl B p l e R s m args below meth c Q h n cells slots L pc (v :: .ref a :: rest) := z_put (ty := .long) (k := 9) C tt_G rfl in_G tk_G nn_G (by decide) wd_343 rfl rfl (by decide +kernel) d hh hl hn hf k9
theorem pf_G_42 (C : zz_C D zz_cl (zz_ty dA) B zz_tb X p s m args meth c cc RR_G ret nm) {a : Nat} {fs : List Value} {v : Value} (d : decode cc pc = .ok (.putfield 42, 3)) (hh : h a = some (.inr (6, fs))) (hl : 10 < fs.length) (hn : narrow (.int) v = v) (hf : fits (.int) v = true) (k9 : zz_W D zz_cl B p l e R s m args below meth c Q (zz_up h a (.inr (6, fs.set 10 v))) n cells slots L (pc + 3) rest) : zz_W D zz_cl B p l e R s m args below meth c Q h n cells slots L pc (v :: .ref a :: rest) := z_put (ty := .int) (k := 10) C tt_G rfl in_G tk_G nn_G (by decide) wd_344 rfl rfl (by decide +kernel) d hh hl hn hf k9
theorem pf_G_45 (C : zz_C D zz_cl (zz_ty dA) B zz_tb X p s m args meth c cc RR_G ret "<init>") {a : Nat} {fs : List Value} {v : Value} (d : decode cc pc = .ok (.putfield 45, 3)) (hh : h a = some (.inr (6, fs))) (hl : 0 < fs.length) (hn : narrow (.int) v = v) (hf : fits (.int) v = true) (k9 : zz_W D zz_cl B p l e R s m args below meth c Q (zz_up h a (.inr (6, fs.set 0 v))) n cells slots L (pc + 3) rest) : zz_W D zz_cl B p l e R s m args below meth c Q h n cells slots L pc (v :: .ref a :: rest) := z_putF (ty := .int) (k := 0) C tt_G rfl in_G tk_G nn_G (by decide) wd_326 rfl rfl rfl rfl (by decide +kernel) d hh hl hn hf k9
theorem pf_G_48 (C : zz_C D zz_cl (zz_ty dA) B zz_tb X p s m args meth c cc RR_G ret "<init>") {a : Nat} {fs : List Value} {v : Value} (d : decode cc pc = .ok (.putfield 48, 3)) (hh : h a = some (.inr (6, fs))) (hl : 3 < fs.length) (hn : narrow (.object "DispatchDesk$Hierarchy") v = v) (hf : fits (.object "DispatchDesk$Hierarchy") v = true) (k9 : zz_W D zz_cl B p l e R s m args below meth c Q (zz_up h a (.inr (6, fs.set 3 v))) n cells slots L (pc + 3) rest) : zz_W D zz_cl B p l e R s m args below meth c Q h n cells slots L pc (v :: .ref a :: rest) := z_putF (ty := .object "DispatchDesk$Hierarchy") (k := 3) C tt_G rfl in_G tk_G nn_G (by decide) wd_337 rfl rfl rfl rfl (by decide +kernel) d hh hl hn hf k9
theorem pf_G_57 (C : zz_C D zz_cl (zz_ty dA) B zz_tb X p s m args meth c cc RR_G ret "<init>") {a : Nat} {fs : List Value} {v : Value} (d : decode cc pc = .ok (.putfield 57, 3)) (hh : h a = some (.inr (6, fs))) (hl : 1 < fs.length) (hn : narrow (.object "DispatchDesk$Facts") v = v) (hf : fits (.object "DispatchDesk$Facts") v = true) (k9 : zz_W D zz_cl B p l e R s m args below meth c Q (zz_up h a (.inr (6, fs.set 1 v))) n cells slots L (pc + 3) rest) : zz_W D zz_cl B p l e R s m args below meth c Q h n cells slots L pc (v :: .ref a :: rest) := z_putF (ty := .object "DispatchDesk$Facts") (k := 1) C tt_G rfl in_G tk_G nn_G (by decide) wd_329 rfl rfl rfl rfl (by decide +kernel) d hh hl hn hf k9
theorem pf_G_89 (C : zz_C D zz_cl (zz_ty dA) B zz_tb X p s m args meth c cc RR_G ret nm) {a : Nat} {fs : List Value} {v : Value} (d : decode cc pc = .ok (.putfield 89, 3)) (hh : h a = some (.inr (4, fs))) (hl : 8 < fs.length) (hn : narrow (.int) v = v) (hf : fits (.int) v = true) (k9 : zz_W D zz_cl B p l e R s m args below meth c Q (zz_up h a (.inr (4, fs.set 8 v))) n cells slots L (pc + 3) rest) : zz_W D zz_cl B p l e R s m args below meth c Q h n cells slots L pc (v :: .ref a :: rest) := z_put (ty := .int) (k := 8) C tt_M rfl in_M tk_M nn_M (by decide) wd_405 rfl rfl (by decide +kernel) d hh hl hn hf k9
theorem pf_G_112 (C : zz_C D zz_cl (zz_ty dA) B zz_tb X p s m args meth c cc RR_G ret nm) {a : Nat} {fs : List Value} {v : Value} (d : decode cc pc = .ok (.putfield 112, 3)) (hh : h a = some (.inr (4, fs))) (hl : 9 < fs.length) (hn : narrow (.int) v = v) (hf : fits (.int) v = true) (k9 : zz_W D zz_cl B p l e R s m args below meth c Q (zz_up h a (.inr (4, fs.set 9 v))) n cells slots L (pc + 3) rest) : zz_W D zz_cl B p l e R s m args below meth c Q h n cells slots L pc (v :: .ref a :: rest) := z_put (ty := .int) (k := 9) C tt_M rfl in_M tk_M nn_M (by decide) wd_408 rfl rfl (by decide +kernel) d hh hl hn hf k9
theorem gf_H_9 (C : zz_C D zz_cl (zz_ty dA) B zz_tb X p s m args meth c cc RR_H ret nm) {a : Nat} {fs : List Value} {v : Value} (d : decode cc pc = .ok (.getfield 9, 3)) (hh : h a = some (.inr (1, fs))) (hv : fs[0]? = some v) (k9 : zz_W D zz_cl B p l e R s m args below meth c Q h n cells slots L (pc + 3) (v :: rest)) : zz_W D zz_cl B p l e R s m args below meth c Q h n cells slots L pc (.ref a :: rest) := z_get (k := 0) C rfl in_H (by decide) wd_37 rfl d hh hv k9
theorem gf_H_13 (C : zz_C D zz_cl (zz_ty dA) B zz_tb X p s m args meth c cc RR_H ret nm) {a : Nat} {fs : List Value} {v : Value} (d : decode cc pc = .ok (.getfield 13, 3)) (hh : h a = some (.inr (1, fs))) (hv : fs[1]? = some v) (k9 : zz_W D zz_cl B p l e R s m args below meth c Q h n cells slots L (pc + 3) (v :: rest)) : zz_W D zz_cl B p l e R s m args below meth c Q h n cells slots L pc (.ref a :: rest) := z_get (k := 1) C rfl in_H (by decide) wd_38 rfl d hh hv k9
theorem oi_H_3 (C : zz_C D zz_cl (zz_ty dA) B zz_tb X p s m args meth c cc RR_H ret nm) {a : Nat} (d : decode cc pc = .ok (.invokespecial 3, 3)) (hfr : 1 ≤ R.frames) (hlo : (rest.map fun v => v.category).sum + 12 ≤ R.locals) (k9 : zz_W D zz_cl B p l e R s m args below meth c Q h n cells slots L (pc + 3) rest) : zz_W D zz_cl B p l e R s m args below meth c Q h n cells slots L pc (.ref a :: rest) := z_objInit C wd_36 wd_29 wd_30 d hfr hlo k9
theorem iv_H_17 (F : zz_F B zz_tb X) (C : zz_C D zz_cl (zz_ty dA) B zz_tb X p s m args meth c cc RR_H ret nm) {rm : Room} {As st0 : List Value} {sk : ρ → List Value} {b : Nat} {fs : List Value} (d : decode cc pc = .ok (.invokevirtual 17, 3)) (hM : zz_M l D zz_cl (zz_ty dA) B zz_tb X yy_H_valueCount (Cond.code yy_H_valueCount prog_8_method_6_code 1 (some FieldType.int)) rm (.ref b :: As) h n mk post) (hh : h b = some (.inr (1, fs))) (hn : As.length = 0) (hst : st0 = As.reverse ++ .ref b :: rest) (hR : rm.frames + 1 ≤ R.frames ∧ 8 + (1 + 11) + rm.locals ≤ R.locals) (hW : (rest.map fun v => v.category).sum ≤ 8) (hf : cells + rm.cells ≤ R.cells ∧ slots + rm.slots ≤ R.slots) (hsk : ∀ r, (mk r).toList ++ rest = sk r) (kk : ∀ (r : ρ) (h' : zz_H) (n' : Nat), post r h' n' → zz_W D zz_cl B p l e R s m args below meth c Q h' n' (cells + rm.cells) (slots + rm.slots) L (pc + 3) (sk r)) : zz_W D zz_cl B p l e R s m args below meth c Q h n cells slots L pc st0 :=
  z_callV F C wd_562 wd_2 wd_633 wd_560 wd_561 ⟨by decide, by decide, by decide +kernel⟩ rfl rfl d hM hh hn hst hR hW hf hsk kk
theorem pf_H_9 (C : zz_C D zz_cl (zz_ty dA) B zz_tb X p s m args meth c cc RR_H ret "<init>") {a : Nat} {fs : List Value} {v : Value} (d : decode cc pc = .ok (.putfield 9, 3)) (hh : h a = some (.inr (1, fs))) (hl : 0 < fs.length) (hn : narrow (.array (.int)) v = v) (hf : fits (.array (.int)) v = true) (k9 : zz_W D zz_cl B p l e R s m args below meth c Q (zz_up h a (.inr (1, fs.set 0 v))) n cells slots L (pc + 3) rest) : zz_W D zz_cl B p l e R s m args below meth c Q h n cells slots L pc (v :: .ref a :: rest) := z_putF (ty := .array (.int)) (k := 0) C tt_H rfl in_H tk_H nn_H (by decide) wd_37 rfl rfl rfl rfl (by decide +kernel) d hh hl hn hf k9
theorem pf_H_13 (C : zz_C D zz_cl (zz_ty dA) B zz_tb X p s m args meth c cc RR_H ret nm) {a : Nat} {fs : List Value} {v : Value} (d : decode cc pc = .ok (.putfield 13, 3)) (hh : h a = some (.inr (1, fs))) (hl : 1 < fs.length) (hn : narrow (.int) v = v) (hf : fits (.int) v = true) (k9 : zz_W D zz_cl B p l e R s m args below meth c Q (zz_up h a (.inr (1, fs.set 1 v))) n cells slots L (pc + 3) rest) : zz_W D zz_cl B p l e R s m args below meth c Q h n cells slots L pc (v :: .ref a :: rest) := z_put (ty := .int) (k := 1) C tt_H rfl in_H tk_H nn_H (by decide) wd_38 rfl rfl (by decide +kernel) d hh hl hn hf k9
theorem ii_L_59 (F : zz_F B zz_tb X) (C : zz_C D zz_cl (zz_ty dA) B zz_tb X p s m args meth c cc RR_L ret nm) {rm : Room} {As st0 : List Value} {sk : ρ → List Value} {b : Nat} (d : decode cc pc = .ok (.invokespecial 59, 3)) (hM : zz_M l D zz_cl (zz_ty dA) B zz_tb X yy_D_init (Cond.code yy_D_init prog_1_method_1_code 1 none) rm (.ref b :: As) h n mk post) (hn : As.length = 0) (hst : st0 = As.reverse ++ .ref b :: rest) (hR : rm.frames + 1 ≤ R.frames ∧ 8 + (1 + 11) + rm.locals ≤ R.locals) (hW : (rest.map fun v => v.category).sum ≤ 8) (hf : cells + rm.cells ≤ R.cells ∧ slots + rm.slots ≤ R.slots) (hsk : ∀ r, (mk r).toList ++ rest = sk r) (kk : ∀ (r : ρ) (h' : zz_H) (n' : Nat), post r h' n' → zz_W D zz_cl B p l e R s m args below meth c Q h' n' (cells + rm.cells) (slots + rm.slots) L (pc + 3) (sk r)) : zz_W D zz_cl B p l e R s m args below meth c Q h n cells slots L pc st0 :=
  z_callI F C wd_27 wd_1 wd_25 wd_26 rfl ⟨by decide, by decide, by decide +kernel⟩ d hM hn hst hR hW hf hsk kk
theorem ii_L_62 (F : zz_F B zz_tb X) (C : zz_C D zz_cl (zz_ty dA) B zz_tb X p s m args meth c cc RR_L ret nm) {rm : Room} {As st0 : List Value} {sk : ρ → List Value} {b : Nat} (d : decode cc pc = .ok (.invokespecial 62, 3)) (hM : zz_M l D zz_cl (zz_ty dA) B zz_tb X yy_Q_init (Cond.code yy_Q_init prog_14_method_1_code 1 none) rm (.ref b :: As) h n mk post) (hn : As.length = 0) (hst : st0 = As.reverse ++ .ref b :: rest) (hR : rm.frames + 1 ≤ R.frames ∧ 8 + (1 + 11) + rm.locals ≤ R.locals) (hW : (rest.map fun v => v.category).sum ≤ 8) (hf : cells + rm.cells ≤ R.cells ∧ slots + rm.slots ≤ R.slots) (hsk : ∀ r, (mk r).toList ++ rest = sk r) (kk : ∀ (r : ρ) (h' : zz_H) (n' : Nat), post r h' n' → zz_W D zz_cl B p l e R s m args below meth c Q h' n' (cells + rm.cells) (slots + rm.slots) L (pc + 3) (sk r)) : zz_W D zz_cl B p l e R s m args below meth c Q h n cells slots L pc st0 :=
  z_callI F C wd_900 wd_6 wd_898 wd_899 rfl ⟨by decide, by decide, by decide +kernel⟩ d hM hn hst hR hW hf hsk kk
theorem is_L_63 (F : zz_F B zz_tb X) (C : zz_C D zz_cl (zz_ty dA) B zz_tb X p s m args meth c cc RR_L ret nm) {rm : Room} {As st0 : List Value} {sk : ρ → List Value} (d : decode cc pc = .ok (.invokestatic 63, 3)) (hM : zz_M l D zz_cl (zz_ty dA) B zz_tb X yy_L_klass (Cond.codeWith yy_L_klass method_3_code 4 (some FieldType.int) [(0, 9, 12, 13), (0, 9, 15, 15)]) rm As h n mk post) (hn : As.length = 3) (hst : st0 = As.reverse ++ rest) (hR : rm.frames + 1 ≤ R.frames ∧ 8 + (4 + 11) + rm.locals ≤ R.locals) (hW : (rest.map fun v => v.category).sum ≤ 8) (hf : cells + rm.cells ≤ R.cells ∧ slots + rm.slots ≤ R.slots) (hsk : ∀ r, (mk r).toList ++ rest = sk r) (kk : ∀ (r : ρ) (h' : zz_H) (n' : Nat), post r h' n' → zz_W D zz_cl B p l e R s m args below meth c Q h' n' (cells + rm.cells) (slots + rm.slots) L (pc + 3) (sk r)) : zz_W D zz_cl B p l e R s m args below meth c Q h n cells slots L pc st0 :=
  z_callSH F C wd_151 wd_0 wd_149 wd_150 ⟨by decide, by decide, by decide +kernel⟩ d hM hn hst hR hW hf hsk kk
theorem is_L_73 (F : zz_F B zz_tb X) (C : zz_C D zz_cl (zz_ty dA) B zz_tb X p s m args meth c cc RR_L ret nm) {rm : Room} {As st0 : List Value} {sk : ρ → List Value} (d : decode cc pc = .ok (.invokestatic 73, 3)) (hM : zz_M l D zz_cl (zz_ty dA) B zz_tb X yy_L_generic (Cond.codeWith yy_L_generic method_4_code 4 (some FieldType.int) [(0, 9, 12, 13), (0, 9, 15, 15)]) rm As h n mk post) (hn : As.length = 3) (hst : st0 = As.reverse ++ rest) (hR : rm.frames + 1 ≤ R.frames ∧ 8 + (4 + 11) + rm.locals ≤ R.locals) (hW : (rest.map fun v => v.category).sum ≤ 8) (hf : cells + rm.cells ≤ R.cells ∧ slots + rm.slots ≤ R.slots) (hsk : ∀ r, (mk r).toList ++ rest = sk r) (kk : ∀ (r : ρ) (h' : zz_H) (n' : Nat), post r h' n' → zz_W D zz_cl B p l e R s m args below meth c Q h' n' (cells + rm.cells) (slots + rm.slots) L (pc + 3) (sk r)) : zz_W D zz_cl B p l e R s m args below meth c Q h n cells slots L pc st0 :=
  z_callSH F C wd_264 wd_0 wd_262 wd_263 ⟨by decide, by decide, by decide +kernel⟩ d hM hn hst hR hW hf hsk kk
theorem is_L_76 (F : zz_F B zz_tb X) (C : zz_C D zz_cl (zz_ty dA) B zz_tb X p s m args meth c cc RR_L ret nm) {rm : Room} {As st0 : List Value} {sk : ρ → List Value} (d : decode cc pc = .ok (.invokestatic 76, 3)) (hM : zz_M l D zz_cl (zz_ty dA) B zz_tb X yy_L_method (Cond.codeWith yy_L_method method_5_code 4 (some FieldType.int) [(0, 9, 12, 13), (0, 9, 15, 15)]) rm As h n mk post) (hn : As.length = 3) (hst : st0 = As.reverse ++ rest) (hR : rm.frames + 1 ≤ R.frames ∧ 8 + (4 + 11) + rm.locals ≤ R.locals) (hW : (rest.map fun v => v.category).sum ≤ 8) (hf : cells + rm.cells ≤ R.cells ∧ slots + rm.slots ≤ R.slots) (hsk : ∀ r, (mk r).toList ++ rest = sk r) (kk : ∀ (r : ρ) (h' : zz_H) (n' : Nat), post r h' n' → zz_W D zz_cl B p l e R s m args below meth c Q h' n' (cells + rm.cells) (slots + rm.slots) L (pc + 3) (sk r)) : zz_W D zz_cl B p l e R s m args below meth c Q h n cells slots L pc st0 :=
  z_callSH F C wd_370 wd_0 wd_368 wd_369 ⟨by decide, by decide, by decide +kernel⟩ d hM hn hst hR hW hf hsk kk
theorem is_L_79 (F : zz_F B zz_tb X) (C : zz_C D zz_cl (zz_ty dA) B zz_tb X p s m args meth c cc RR_L ret nm) {rm : Room} {As st0 : List Value} {sk : ρ → List Value} (d : decode cc pc = .ok (.invokestatic 79, 3)) (hM : zz_M l D zz_cl (zz_ty dA) B zz_tb X yy_L_atom (Cond.codeWith yy_L_atom method_6_code 8 (some FieldType.int) [(0, 16, 19, 13), (0, 16, 23, 15)]) rm As h n mk post) (hn : As.length = 7) (hst : st0 = As.reverse ++ rest) (hR : rm.frames + 1 ≤ R.frames ∧ 8 + (8 + 11) + rm.locals ≤ R.locals) (hW : (rest.map fun v => v.category).sum ≤ 8) (hf : cells + rm.cells ≤ R.cells ∧ slots + rm.slots ≤ R.slots) (hsk : ∀ r, (mk r).toList ++ rest = sk r) (kk : ∀ (r : ρ) (h' : zz_H) (n' : Nat), post r h' n' → zz_W D zz_cl B p l e R s m args below meth c Q h' n' (cells + rm.cells) (slots + rm.slots) L (pc + 3) (sk r)) : zz_W D zz_cl B p l e R s m args below meth c Q h n cells slots L pc st0 :=
  z_callSH F C wd_441 wd_0 wd_439 wd_440 ⟨by decide, by decide, by decide +kernel⟩ d hM hn hst hR hW hf hsk kk
theorem is_L_83 (F : zz_F B zz_tb X) (C : zz_C D zz_cl (zz_ty dA) B zz_tb X p s m args meth c cc RR_L ret nm) {rm : Room} {As st0 : List Value} {sk : ρ → List Value} (d : decode cc pc = .ok (.invokestatic 83, 3)) (hM : zz_M l D zz_cl (zz_ty dA) B zz_tb X yy_L_operation (Cond.codeWith yy_L_operation method_7_code 6 (some FieldType.int) [(0, 12, 15, 13), (0, 12, 19, 15)]) rm As h n mk post) (hn : As.length = 5) (hst : st0 = As.reverse ++ rest) (hR : rm.frames + 1 ≤ R.frames ∧ 8 + (6 + 11) + rm.locals ≤ R.locals) (hW : (rest.map fun v => v.category).sum ≤ 8) (hf : cells + rm.cells ≤ R.cells ∧ slots + rm.slots ≤ R.slots) (hsk : ∀ r, (mk r).toList ++ rest = sk r) (kk : ∀ (r : ρ) (h' : zz_H) (n' : Nat), post r h' n' → zz_W D zz_cl B p l e R s m args below meth c Q h' n' (cells + rm.cells) (slots + rm.slots) L (pc + 3) (sk r)) : zz_W D zz_cl B p l e R s m args below meth c Q h n cells slots L pc st0 :=
  z_callSH F C wd_491 wd_0 wd_489 wd_490 ⟨by decide, by decide, by decide +kernel⟩ d hM hn hst hR hW hf hsk kk
theorem is_L_87 (F : zz_F B zz_tb X) (C : zz_C D zz_cl (zz_ty dA) B zz_tb X p s m args meth c cc RR_L ret nm) {rm : Room} {As st0 : List Value} {sk : ρ → List Value} (d : decode cc pc = .ok (.invokestatic 87, 3)) (hM : zz_M l D zz_cl (zz_ty dA) B zz_tb X yy_L_beyond (Cond.codeWith yy_L_beyond method_8_code 5 (some FieldType.int) [(0, 17, 20, 13)]) rm As h n mk post) (hn : As.length = 4) (hst : st0 = As.reverse ++ rest) (hR : rm.frames + 1 ≤ R.frames ∧ 8 + (5 + 11) + rm.locals ≤ R.locals) (hW : (rest.map fun v => v.category).sum ≤ 8) (hf : cells + rm.cells ≤ R.cells ∧ slots + rm.slots ≤ R.slots) (hsk : ∀ r, (mk r).toList ++ rest = sk r) (kk : ∀ (r : ρ) (h' : zz_H) (n' : Nat), post r h' n' → zz_W D zz_cl B p l e R s m args below meth c Q h' n' (cells + rm.cells) (slots + rm.slots) L (pc + 3) (sk r)) : zz_W D zz_cl B p l e R s m args below meth c Q h n cells slots L pc st0 :=
  z_callSH F C wd_521 wd_0 wd_519 wd_520 ⟨by decide, by decide, by decide +kernel⟩ d hM hn hst hR hW hf hsk kk
theorem is_L_91 (F : zz_F B zz_tb X) (C : zz_C D zz_cl (zz_ty dA) B zz_tb X p s m args meth c cc RR_L ret nm) {rm : Room} {As st0 : List Value} {sk : ρ → List Value} (d : decode cc pc = .ok (.invokestatic 91, 3)) (hM : zz_M l D zz_cl (zz_ty dA) B zz_tb X yy_L_best (Cond.codeWith yy_L_best method_9_code 6 (some FieldType.int) [(0, 12, 15, 13)]) rm As h n mk post) (hn : As.length = 5) (hst : st0 = As.reverse ++ rest) (hR : rm.frames + 1 ≤ R.frames ∧ 8 + (6 + 11) + rm.locals ≤ R.locals) (hW : (rest.map fun v => v.category).sum ≤ 8) (hf : cells + rm.cells ≤ R.cells ∧ slots + rm.slots ≤ R.slots) (hsk : ∀ r, (mk r).toList ++ rest = sk r) (kk : ∀ (r : ρ) (h' : zz_H) (n' : Nat), post r h' n' → zz_W D zz_cl B p l e R s m args below meth c Q h' n' (cells + rm.cells) (slots + rm.slots) L (pc + 3) (sk r)) : zz_W D zz_cl B p l e R s m args below meth c Q h n cells slots L pc st0 :=
  z_callSH F C wd_620 wd_0 wd_618 wd_619 ⟨by decide, by decide, by decide +kernel⟩ d hM hn hst hR hW hf hsk kk
theorem is_L_94 (F : zz_F B zz_tb X) (C : zz_C D zz_cl (zz_ty dA) B zz_tb X p s m args meth c cc RR_L ret nm) {rm : Room} {As st0 : List Value} {sk : ρ → List Value} (d : decode cc pc = .ok (.invokestatic 94, 3)) (hM : zz_M l D zz_cl (zz_ty dA) B zz_tb X yy_L_check (Cond.codeWith yy_L_check method_10_code 4 (some FieldType.int) [(0, 9, 12, 13)]) rm As h n mk post) (hn : As.length = 3) (hst : st0 = As.reverse ++ rest) (hR : rm.frames + 1 ≤ R.frames ∧ 8 + (4 + 11) + rm.locals ≤ R.locals) (hW : (rest.map fun v => v.category).sum ≤ 8) (hf : cells + rm.cells ≤ R.cells ∧ slots + rm.slots ≤ R.slots) (hsk : ∀ r, (mk r).toList ++ rest = sk r) (kk : ∀ (r : ρ) (h' : zz_H) (n' : Nat), post r h' n' → zz_W D zz_cl B p l e R s m args below meth c Q h' n' (cells + rm.cells) (slots + rm.slots) L (pc + 3) (sk r)) : zz_W D zz_cl B p l e R s m args below meth c Q h n cells slots L pc st0 :=
  z_callSH F C wd_650 wd_0 wd_648 wd_649 ⟨by decide, by decide, by decide +kernel⟩ d hM hn hst hR hW hf hsk kk
theorem is_L_97 (F : zz_F B zz_tb X) (C : zz_C D zz_cl (zz_ty dA) B zz_tb X p s m args meth c cc RR_L ret nm) {rm : Room} {As st0 : List Value} {sk : ρ → List Value} (d : decode cc pc = .ok (.invokestatic 97, 3)) (hM : zz_M l D zz_cl (zz_ty dA) B zz_tb X yy_L_witness (Cond.codeWith yy_L_witness method_11_code 4 (some FieldType.int) [(0, 9, 12, 44)]) rm As h n mk post) (hn : As.length = 3) (hst : st0 = As.reverse ++ rest) (hR : rm.frames + 1 ≤ R.frames ∧ 8 + (4 + 11) + rm.locals ≤ R.locals) (hW : (rest.map fun v => v.category).sum ≤ 8) (hf : cells + rm.cells ≤ R.cells ∧ slots + rm.slots ≤ R.slots) (hsk : ∀ r, (mk r).toList ++ rest = sk r) (kk : ∀ (r : ρ) (h' : zz_H) (n' : Nat), post r h' n' → zz_W D zz_cl B p l e R s m args below meth c Q h' n' (cells + rm.cells) (slots + rm.slots) L (pc + 3) (sk r)) : zz_W D zz_cl B p l e R s m args below meth c Q h n cells slots L pc st0 :=
  z_callSH F C wd_668 wd_0 wd_666 wd_667 ⟨by decide, by decide, by decide +kernel⟩ d hM hn hst hR hW hf hsk kk
theorem is_L_100 (F : zz_F B zz_tb X) (C : zz_C D zz_cl (zz_ty dA) B zz_tb X p s m args meth c cc RR_L ret nm) {rm : Room} {As st0 : List Value} {sk : ρ → List Value} (d : decode cc pc = .ok (.invokestatic 100, 3)) (hM : zz_M l D zz_cl (zz_ty dA) B zz_tb X yy_L_compile (Cond.codeWith yy_L_compile method_12_code 4 (some FieldType.int) [(0, 9, 12, 13), (0, 9, 15, 15)]) rm As h n mk post) (hn : As.length = 3) (hst : st0 = As.reverse ++ rest) (hR : rm.frames + 1 ≤ R.frames ∧ 8 + (4 + 11) + rm.locals ≤ R.locals) (hW : (rest.map fun v => v.category).sum ≤ 8) (hf : cells + rm.cells ≤ R.cells ∧ slots + rm.slots ≤ R.slots) (hsk : ∀ r, (mk r).toList ++ rest = sk r) (kk : ∀ (r : ρ) (h' : zz_H) (n' : Nat), post r h' n' → zz_W D zz_cl B p l e R s m args below meth c Q h' n' (cells + rm.cells) (slots + rm.slots) L (pc + 3) (sk r)) : zz_W D zz_cl B p l e R s m args below meth c Q h n cells slots L pc st0 :=
  z_callSH F C wd_692 wd_0 wd_690 wd_691 ⟨by decide, by decide, by decide +kernel⟩ d hM hn hst hR hW hf hsk kk
theorem is_L_103 (F : zz_F B zz_tb X) (C : zz_C D zz_cl (zz_ty dA) B zz_tb X p s m args meth c cc RR_L ret nm) {rm : Room} {As st0 : List Value} {sk : ρ → List Value} (d : decode cc pc = .ok (.invokestatic 103, 3)) (hM : zz_M l D zz_cl (zz_ty dA) B zz_tb X yy_L_node (Cond.codeWith yy_L_node method_13_code 6 (some FieldType.int) [(0, 12, 15, 13), (0, 12, 19, 15), (0, 12, 23, 44)]) rm As h n mk post) (hn : As.length = 5) (hst : st0 = As.reverse ++ rest) (hR : rm.frames + 1 ≤ R.frames ∧ 8 + (6 + 11) + rm.locals ≤ R.locals) (hW : (rest.map fun v => v.category).sum ≤ 8) (hf : cells + rm.cells ≤ R.cells ∧ slots + rm.slots ≤ R.slots) (hsk : ∀ r, (mk r).toList ++ rest = sk r) (kk : ∀ (r : ρ) (h' : zz_H) (n' : Nat), post r h' n' → zz_W D zz_cl B p l e R s m args below meth c Q h' n' (cells + rm.cells) (slots + rm.slots) L (pc + 3) (sk r)) : zz_W D zz_cl B p l e R s m args below meth c Q h n cells slots L pc st0 :=
  z_callSH F C wd_746 wd_0 wd_744 wd_745 ⟨by decide, by decide, by decide +kernel⟩ d hM hn hst hR hW hf hsk kk
theorem is_L_106 (F : zz_F B zz_tb X) (C : zz_C D zz_cl (zz_ty dA) B zz_tb X p s m args meth c cc RR_L ret nm) {rm : Room} {As st0 : List Value} {sk : ρ → List Value} (d : decode cc pc = .ok (.invokestatic 106, 3)) (hM : zz_M l D zz_cl (zz_ty dA) B zz_tb X yy_L_test (Cond.codeWith yy_L_test method_14_code 6 (some FieldType.int) [(0, 12, 15, 13), (0, 12, 19, 15), (0, 12, 23, 44)]) rm As h n mk post) (hn : As.length = 5) (hst : st0 = As.reverse ++ rest) (hR : rm.frames + 1 ≤ R.frames ∧ 8 + (6 + 11) + rm.locals ≤ R.locals) (hW : (rest.map fun v => v.category).sum ≤ 8) (hf : cells + rm.cells ≤ R.cells ∧ slots + rm.slots ≤ R.slots) (hsk : ∀ r, (mk r).toList ++ rest = sk r) (kk : ∀ (r : ρ) (h' : zz_H) (n' : Nat), post r h' n' → zz_W D zz_cl B p l e R s m args below meth c Q h' n' (cells + rm.cells) (slots + rm.slots) L (pc + 3) (sk r)) : zz_W D zz_cl B p l e R s m args below meth c Q h n cells slots L pc st0 :=
  z_callSH F C wd_768 wd_0 wd_766 wd_767 ⟨by decide, by decide, by decide +kernel⟩ d hM hn hst hR hW hf hsk kk
theorem is_L_109 (F : zz_F B zz_tb X) (C : zz_C D zz_cl (zz_ty dA) B zz_tb X p s m args meth c cc RR_L ret nm) {rm : Room} {As st0 : List Value} {sk : ρ → List Value} (d : decode cc pc = .ok (.invokestatic 109, 3)) (hM : zz_M l D zz_cl (zz_ty dA) B zz_tb X yy_L_run (Cond.codeWith yy_L_run method_15_code 7 (some FieldType.int) [(0, 14, 17, 13)]) rm As h n mk post) (hn : As.length = 6) (hst : st0 = As.reverse ++ rest) (hR : rm.frames + 1 ≤ R.frames ∧ 8 + (7 + 11) + rm.locals ≤ R.locals) (hW : (rest.map fun v => v.category).sum ≤ 8) (hf : cells + rm.cells ≤ R.cells ∧ slots + rm.slots ≤ R.slots) (hsk : ∀ r, (mk r).toList ++ rest = sk r) (kk : ∀ (r : ρ) (h' : zz_H) (n' : Nat), post r h' n' → zz_W D zz_cl B p l e R s m args below meth c Q h' n' (cells + rm.cells) (slots + rm.slots) L (pc + 3) (sk r)) : zz_W D zz_cl B p l e R s m args below meth c Q h n cells slots L pc st0 :=
  z_callSH F C wd_788 wd_0 wd_786 wd_787 ⟨by decide, by decide, by decide +kernel⟩ d hM hn hst hR hW hf hsk kk
theorem it_L_7 (F : zz_F B zz_tb X) (C : zz_C D zz_cl (zz_ty dA) B zz_tb X p s m args meth c cc RR_L ret nm) {rm : Room} {As st0 : List Value} {sk : ρ → List Value} {b : Nat} {fs : List Value} (d : decode cc pc = .ok (.invokevirtual 7, 3)) (hM : zz_MX l D zz_cl (zz_ty dA) B zz_tb X yy_D_klass (Cond.code yy_D_klass prog_1_method_2_code 3 (some FieldType.int)) rm (.ref b :: As) h n mk post px) (hh : h b = some (.inr (0, fs))) (hn : As.length = 1) (hst : st0 = As.reverse ++ .ref b :: rest) (hR : rm.frames + 1 ≤ R.frames ∧ 8 + (3 + 11) + rm.locals ≤ R.locals) (hW : (rest.map fun v => v.category).sum ≤ 8) (hf : cells + rm.cells ≤ R.cells ∧ slots + rm.slots ≤ R.slots) (hsk : ∀ r, (mk r).toList ++ rest = sk r) (kx : ∀ (E : String) (h' : zz_H) (n' : Nat), px E h' n' → zz_T D zz_cl B p l e R s m args below meth c Q h' n' (cells + rm.cells) (slots + rm.slots) L pc rest E) (kk : ∀ (r : ρ) (h' : zz_H) (n' : Nat), post r h' n' → zz_W D zz_cl B p l e R s m args below meth c Q h' n' (cells + rm.cells) (slots + rm.slots) L (pc + 3) (sk r)) : zz_W D zz_cl B p l e R s m args below meth c Q h n cells slots L pc st0 :=
  z_callVT F C wd_157 wd_1 wd_154 wd_155 wd_156 ⟨by decide, by decide, by decide +kernel⟩ rfl rfl d hM hh hn hst hR hW hf hsk kx kk
theorem it_L_17 (F : zz_F B zz_tb X) (C : zz_C D zz_cl (zz_ty dA) B zz_tb X p s m args meth c cc RR_L ret nm) {rm : Room} {As st0 : List Value} {sk : ρ → List Value} {b : Nat} {fs : List Value} (d : decode cc pc = .ok (.invokevirtual 17, 3)) (hM : zz_MX l D zz_cl (zz_ty dA) B zz_tb X yy_D_generic (Cond.code yy_D_generic prog_1_method_3_code 2 (some FieldType.int)) rm (.ref b :: As) h n mk post px) (hh : h b = some (.inr (0, fs))) (hn : As.length = 1) (hst : st0 = As.reverse ++ .ref b :: rest) (hR : rm.frames + 1 ≤ R.frames ∧ 8 + (2 + 11) + rm.locals ≤ R.locals) (hW : (rest.map fun v => v.category).sum ≤ 8) (hf : cells + rm.cells ≤ R.cells ∧ slots + rm.slots ≤ R.slots) (hsk : ∀ r, (mk r).toList ++ rest = sk r) (kx : ∀ (E : String) (h' : zz_H) (n' : Nat), px E h' n' → zz_T D zz_cl B p l e R s m args below meth c Q h' n' (cells + rm.cells) (slots + rm.slots) L pc rest E) (kk : ∀ (r : ρ) (h' : zz_H) (n' : Nat), post r h' n' → zz_W D zz_cl B p l e R s m args below meth c Q h' n' (cells + rm.cells) (slots + rm.slots) L (pc + 3) (sk r)) : zz_W D zz_cl B p l e R s m args below meth c Q h n cells slots L pc st0 :=
  z_callVT F C wd_268 wd_1 wd_265 wd_266 wd_267 ⟨by decide, by decide, by decide +kernel⟩ rfl rfl d hM hh hn hst hR hW hf hsk kx kk
theorem it_L_20 (F : zz_F B zz_tb X) (C : zz_C D zz_cl (zz_ty dA) B zz_tb X p s m args meth c cc RR_L ret nm) {rm : Room} {As st0 : List Value} {sk : ρ → List Value} {b : Nat} {fs : List Value} (d : decode cc pc = .ok (.invokevirtual 20, 3)) (hM : zz_MX l D zz_cl (zz_ty dA) B zz_tb X yy_D_method (Cond.code yy_D_method prog_1_method_4_code 4 (some FieldType.int)) rm (.ref b :: As) h n mk post px) (hh : h b = some (.inr (0, fs))) (hn : As.length = 1) (hst : st0 = As.reverse ++ .ref b :: rest) (hR : rm.frames + 1 ≤ R.frames ∧ 8 + (4 + 11) + rm.locals ≤ R.locals) (hW : (rest.map fun v => v.category).sum ≤ 8) (hf : cells + rm.cells ≤ R.cells ∧ slots + rm.slots ≤ R.slots) (hsk : ∀ r, (mk r).toList ++ rest = sk r) (kx : ∀ (E : String) (h' : zz_H) (n' : Nat), px E h' n' → zz_T D zz_cl B p l e R s m args below meth c Q h' n' (cells + rm.cells) (slots + rm.slots) L pc rest E) (kk : ∀ (r : ρ) (h' : zz_H) (n' : Nat), post r h' n' → zz_W D zz_cl B p l e R s m args below meth c Q h' n' (cells + rm.cells) (slots + rm.slots) L (pc + 3) (sk r)) : zz_W D zz_cl B p l e R s m args below meth c Q h n cells slots L pc st0 :=
  z_callVT F C wd_374 wd_1 wd_371 wd_372 wd_373 ⟨by decide, by decide, by decide +kernel⟩ rfl rfl d hM hh hn hst hR hW hf hsk kx kk
theorem it_L_23 (F : zz_F B zz_tb X) (C : zz_C D zz_cl (zz_ty dA) B zz_tb X p s m args meth c cc RR_L ret nm) {rm : Room} {As st0 : List Value} {sk : ρ → List Value} {b : Nat} {fs : List Value} (d : decode cc pc = .ok (.invokevirtual 23, 3)) (hM : zz_MX l D zz_cl (zz_ty dA) B zz_tb X yy_D_atom (Cond.code yy_D_atom prog_1_method_5_code 7 (some FieldType.int)) rm (.ref b :: As) h n mk post px) (hh : h b = some (.inr (0, fs))) (hn : As.length = 5) (hst : st0 = As.reverse ++ .ref b :: rest) (hR : rm.frames + 1 ≤ R.frames ∧ 8 + (7 + 11) + rm.locals ≤ R.locals) (hW : (rest.map fun v => v.category).sum ≤ 8) (hf : cells + rm.cells ≤ R.cells ∧ slots + rm.slots ≤ R.slots) (hsk : ∀ r, (mk r).toList ++ rest = sk r) (kx : ∀ (E : String) (h' : zz_H) (n' : Nat), px E h' n' → zz_T D zz_cl B p l e R s m args below meth c Q h' n' (cells + rm.cells) (slots + rm.slots) L pc rest E) (kk : ∀ (r : ρ) (h' : zz_H) (n' : Nat), post r h' n' → zz_W D zz_cl B p l e R s m args below meth c Q h' n' (cells + rm.cells) (slots + rm.slots) L (pc + 3) (sk r)) : zz_W D zz_cl B p l e R s m args below meth c Q h n cells slots L pc st0 :=
  z_callVT F C wd_445 wd_1 wd_442 wd_443 wd_444 ⟨by decide, by decide, by decide +kernel⟩ rfl rfl d hM hh hn hst hR hW hf hsk kx kk
theorem it_L_27 (F : zz_F B zz_tb X) (C : zz_C D zz_cl (zz_ty dA) B zz_tb X p s m args meth c cc RR_L ret nm) {rm : Room} {As st0 : List Value} {sk : ρ → List Value} {b : Nat} {fs : List Value} (d : decode cc pc = .ok (.invokevirtual 27, 3)) (hM : zz_MX l D zz_cl (zz_ty dA) B zz_tb X yy_D_operation (Cond.code yy_D_operation prog_1_method_6_code 5 (some FieldType.int)) rm (.ref b :: As) h n mk post px) (hh : h b = some (.inr (0, fs))) (hn : As.length = 3) (hst : st0 = As.reverse ++ .ref b :: rest) (hR : rm.frames + 1 ≤ R.frames ∧ 8 + (5 + 11) + rm.locals ≤ R.locals) (hW : (rest.map fun v => v.category).sum ≤ 8) (hf : cells + rm.cells ≤ R.cells ∧ slots + rm.slots ≤ R.slots) (hsk : ∀ r, (mk r).toList ++ rest = sk r) (kx : ∀ (E : String) (h' : zz_H) (n' : Nat), px E h' n' → zz_T D zz_cl B p l e R s m args below meth c Q h' n' (cells + rm.cells) (slots + rm.slots) L pc rest E) (kk : ∀ (r : ρ) (h' : zz_H) (n' : Nat), post r h' n' → zz_W D zz_cl B p l e R s m args below meth c Q h' n' (cells + rm.cells) (slots + rm.slots) L (pc + 3) (sk r)) : zz_W D zz_cl B p l e R s m args below meth c Q h n cells slots L pc st0 :=
  z_callVT F C wd_495 wd_1 wd_492 wd_493 wd_494 ⟨by decide, by decide, by decide +kernel⟩ rfl rfl d hM hh hn hst hR hW hf hsk kx kk
theorem it_L_31 (F : zz_F B zz_tb X) (C : zz_C D zz_cl (zz_ty dA) B zz_tb X p s m args meth c cc RR_L ret nm) {rm : Room} {As st0 : List Value} {sk : ρ → List Value} {b : Nat} {fs : List Value} (d : decode cc pc = .ok (.invokevirtual 31, 3)) (hM : zz_MX l D zz_cl (zz_ty dA) B zz_tb X yy_D_beyond (Cond.code yy_D_beyond prog_1_method_7_code 5 (some FieldType.boolean)) rm (.ref b :: As) h n mk post px) (hh : h b = some (.inr (0, fs))) (hn : As.length = 2) (hst : st0 = As.reverse ++ .ref b :: rest) (hR : rm.frames + 1 ≤ R.frames ∧ 8 + (5 + 11) + rm.locals ≤ R.locals) (hW : (rest.map fun v => v.category).sum ≤ 8) (hf : cells + rm.cells ≤ R.cells ∧ slots + rm.slots ≤ R.slots) (hsk : ∀ r, (mk r).toList ++ rest = sk r) (kx : ∀ (E : String) (h' : zz_H) (n' : Nat), px E h' n' → zz_T D zz_cl B p l e R s m args below meth c Q h' n' (cells + rm.cells) (slots + rm.slots) L pc rest E) (kk : ∀ (r : ρ) (h' : zz_H) (n' : Nat), post r h' n' → zz_W D zz_cl B p l e R s m args below meth c Q h' n' (cells + rm.cells) (slots + rm.slots) L (pc + 3) (sk r)) : zz_W D zz_cl B p l e R s m args below meth c Q h n cells slots L pc st0 :=
  z_callVT F C wd_525 wd_1 wd_522 wd_523 wd_524 ⟨by decide, by decide, by decide +kernel⟩ rfl rfl d hM hh hn hst hR hW hf hsk kx kk
theorem it_L_35 (F : zz_F B zz_tb X) (C : zz_C D zz_cl (zz_ty dA) B zz_tb X p s m args meth c cc RR_L ret nm) {rm : Room} {As st0 : List Value} {sk : ρ → List Value} {b : Nat} {fs : List Value} (d : decode cc pc = .ok (.invokevirtual 35, 3)) (hM : zz_MX l D zz_cl (zz_ty dA) B zz_tb X yy_D_best (Cond.code yy_D_best prog_1_method_8_code 5 (some FieldType.int)) rm (.ref b :: As) h n mk post px) (hh : h b = some (.inr (0, fs))) (hn : As.length = 3) (hst : st0 = As.reverse ++ .ref b :: rest) (hR : rm.frames + 1 ≤ R.frames ∧ 8 + (5 + 11) + rm.locals ≤ R.locals) (hW : (rest.map fun v => v.category).sum ≤ 8) (hf : cells + rm.cells ≤ R.cells ∧ slots + rm.slots ≤ R.slots) (hsk : ∀ r, (mk r).toList ++ rest = sk r) (kx : ∀ (E : String) (h' : zz_H) (n' : Nat), px E h' n' → zz_T D zz_cl B p l e R s m args below meth c Q h' n' (cells + rm.cells) (slots + rm.slots) L pc rest E) (kk : ∀ (r : ρ) (h' : zz_H) (n' : Nat), post r h' n' → zz_W D zz_cl B p l e R s m args below meth c Q h' n' (cells + rm.cells) (slots + rm.slots) L (pc + 3) (sk r)) : zz_W D zz_cl B p l e R s m args below meth c Q h n cells slots L pc st0 :=
  z_callVT F C wd_624 wd_1 wd_621 wd_622 wd_623 ⟨by decide, by decide, by decide +kernel⟩ rfl rfl d hM hh hn hst hR hW hf hsk kx kk
theorem it_L_38 (F : zz_F B zz_tb X) (C : zz_C D zz_cl (zz_ty dA) B zz_tb X p s m args meth c cc RR_L ret nm) {rm : Room} {As st0 : List Value} {sk : ρ → List Value} {b : Nat} {fs : List Value} (d : decode cc pc = .ok (.invokevirtual 38, 3)) (hM : zz_MX l D zz_cl (zz_ty dA) B zz_tb X yy_D_check (Cond.code yy_D_check prog_1_method_9_code 4 (some FieldType.int)) rm (.ref b :: As) h n mk post px) (hh : h b = some (.inr (0, fs))) (hn : As.length = 1) (hst : st0 = As.reverse ++ .ref b :: rest) (hR : rm.frames + 1 ≤ R.frames ∧ 8 + (4 + 11) + rm.locals ≤ R.locals) (hW : (rest.map fun v => v.category).sum ≤ 8) (hf : cells + rm.cells ≤ R.cells ∧ slots + rm.slots ≤ R.slots) (hsk : ∀ r, (mk r).toList ++ rest = sk r) (kx : ∀ (E : String) (h' : zz_H) (n' : Nat), px E h' n' → zz_T D zz_cl B p l e R s m args below meth c Q h' n' (cells + rm.cells) (slots + rm.slots) L pc rest E) (kk : ∀ (r : ρ) (h' : zz_H) (n' : Nat), post r h' n' → zz_W D zz_cl B p l e R s m args below meth c Q h' n' (cells + rm.cells) (slots + rm.slots) L (pc + 3) (sk r)) : zz_W D zz_cl B p l e R s m args below meth c Q h n cells slots L pc st0 :=
  z_callVT F C wd_654 wd_1 wd_651 wd_652 wd_653 ⟨by decide, by decide, by decide +kernel⟩ rfl rfl d hM hh hn hst hR hW hf hsk kx kk
theorem it_L_41 (F : zz_F B zz_tb X) (C : zz_C D zz_cl (zz_ty dA) B zz_tb X p s m args meth c cc RR_L ret nm) {rm : Room} {As st0 : List Value} {sk : ρ → List Value} {b : Nat} {fs : List Value} (d : decode cc pc = .ok (.invokevirtual 41, 3)) (hM : zz_MX l D zz_cl (zz_ty dA) B zz_tb X yy_D_witness (Cond.code yy_D_witness prog_1_method_10_code 2 (some FieldType.int)) rm (.ref b :: As) h n mk post px) (hh : h b = some (.inr (0, fs))) (hn : As.length = 1) (hst : st0 = As.reverse ++ .ref b :: rest) (hR : rm.frames + 1 ≤ R.frames ∧ 8 + (2 + 11) + rm.locals ≤ R.locals) (hW : (rest.map fun v => v.category).sum ≤ 8) (hf : cells + rm.cells ≤ R.cells ∧ slots + rm.slots ≤ R.slots) (hsk : ∀ r, (mk r).toList ++ rest = sk r) (kx : ∀ (E : String) (h' : zz_H) (n' : Nat), px E h' n' → zz_T D zz_cl B p l e R s m args below meth c Q h' n' (cells + rm.cells) (slots + rm.slots) L pc rest E) (kk : ∀ (r : ρ) (h' : zz_H) (n' : Nat), post r h' n' → zz_W D zz_cl B p l e R s m args below meth c Q h' n' (cells + rm.cells) (slots + rm.slots) L (pc + 3) (sk r)) : zz_W D zz_cl B p l e R s m args below meth c Q h n cells slots L pc st0 :=
  z_callVT F C wd_673 wd_1 wd_670 wd_671 wd_672 ⟨by decide, by decide, by decide +kernel⟩ rfl rfl d hM hh hn hst hR hW hf hsk kx kk
theorem it_L_46 (F : zz_F B zz_tb X) (C : zz_C D zz_cl (zz_ty dA) B zz_tb X p s m args meth c cc RR_L ret nm) {rm : Room} {As st0 : List Value} {sk : ρ → List Value} {b : Nat} {fs : List Value} (d : decode cc pc = .ok (.invokevirtual 46, 3)) (hM : zz_MX l D zz_cl (zz_ty dA) B zz_tb X yy_D_compile (Cond.code yy_D_compile prog_1_method_11_code 3 (some FieldType.int)) rm (.ref b :: As) h n mk post px) (hh : h b = some (.inr (0, fs))) (hn : As.length = 1) (hst : st0 = As.reverse ++ .ref b :: rest) (hR : rm.frames + 1 ≤ R.frames ∧ 8 + (3 + 11) + rm.locals ≤ R.locals) (hW : (rest.map fun v => v.category).sum ≤ 8) (hf : cells + rm.cells ≤ R.cells ∧ slots + rm.slots ≤ R.slots) (hsk : ∀ r, (mk r).toList ++ rest = sk r) (kx : ∀ (E : String) (h' : zz_H) (n' : Nat), px E h' n' → zz_T D zz_cl B p l e R s m args below meth c Q h' n' (cells + rm.cells) (slots + rm.slots) L pc rest E) (kk : ∀ (r : ρ) (h' : zz_H) (n' : Nat), post r h' n' → zz_W D zz_cl B p l e R s m args below meth c Q h' n' (cells + rm.cells) (slots + rm.slots) L (pc + 3) (sk r)) : zz_W D zz_cl B p l e R s m args below meth c Q h n cells slots L pc st0 :=
  z_callVT F C wd_696 wd_1 wd_693 wd_694 wd_695 ⟨by decide, by decide, by decide +kernel⟩ rfl rfl d hM hh hn hst hR hW hf hsk kx kk
theorem it_L_49 (F : zz_F B zz_tb X) (C : zz_C D zz_cl (zz_ty dA) B zz_tb X p s m args meth c cc RR_L ret nm) {rm : Room} {As st0 : List Value} {sk : ρ → List Value} {b : Nat} {fs : List Value} (d : decode cc pc = .ok (.invokevirtual 49, 3)) (hM : zz_MX l D zz_cl (zz_ty dA) B zz_tb X yy_D_node (Cond.code yy_D_node prog_1_method_12_code 5 (some FieldType.int)) rm (.ref b :: As) h n mk post px) (hh : h b = some (.inr (0, fs))) (hn : As.length = 3) (hst : st0 = As.reverse ++ .ref b :: rest) (hR : rm.frames + 1 ≤ R.frames ∧ 8 + (5 + 11) + rm.locals ≤ R.locals) (hW : (rest.map fun v => v.category).sum ≤ 8) (hf : cells + rm.cells ≤ R.cells ∧ slots + rm.slots ≤ R.slots) (hsk : ∀ r, (mk r).toList ++ rest = sk r) (kx : ∀ (E : String) (h' : zz_H) (n' : Nat), px E h' n' → zz_T D zz_cl B p l e R s m args below meth c Q h' n' (cells + rm.cells) (slots + rm.slots) L pc rest E) (kk : ∀ (r : ρ) (h' : zz_H) (n' : Nat), post r h' n' → zz_W D zz_cl B p l e R s m args below meth c Q h' n' (cells + rm.cells) (slots + rm.slots) L (pc + 3) (sk r)) : zz_W D zz_cl B p l e R s m args below meth c Q h n cells slots L pc st0 :=
  z_callVT F C wd_750 wd_1 wd_747 wd_748 wd_749 ⟨by decide, by decide, by decide +kernel⟩ rfl rfl d hM hh hn hst hR hW hf hsk kx kk
theorem it_L_52 (F : zz_F B zz_tb X) (C : zz_C D zz_cl (zz_ty dA) B zz_tb X p s m args meth c cc RR_L ret nm) {rm : Room} {As st0 : List Value} {sk : ρ → List Value} {b : Nat} {fs : List Value} (d : decode cc pc = .ok (.invokevirtual 52, 3)) (hM : zz_MX l D zz_cl (zz_ty dA) B zz_tb X yy_D_test (Cond.code yy_D_test prog_1_method_13_code 5 (some FieldType.int)) rm (.ref b :: As) h n mk post px) (hh : h b = some (.inr (0, fs))) (hn : As.length = 3) (hst : st0 = As.reverse ++ .ref b :: rest) (hR : rm.frames + 1 ≤ R.frames ∧ 8 + (5 + 11) + rm.locals ≤ R.locals) (hW : (rest.map fun v => v.category).sum ≤ 8) (hf : cells + rm.cells ≤ R.cells ∧ slots + rm.slots ≤ R.slots) (hsk : ∀ r, (mk r).toList ++ rest = sk r) (kx : ∀ (E : String) (h' : zz_H) (n' : Nat), px E h' n' → zz_T D zz_cl B p l e R s m args below meth c Q h' n' (cells + rm.cells) (slots + rm.slots) L pc rest E) (kk : ∀ (r : ρ) (h' : zz_H) (n' : Nat), post r h' n' → zz_W D zz_cl B p l e R s m args below meth c Q h' n' (cells + rm.cells) (slots + rm.slots) L (pc + 3) (sk r)) : zz_W D zz_cl B p l e R s m args below meth c Q h n cells slots L pc st0 :=
  z_callVT F C wd_772 wd_1 wd_769 wd_770 wd_771 ⟨by decide, by decide, by decide +kernel⟩ rfl rfl d hM hh hn hst hR hW hf hsk kx kk
theorem it_L_55 (F : zz_F B zz_tb X) (C : zz_C D zz_cl (zz_ty dA) B zz_tb X p s m args meth c cc RR_L ret nm) {rm : Room} {As st0 : List Value} {sk : ρ → List Value} {b : Nat} {fs : List Value} (d : decode cc pc = .ok (.invokevirtual 55, 3)) (hM : zz_MX l D zz_cl (zz_ty dA) B zz_tb X yy_D_run (Cond.code yy_D_run prog_1_method_14_code 7 (some FieldType.int)) rm (.ref b :: As) h n mk post px) (hh : h b = some (.inr (0, fs))) (hn : As.length = 4) (hst : st0 = As.reverse ++ .ref b :: rest) (hR : rm.frames + 1 ≤ R.frames ∧ 8 + (7 + 11) + rm.locals ≤ R.locals) (hW : (rest.map fun v => v.category).sum ≤ 8) (hf : cells + rm.cells ≤ R.cells ∧ slots + rm.slots ≤ R.slots) (hsk : ∀ r, (mk r).toList ++ rest = sk r) (kx : ∀ (E : String) (h' : zz_H) (n' : Nat), px E h' n' → zz_T D zz_cl B p l e R s m args below meth c Q h' n' (cells + rm.cells) (slots + rm.slots) L pc rest E) (kk : ∀ (r : ρ) (h' : zz_H) (n' : Nat), post r h' n' → zz_W D zz_cl B p l e R s m args below meth c Q h' n' (cells + rm.cells) (slots + rm.slots) L (pc + 3) (sk r)) : zz_W D zz_cl B p l e R s m args below meth c Q h n cells slots L pc st0 :=
  z_callVT F C wd_792 wd_1 wd_789 wd_790 wd_791 ⟨by decide, by decide, by decide +kernel⟩ rfl rfl d hM hh hn hst hR hW hf hsk kx kk
theorem iv_L_68 (F : zz_F B zz_tb X) (C : zz_C D zz_cl (zz_ty dA) B zz_tb X p s m args meth c cc RR_L ret nm) {rm : Room} {As st0 : List Value} {sk : ρ → List Value} {b : Nat} {fs : List Value} (d : decode cc pc = .ok (.invokevirtual 68, 3)) (hM : zz_M l D zz_cl (zz_ty dA) B zz_tb X yy_Q_klass (Cond.code yy_Q_klass prog_14_method_6_code 3 (some FieldType.int)) rm (.ref b :: As) h n mk post) (hh : h b = some (.inr (11, fs))) (hn : As.length = 1) (hst : st0 = As.reverse ++ .ref b :: rest) (hR : rm.frames + 1 ≤ R.frames ∧ 8 + (3 + 11) + rm.locals ≤ R.locals) (hW : (rest.map fun v => v.category).sum ≤ 8) (hf : cells + rm.cells ≤ R.cells ∧ slots + rm.slots ≤ R.slots) (hsk : ∀ r, (mk r).toList ++ rest = sk r) (kk : ∀ (r : ρ) (h' : zz_H) (n' : Nat), post r h' n' → zz_W D zz_cl B p l e R s m args below meth c Q h' n' (cells + rm.cells) (slots + rm.slots) L (pc + 3) (sk r)) : zz_W D zz_cl B p l e R s m args below meth c Q h n cells slots L pc st0 :=
  z_callV F C wd_1049 wd_6 wd_1046 wd_1047 wd_1048 ⟨by decide, by decide, by decide +kernel⟩ rfl rfl d hM hh hn hst hR hW hf hsk kk
theorem iv_L_69 (F : zz_F B zz_tb X) (C : zz_C D zz_cl (zz_ty dA) B zz_tb X p s m args meth c cc RR_L ret nm) {rm : Room} {As st0 : List Value} {sk : ρ → List Value} {b : Nat} {fs : List Value} (d : decode cc pc = .ok (.invokevirtual 69, 3)) (hM : zz_M l D zz_cl (zz_ty dA) B zz_tb X yy_Q_thrown (Cond.code yy_Q_thrown prog_14_method_2_code 1 (some FieldType.int)) rm (.ref b :: As) h n mk post) (hh : h b = some (.inr (11, fs))) (hn : As.length = 0) (hst : st0 = As.reverse ++ .ref b :: rest) (hR : rm.frames + 1 ≤ R.frames ∧ 8 + (1 + 11) + rm.locals ≤ R.locals) (hW : (rest.map fun v => v.category).sum ≤ 8) (hf : cells + rm.cells ≤ R.cells ∧ slots + rm.slots ≤ R.slots) (hsk : ∀ r, (mk r).toList ++ rest = sk r) (kk : ∀ (r : ρ) (h' : zz_H) (n' : Nat), post r h' n' → zz_W D zz_cl B p l e R s m args below meth c Q h' n' (cells + rm.cells) (slots + rm.slots) L (pc + 3) (sk r)) : zz_W D zz_cl B p l e R s m args below meth c Q h n cells slots L pc st0 :=
  z_callV F C wd_1045 wd_6 wd_1042 wd_1043 wd_1044 ⟨by decide, by decide, by decide +kernel⟩ rfl rfl d hM hh hn hst hR hW hf hsk kk
theorem iv_L_75 (F : zz_F B zz_tb X) (C : zz_C D zz_cl (zz_ty dA) B zz_tb X p s m args meth c cc RR_L ret nm) {rm : Room} {As st0 : List Value} {sk : ρ → List Value} {b : Nat} {fs : List Value} (d : decode cc pc = .ok (.invokevirtual 75, 3)) (hM : zz_M l D zz_cl (zz_ty dA) B zz_tb X yy_Q_generic (Cond.code yy_Q_generic prog_14_method_7_code 2 (some FieldType.int)) rm (.ref b :: As) h n mk post) (hh : h b = some (.inr (11, fs))) (hn : As.length = 1) (hst : st0 = As.reverse ++ .ref b :: rest) (hR : rm.frames + 1 ≤ R.frames ∧ 8 + (2 + 11) + rm.locals ≤ R.locals) (hW : (rest.map fun v => v.category).sum ≤ 8) (hf : cells + rm.cells ≤ R.cells ∧ slots + rm.slots ≤ R.slots) (hsk : ∀ r, (mk r).toList ++ rest = sk r) (kk : ∀ (r : ρ) (h' : zz_H) (n' : Nat), post r h' n' → zz_W D zz_cl B p l e R s m args below meth c Q h' n' (cells + rm.cells) (slots + rm.slots) L (pc + 3) (sk r)) : zz_W D zz_cl B p l e R s m args below meth c Q h n cells slots L pc st0 :=
  z_callV F C wd_1060 wd_6 wd_1057 wd_1058 wd_1059 ⟨by decide, by decide, by decide +kernel⟩ rfl rfl d hM hh hn hst hR hW hf hsk kk
theorem iv_L_78 (F : zz_F B zz_tb X) (C : zz_C D zz_cl (zz_ty dA) B zz_tb X p s m args meth c cc RR_L ret nm) {rm : Room} {As st0 : List Value} {sk : ρ → List Value} {b : Nat} {fs : List Value} (d : decode cc pc = .ok (.invokevirtual 78, 3)) (hM : zz_M l D zz_cl (zz_ty dA) B zz_tb X yy_Q_method (Cond.code yy_Q_method prog_14_method_8_code 2 (some FieldType.int)) rm (.ref b :: As) h n mk post) (hh : h b = some (.inr (11, fs))) (hn : As.length = 1) (hst : st0 = As.reverse ++ .ref b :: rest) (hR : rm.frames + 1 ≤ R.frames ∧ 8 + (2 + 11) + rm.locals ≤ R.locals) (hW : (rest.map fun v => v.category).sum ≤ 8) (hf : cells + rm.cells ≤ R.cells ∧ slots + rm.slots ≤ R.slots) (hsk : ∀ r, (mk r).toList ++ rest = sk r) (kk : ∀ (r : ρ) (h' : zz_H) (n' : Nat), post r h' n' → zz_W D zz_cl B p l e R s m args below meth c Q h' n' (cells + rm.cells) (slots + rm.slots) L (pc + 3) (sk r)) : zz_W D zz_cl B p l e R s m args below meth c Q h n cells slots L pc st0 :=
  z_callV F C wd_1064 wd_6 wd_1061 wd_1062 wd_1063 ⟨by decide, by decide, by decide +kernel⟩ rfl rfl d hM hh hn hst hR hW hf hsk kk
theorem iv_L_82 (F : zz_F B zz_tb X) (C : zz_C D zz_cl (zz_ty dA) B zz_tb X p s m args meth c cc RR_L ret nm) {rm : Room} {As st0 : List Value} {sk : ρ → List Value} {b : Nat} {fs : List Value} (d : decode cc pc = .ok (.invokevirtual 82, 3)) (hM : zz_M l D zz_cl (zz_ty dA) B zz_tb X yy_Q_atom (Cond.code yy_Q_atom prog_14_method_9_code 9 (some FieldType.int)) rm (.ref b :: As) h n mk post) (hh : h b = some (.inr (11, fs))) (hn : As.length = 5) (hst : st0 = As.reverse ++ .ref b :: rest) (hR : rm.frames + 1 ≤ R.frames ∧ 8 + (9 + 11) + rm.locals ≤ R.locals) (hW : (rest.map fun v => v.category).sum ≤ 8) (hf : cells + rm.cells ≤ R.cells ∧ slots + rm.slots ≤ R.slots) (hsk : ∀ r, (mk r).toList ++ rest = sk r) (kk : ∀ (r : ρ) (h' : zz_H) (n' : Nat), post r h' n' → zz_W D zz_cl B p l e R s m args below meth c Q h' n' (cells + rm.cells) (slots + rm.slots) L (pc + 3) (sk r)) : zz_W D zz_cl B p l e R s m args below meth c Q h n cells slots L pc st0 :=
  z_callV F C wd_1068 wd_6 wd_1065 wd_1066 wd_1067 ⟨by decide, by decide, by decide +kernel⟩ rfl rfl d hM hh hn hst hR hW hf hsk kk
theorem iv_L_86 (F : zz_F B zz_tb X) (C : zz_C D zz_cl (zz_ty dA) B zz_tb X p s m args meth c cc RR_L ret nm) {rm : Room} {As st0 : List Value} {sk : ρ → List Value} {b : Nat} {fs : List Value} (d : decode cc pc = .ok (.invokevirtual 86, 3)) (hM : zz_M l D zz_cl (zz_ty dA) B zz_tb X yy_Q_operation (Cond.code yy_Q_operation prog_14_method_10_code 5 (some FieldType.int)) rm (.ref b :: As) h n mk post) (hh : h b = some (.inr (11, fs))) (hn : As.length = 3) (hst : st0 = As.reverse ++ .ref b :: rest) (hR : rm.frames + 1 ≤ R.frames ∧ 8 + (5 + 11) + rm.locals ≤ R.locals) (hW : (rest.map fun v => v.category).sum ≤ 8) (hf : cells + rm.cells ≤ R.cells ∧ slots + rm.slots ≤ R.slots) (hsk : ∀ r, (mk r).toList ++ rest = sk r) (kk : ∀ (r : ρ) (h' : zz_H) (n' : Nat), post r h' n' → zz_W D zz_cl B p l e R s m args below meth c Q h' n' (cells + rm.cells) (slots + rm.slots) L (pc + 3) (sk r)) : zz_W D zz_cl B p l e R s m args below meth c Q h n cells slots L pc st0 :=
  z_callV F C wd_1072 wd_6 wd_1069 wd_1070 wd_1071 ⟨by decide, by decide, by decide +kernel⟩ rfl rfl d hM hh hn hst hR hW hf hsk kk
theorem iv_L_90 (F : zz_F B zz_tb X) (C : zz_C D zz_cl (zz_ty dA) B zz_tb X p s m args meth c cc RR_L ret nm) {rm : Room} {As st0 : List Value} {sk : ρ → List Value} {b : Nat} {fs : List Value} (d : decode cc pc = .ok (.invokevirtual 90, 3)) (hM : zz_M l D zz_cl (zz_ty dA) B zz_tb X yy_Q_beyond (Cond.code yy_Q_beyond prog_14_method_24_code 4 (some FieldType.boolean)) rm (.ref b :: As) h n mk post) (hh : h b = some (.inr (11, fs))) (hn : As.length = 2) (hst : st0 = As.reverse ++ .ref b :: rest) (hR : rm.frames + 1 ≤ R.frames ∧ 8 + (4 + 11) + rm.locals ≤ R.locals) (hW : (rest.map fun v => v.category).sum ≤ 8) (hf : cells + rm.cells ≤ R.cells ∧ slots + rm.slots ≤ R.slots) (hsk : ∀ r, (mk r).toList ++ rest = sk r) (kk : ∀ (r : ρ) (h' : zz_H) (n' : Nat), post r h' n' → zz_W D zz_cl B p l e R s m args below meth c Q h' n' (cells + rm.cells) (slots + rm.slots) L (pc + 3) (sk r)) : zz_W D zz_cl B p l e R s m args below meth c Q h n cells slots L pc st0 :=
  z_callV F C wd_1076 wd_6 wd_1073 wd_1074 wd_1075 ⟨by decide, by decide, by decide +kernel⟩ rfl rfl d hM hh hn hst hR hW hf hsk kk
theorem iv_L_93 (F : zz_F B zz_tb X) (C : zz_C D zz_cl (zz_ty dA) B zz_tb X p s m args meth c cc RR_L ret nm) {rm : Room} {As st0 : List Value} {sk : ρ → List Value} {b : Nat} {fs : List Value} (d : decode cc pc = .ok (.invokevirtual 93, 3)) (hM : zz_M l D zz_cl (zz_ty dA) B zz_tb X yy_Q_best (Cond.code yy_Q_best prog_14_method_25_code 4 (some FieldType.int)) rm (.ref b :: As) h n mk post) (hh : h b = some (.inr (11, fs))) (hn : As.length = 3) (hst : st0 = As.reverse ++ .ref b :: rest) (hR : rm.frames + 1 ≤ R.frames ∧ 8 + (4 + 11) + rm.locals ≤ R.locals) (hW : (rest.map fun v => v.category).sum ≤ 8) (hf : cells + rm.cells ≤ R.cells ∧ slots + rm.slots ≤ R.slots) (hsk : ∀ r, (mk r).toList ++ rest = sk r) (kk : ∀ (r : ρ) (h' : zz_H) (n' : Nat), post r h' n' → zz_W D zz_cl B p l e R s m args below meth c Q h' n' (cells + rm.cells) (slots + rm.slots) L (pc + 3) (sk r)) : zz_W D zz_cl B p l e R s m args below meth c Q h n cells slots L pc st0 :=
  z_callV F C wd_1116 wd_6 wd_1113 wd_1114 wd_1115 ⟨by decide, by decide, by decide +kernel⟩ rfl rfl d hM hh hn hst hR hW hf hsk kk
theorem iv_L_96 (F : zz_F B zz_tb X) (C : zz_C D zz_cl (zz_ty dA) B zz_tb X p s m args meth c cc RR_L ret nm) {rm : Room} {As st0 : List Value} {sk : ρ → List Value} {b : Nat} {fs : List Value} (d : decode cc pc = .ok (.invokevirtual 96, 3)) (hM : zz_M l D zz_cl (zz_ty dA) B zz_tb X yy_Q_check (Cond.code yy_Q_check prog_14_method_26_code 4 (some FieldType.int)) rm (.ref b :: As) h n mk post) (hh : h b = some (.inr (11, fs))) (hn : As.length = 1) (hst : st0 = As.reverse ++ .ref b :: rest) (hR : rm.frames + 1 ≤ R.frames ∧ 8 + (4 + 11) + rm.locals ≤ R.locals) (hW : (rest.map fun v => v.category).sum ≤ 8) (hf : cells + rm.cells ≤ R.cells ∧ slots + rm.slots ≤ R.slots) (hsk : ∀ r, (mk r).toList ++ rest = sk r) (kk : ∀ (r : ρ) (h' : zz_H) (n' : Nat), post r h' n' → zz_W D zz_cl B p l e R s m args below meth c Q h' n' (cells + rm.cells) (slots + rm.slots) L (pc + 3) (sk r)) : zz_W D zz_cl B p l e R s m args below meth c Q h n cells slots L pc st0 :=
  z_callV F C wd_1136 wd_6 wd_1133 wd_1134 wd_1135 ⟨by decide, by decide, by decide +kernel⟩ rfl rfl d hM hh hn hst hR hW hf hsk kk
theorem iv_L_99 (F : zz_F B zz_tb X) (C : zz_C D zz_cl (zz_ty dA) B zz_tb X p s m args meth c cc RR_L ret nm) {rm : Room} {As st0 : List Value} {sk : ρ → List Value} {b : Nat} {fs : List Value} (d : decode cc pc = .ok (.invokevirtual 99, 3)) (hM : zz_M l D zz_cl (zz_ty dA) B zz_tb X yy_Q_witness (Cond.code yy_Q_witness prog_14_method_27_code 2 (some FieldType.int)) rm (.ref b :: As) h n mk post) (hh : h b = some (.inr (11, fs))) (hn : As.length = 1) (hst : st0 = As.reverse ++ .ref b :: rest) (hR : rm.frames + 1 ≤ R.frames ∧ 8 + (2 + 11) + rm.locals ≤ R.locals) (hW : (rest.map fun v => v.category).sum ≤ 8) (hf : cells + rm.cells ≤ R.cells ∧ slots + rm.slots ≤ R.slots) (hsk : ∀ r, (mk r).toList ++ rest = sk r) (kk : ∀ (r : ρ) (h' : zz_H) (n' : Nat), post r h' n' → zz_W D zz_cl B p l e R s m args below meth c Q h' n' (cells + rm.cells) (slots + rm.slots) L (pc + 3) (sk r)) : zz_W D zz_cl B p l e R s m args below meth c Q h n cells slots L pc st0 :=
  z_callV F C wd_1140 wd_6 wd_1137 wd_1138 wd_1139 ⟨by decide, by decide, by decide +kernel⟩ rfl rfl d hM hh hn hst hR hW hf hsk kk
theorem iv_L_102 (F : zz_F B zz_tb X) (C : zz_C D zz_cl (zz_ty dA) B zz_tb X p s m args meth c cc RR_L ret nm) {rm : Room} {As st0 : List Value} {sk : ρ → List Value} {b : Nat} {fs : List Value} (d : decode cc pc = .ok (.invokevirtual 102, 3)) (hM : zz_M l D zz_cl (zz_ty dA) B zz_tb X yy_Q_compile (Cond.code yy_Q_compile prog_14_method_36_code 2 (some FieldType.int)) rm (.ref b :: As) h n mk post) (hh : h b = some (.inr (11, fs))) (hn : As.length = 1) (hst : st0 = As.reverse ++ .ref b :: rest) (hR : rm.frames + 1 ≤ R.frames ∧ 8 + (2 + 11) + rm.locals ≤ R.locals) (hW : (rest.map fun v => v.category).sum ≤ 8) (hf : cells + rm.cells ≤ R.cells ∧ slots + rm.slots ≤ R.slots) (hsk : ∀ r, (mk r).toList ++ rest = sk r) (kk : ∀ (r : ρ) (h' : zz_H) (n' : Nat), post r h' n' → zz_W D zz_cl B p l e R s m args below meth c Q h' n' (cells + rm.cells) (slots + rm.slots) L (pc + 3) (sk r)) : zz_W D zz_cl B p l e R s m args below meth c Q h n cells slots L pc st0 :=
  z_callV F C wd_1144 wd_6 wd_1141 wd_1142 wd_1143 ⟨by decide, by decide, by decide +kernel⟩ rfl rfl d hM hh hn hst hR hW hf hsk kk
theorem iv_L_105 (F : zz_F B zz_tb X) (C : zz_C D zz_cl (zz_ty dA) B zz_tb X p s m args meth c cc RR_L ret nm) {rm : Room} {As st0 : List Value} {sk : ρ → List Value} {b : Nat} {fs : List Value} (d : decode cc pc = .ok (.invokevirtual 105, 3)) (hM : zz_M l D zz_cl (zz_ty dA) B zz_tb X yy_Q_node (Cond.code yy_Q_node prog_14_method_37_code 6 (some FieldType.int)) rm (.ref b :: As) h n mk post) (hh : h b = some (.inr (11, fs))) (hn : As.length = 3) (hst : st0 = As.reverse ++ .ref b :: rest) (hR : rm.frames + 1 ≤ R.frames ∧ 8 + (6 + 11) + rm.locals ≤ R.locals) (hW : (rest.map fun v => v.category).sum ≤ 8) (hf : cells + rm.cells ≤ R.cells ∧ slots + rm.slots ≤ R.slots) (hsk : ∀ r, (mk r).toList ++ rest = sk r) (kk : ∀ (r : ρ) (h' : zz_H) (n' : Nat), post r h' n' → zz_W D zz_cl B p l e R s m args below meth c Q h' n' (cells + rm.cells) (slots + rm.slots) L (pc + 3) (sk r)) : zz_W D zz_cl B p l e R s m args below meth c Q h n cells slots L pc st0 :=
  z_callV F C wd_1184 wd_6 wd_1181 wd_1182 wd_1183 ⟨by decide, by decide, by decide +kernel⟩ rfl rfl d hM hh hn hst hR hW hf hsk kk
theorem iv_L_108 (F : zz_F B zz_tb X) (C : zz_C D zz_cl (zz_ty dA) B zz_tb X p s m args meth c cc RR_L ret nm) {rm : Room} {As st0 : List Value} {sk : ρ → List Value} {b : Nat} {fs : List Value} (d : decode cc pc = .ok (.invokevirtual 108, 3)) (hM : zz_M l D zz_cl (zz_ty dA) B zz_tb X yy_Q_test (Cond.code yy_Q_test prog_14_method_38_code 6 (some FieldType.int)) rm (.ref b :: As) h n mk post) (hh : h b = some (.inr (11, fs))) (hn : As.length = 3) (hst : st0 = As.reverse ++ .ref b :: rest) (hR : rm.frames + 1 ≤ R.frames ∧ 8 + (6 + 11) + rm.locals ≤ R.locals) (hW : (rest.map fun v => v.category).sum ≤ 8) (hf : cells + rm.cells ≤ R.cells ∧ slots + rm.slots ≤ R.slots) (hsk : ∀ r, (mk r).toList ++ rest = sk r) (kk : ∀ (r : ρ) (h' : zz_H) (n' : Nat), post r h' n' → zz_W D zz_cl B p l e R s m args below meth c Q h' n' (cells + rm.cells) (slots + rm.slots) L (pc + 3) (sk r)) : zz_W D zz_cl B p l e R s m args below meth c Q h n cells slots L pc st0 :=
  z_callV F C wd_1188 wd_6 wd_1185 wd_1186 wd_1187 ⟨by decide, by decide, by decide +kernel⟩ rfl rfl d hM hh hn hst hR hW hf hsk kk
theorem iv_L_112 (F : zz_F B zz_tb X) (C : zz_C D zz_cl (zz_ty dA) B zz_tb X p s m args meth c cc RR_L ret nm) {rm : Room} {As st0 : List Value} {sk : ρ → List Value} {b : Nat} {fs : List Value} (d : decode cc pc = .ok (.invokevirtual 112, 3)) (hM : zz_M l D zz_cl (zz_ty dA) B zz_tb X yy_Q_run (Cond.code yy_Q_run prog_14_method_44_code 8 (some FieldType.int)) rm (.ref b :: As) h n mk post) (hh : h b = some (.inr (11, fs))) (hn : As.length = 4) (hst : st0 = As.reverse ++ .ref b :: rest) (hR : rm.frames + 1 ≤ R.frames ∧ 8 + (8 + 11) + rm.locals ≤ R.locals) (hW : (rest.map fun v => v.category).sum ≤ 8) (hf : cells + rm.cells ≤ R.cells ∧ slots + rm.slots ≤ R.slots) (hsk : ∀ r, (mk r).toList ++ rest = sk r) (kk : ∀ (r : ρ) (h' : zz_H) (n' : Nat), post r h' n' → zz_W D zz_cl B p l e R s m args below meth c Q h' n' (cells + rm.cells) (slots + rm.slots) L (pc + 3) (sk r)) : zz_W D zz_cl B p l e R s m args below meth c Q h n cells slots L pc st0 :=
  z_callV F C wd_1192 wd_6 wd_1189 wd_1190 wd_1191 ⟨by decide, by decide, by decide +kernel⟩ rfl rfl d hM hh hn hst hR hW hf hsk kk
theorem iv_L_113 (F : zz_F B zz_tb X) (C : zz_C D zz_cl (zz_ty dA) B zz_tb X p s m args meth c cc RR_L ret nm) {rm : Room} {As st0 : List Value} {sk : ρ → List Value} {b : Nat} {fs : List Value} (d : decode cc pc = .ok (.invokevirtual 113, 3)) (hM : zz_M l D zz_cl (zz_ty dA) B zz_tb X yy_D_left (Cond.code yy_D_left prog_1_method_15_code 1 (some FieldType.int)) rm (.ref b :: As) h n mk post) (hh : h b = some (.inr (0, fs))) (hn : As.length = 0) (hst : st0 = As.reverse ++ .ref b :: rest) (hR : rm.frames + 1 ≤ R.frames ∧ 8 + (1 + 11) + rm.locals ≤ R.locals) (hW : (rest.map fun v => v.category).sum ≤ 8) (hf : cells + rm.cells ≤ R.cells ∧ slots + rm.slots ≤ R.slots) (hsk : ∀ r, (mk r).toList ++ rest = sk r) (kk : ∀ (r : ρ) (h' : zz_H) (n' : Nat), post r h' n' → zz_W D zz_cl B p l e R s m args below meth c Q h' n' (cells + rm.cells) (slots + rm.slots) L (pc + 3) (sk r)) : zz_W D zz_cl B p l e R s m args below meth c Q h n cells slots L pc st0 :=
  z_callV F C wd_144 wd_1 wd_141 wd_142 wd_143 ⟨by decide, by decide, by decide +kernel⟩ rfl rfl d hM hh hn hst hR hW hf hsk kk
theorem iv_L_116 (F : zz_F B zz_tb X) (C : zz_C D zz_cl (zz_ty dA) B zz_tb X p s m args meth c cc RR_L ret nm) {rm : Room} {As st0 : List Value} {sk : ρ → List Value} {b : Nat} {fs : List Value} (d : decode cc pc = .ok (.invokevirtual 116, 3)) (hM : zz_M l D zz_cl (zz_ty dA) B zz_tb X yy_Q_left (Cond.code yy_Q_left prog_14_method_45_code 1 (some FieldType.int)) rm (.ref b :: As) h n mk post) (hh : h b = some (.inr (11, fs))) (hn : As.length = 0) (hst : st0 = As.reverse ++ .ref b :: rest) (hR : rm.frames + 1 ≤ R.frames ∧ 8 + (1 + 11) + rm.locals ≤ R.locals) (hW : (rest.map fun v => v.category).sum ≤ 8) (hf : cells + rm.cells ≤ R.cells ∧ slots + rm.slots ≤ R.slots) (hsk : ∀ r, (mk r).toList ++ rest = sk r) (kk : ∀ (r : ρ) (h' : zz_H) (n' : Nat), post r h' n' → zz_W D zz_cl B p l e R s m args below meth c Q h' n' (cells + rm.cells) (slots + rm.slots) L (pc + 3) (sk r)) : zz_W D zz_cl B p l e R s m args below meth c Q h n cells slots L pc st0 :=
  z_callV F C wd_1216 wd_6 wd_1213 wd_1214 wd_1215 ⟨by decide, by decide, by decide +kernel⟩ rfl rfl d hM hh hn hst hR hW hf hsk kk
theorem iv_L_117 (F : zz_F B zz_tb X) (C : zz_C D zz_cl (zz_ty dA) B zz_tb X p s m args meth c cc RR_L ret nm) {rm : Room} {As st0 : List Value} {sk : ρ → List Value} {b : Nat} {fs : List Value} (d : decode cc pc = .ok (.invokevirtual 117, 3)) (hM : zz_M l D zz_cl (zz_ty dA) B zz_tb X yy_D_tests (Cond.code yy_D_tests prog_1_method_16_code 1 (some FieldType.int)) rm (.ref b :: As) h n mk post) (hh : h b = some (.inr (0, fs))) (hn : As.length = 0) (hst : st0 = As.reverse ++ .ref b :: rest) (hR : rm.frames + 1 ≤ R.frames ∧ 8 + (1 + 11) + rm.locals ≤ R.locals) (hW : (rest.map fun v => v.category).sum ≤ 8) (hf : cells + rm.cells ≤ R.cells ∧ slots + rm.slots ≤ R.slots) (hsk : ∀ r, (mk r).toList ++ rest = sk r) (kk : ∀ (r : ρ) (h' : zz_H) (n' : Nat), post r h' n' → zz_W D zz_cl B p l e R s m args below meth c Q h' n' (cells + rm.cells) (slots + rm.slots) L (pc + 3) (sk r)) : zz_W D zz_cl B p l e R s m args below meth c Q h n cells slots L pc st0 :=
  z_callV F C wd_148 wd_1 wd_145 wd_146 wd_147 ⟨by decide, by decide, by decide +kernel⟩ rfl rfl d hM hh hn hst hR hW hf hsk kk
theorem iv_L_120 (F : zz_F B zz_tb X) (C : zz_C D zz_cl (zz_ty dA) B zz_tb X p s m args meth c cc RR_L ret nm) {rm : Room} {As st0 : List Value} {sk : ρ → List Value} {b : Nat} {fs : List Value} (d : decode cc pc = .ok (.invokevirtual 120, 3)) (hM : zz_M l D zz_cl (zz_ty dA) B zz_tb X yy_Q_tests (Cond.code yy_Q_tests prog_14_method_46_code 1 (some FieldType.int)) rm (.ref b :: As) h n mk post) (hh : h b = some (.inr (11, fs))) (hn : As.length = 0) (hst : st0 = As.reverse ++ .ref b :: rest) (hR : rm.frames + 1 ≤ R.frames ∧ 8 + (1 + 11) + rm.locals ≤ R.locals) (hW : (rest.map fun v => v.category).sum ≤ 8) (hf : cells + rm.cells ≤ R.cells ∧ slots + rm.slots ≤ R.slots) (hsk : ∀ r, (mk r).toList ++ rest = sk r) (kk : ∀ (r : ρ) (h' : zz_H) (n' : Nat), post r h' n' → zz_W D zz_cl B p l e R s m args below meth c Q h' n' (cells + rm.cells) (slots + rm.slots) L (pc + 3) (sk r)) : zz_W D zz_cl B p l e R s m args below meth c Q h n cells slots L pc st0 :=
  z_callV F C wd_1220 wd_6 wd_1217 wd_1218 wd_1219 ⟨by decide, by decide, by decide +kernel⟩ rfl rfl d hM hh hn hst hR hW hf hsk kk
theorem nw_L_8 (C : zz_C D zz_cl (zz_ty dA) B zz_tb X p s m args meth c cc RR_L ret nm) (d : decode cc pc = .ok (.new 8, 3)) (hcl : cells + 1 ≤ R.cells) (hsl : slots + 10 ≤ R.slots) (k9 : zz_W D zz_cl B p l e R s m args below meth c Q (zz_up h n (.inr (0, [.null, .null, .int 0, .null, .int 0, .null, .null, .int 0, .int 0, .int 0]))) (n + 1) (cells + 1) (slots + 10) L (pc + 3) (.ref n :: rest)) : zz_W D zz_cl B p l e R s m args below meth c Q h n cells slots L pc rest := z_new C tt_D (ci := 0) rfl in_D tk_D wd_23 wd_24 wd_1 (by decide +kernel) d hcl hsl k9
theorem nw_L_60 (C : zz_C D zz_cl (zz_ty dA) B zz_tb X p s m args meth c cc RR_L ret nm) (d : decode cc pc = .ok (.new 60, 3)) (hcl : cells + 1 ≤ R.cells) (hsl : slots + 46 ≤ R.slots) (k9 : zz_W D zz_cl B p l e R s m args below meth c Q (zz_up h n (.inr (11, [.int 0, .int 0, .null, .int 0, .null, .int 0, .null, .null, .null, .null, .null, .null, .null, .null, .null, .null, .null, .null, .int 0, .int 0, .int 0, .null, .null, .null, .null, .null, .null, .null, .null, .null, .null, .null, .null, .null, .null, .null, .int 0, .null, .null, .null, .null, .null, .null, .int 0, .int 0, .int 0]))) (n + 1) (cells + 1) (slots + 46) L (pc + 3) (.ref n :: rest)) : zz_W D zz_cl B p l e R s m args below meth c Q h n cells slots L pc rest := z_new C tt_Q (ci := 11) rfl in_Q tk_Q wd_896 wd_897 wd_6 (by decide +kernel) d hcl hsl k9
theorem an_M_9 (C : zz_C D zz_cl (zz_ty dA) B zz_tb X p s m args meth c cc RR_M ret nm) {N : Nat} {x : Int32} (d : decode cc pc = .ok (.anewarray 9, 3)) (hx : ¬ x < 0) (hN : x.toNatClampNeg = N) (hby : N * 4 ≤ 536870912) (hcl : cells + 1 ≤ R.cells) (hsl : slots + N ≤ R.slots) (k9 : zz_W D zz_cl B p l e R s m args below meth c Q (zz_up h n (.inl (dA 5, N, .inr (.inr (.inr (.inr (fun _ => none))))))) (n + 1) (cells + 1) (slots + N) L (pc + 3) (.ref n :: rest)) : zz_W D zz_cl B p l e R s m args below meth c Q h n cells slots L pc (.int x :: rest) := z_anew (t0 := 5) C wd_386 wd_303 rfl d hx hN hby hcl hsl k9
theorem an_M_19 (C : zz_C D zz_cl (zz_ty dA) B zz_tb X p s m args meth c cc RR_M ret nm) {N : Nat} {x : Int32} (d : decode cc pc = .ok (.anewarray 19, 3)) (hx : ¬ x < 0) (hN : x.toNatClampNeg = N) (hby : N * 4 ≤ 536870912) (hcl : cells + 1 ≤ R.cells) (hsl : slots + N ≤ R.slots) (k9 : zz_W D zz_cl B p l e R s m args below meth c Q (zz_up h n (.inl (dA 6, N, .inr (.inr (.inr (.inr (fun _ => none))))))) (n + 1) (cells + 1) (slots + N) L (pc + 3) (.ref n :: rest)) : zz_W D zz_cl B p l e R s m args below meth c Q h n cells slots L pc (.int x :: rest) := z_anew (t0 := 6) C wd_387 wd_388 rfl d hx hN hby hcl hsl k9
theorem gf_M_11 (C : zz_C D zz_cl (zz_ty dA) B zz_tb X p s m args meth c cc RR_M ret nm) {a : Nat} {fs : List Value} {v : Value} (d : decode cc pc = .ok (.getfield 11, 3)) (hh : h a = some (.inr (4, fs))) (hv : fs[2]? = some v) (k9 : zz_W D zz_cl B p l e R s m args below meth c Q h n cells slots L (pc + 3) (v :: rest)) : zz_W D zz_cl B p l e R s m args below meth c Q h n cells slots L pc (.ref a :: rest) := z_get (k := 2) C rfl in_M (by decide) wd_394 rfl d hh hv k9
theorem gf_M_15 (C : zz_C D zz_cl (zz_ty dA) B zz_tb X p s m args meth c cc RR_M ret nm) {a : Nat} {fs : List Value} {v : Value} (d : decode cc pc = .ok (.getfield 15, 3)) (hh : h a = some (.inr (4, fs))) (hv : fs[3]? = some v) (k9 : zz_W D zz_cl B p l e R s m args below meth c Q h n cells slots L (pc + 3) (v :: rest)) : zz_W D zz_cl B p l e R s m args below meth c Q h n cells slots L pc (.ref a :: rest) := z_get (k := 3) C rfl in_M (by decide) wd_395 rfl d hh hv k9
theorem gf_M_21 (C : zz_C D zz_cl (zz_ty dA) B zz_tb X p s m args meth c cc RR_M ret nm) {a : Nat} {fs : List Value} {v : Value} (d : decode cc pc = .ok (.getfield 21, 3)) (hh : h a = some (.inr (4, fs))) (hv : fs[4]? = some v) (k9 : zz_W D zz_cl B p l e R s m args below meth c Q h n cells slots L (pc + 3) (v :: rest)) : zz_W D zz_cl B p l e R s m args below meth c Q h n cells slots L pc (.ref a :: rest) := z_get (k := 4) C rfl in_M (by decide) wd_397 rfl d hh hv k9
theorem gf_M_25 (C : zz_C D zz_cl (zz_ty dA) B zz_tb X p s m args meth c cc RR_M ret nm) {a : Nat} {fs : List Value} {v : Value} (d : decode cc pc = .ok (.getfield 25, 3)) (hh : h a = some (.inr (4, fs))) (hv : fs[5]? = some v) (k9 : zz_W D zz_cl B p l e R s m args below meth c Q h n cells slots L (pc + 3) (v :: rest)) : zz_W D zz_cl B p l e R s m args below meth c Q h n cells slots L pc (.ref a :: rest) := z_get (k := 5) C rfl in_M (by decide) wd_399 rfl d hh hv k9
theorem gf_M_28 (C : zz_C D zz_cl (zz_ty dA) B zz_tb X p s m args meth c cc RR_M ret nm) {a : Nat} {fs : List Value} {v : Value} (d : decode cc pc = .ok (.getfield 28, 3)) (hh : h a = some (.inr (4, fs))) (hv : fs[6]? = some v) (k9 : zz_W D zz_cl B p l e R s m args below meth c Q h n cells slots L (pc + 3) (v :: rest)) : zz_W D zz_cl B p l e R s m args below meth c Q h n cells slots L pc (.ref a :: rest) := z_get (k := 6) C rfl in_M (by decide) wd_402 rfl d hh hv k9
theorem gf_M_32 (C : zz_C D zz_cl (zz_ty dA) B zz_tb X p s m args meth c cc RR_M ret nm) {a : Nat} {fs : List Value} {v : Value} (d : decode cc pc = .ok (.getfield 32, 3)) (hh : h a = some (.inr (4, fs))) (hv : fs[7]? = some v) (k9 : zz_W D zz_cl B p l e R s m args below meth c Q h n cells slots L (pc + 3) (v :: rest)) : zz_W D zz_cl B p l e R s m args below meth c Q h n cells slots L pc (.ref a :: rest) := z_get (k := 7) C rfl in_M (by decide) wd_403 rfl d hh hv k9
theorem gf_M_41 (C : zz_C D zz_cl (zz_ty dA) B zz_tb X p s m args meth c cc RR_M ret nm) {a : Nat} {fs : List Value} {v : Value} (d : decode cc pc = .ok (.getfield 41, 3)) (hh : h a = some (.inr (4, fs))) (hv : fs[0]? = some v) (k9 : zz_W D zz_cl B p l e R s m args below meth c Q h n cells slots L (pc + 3) (v :: rest)) : zz_W D zz_cl B p l e R s m args below meth c Q h n cells slots L pc (.ref a :: rest) := z_get (k := 0) C rfl in_M (by decide) wd_389 rfl d hh hv k9
theorem oi_M_1 (C : zz_C D zz_cl (zz_ty dA) B zz_tb X p s m args meth c cc RR_M ret nm) {a : Nat} (d : decode cc pc = .ok (.invokespecial 1, 3)) (hfr : 1 ≤ R.frames) (hlo : (rest.map fun v => v.category).sum + 12 ≤ R.locals) (k9 : zz_W D zz_cl B p l e R s m args below meth c Q h n cells slots L (pc + 3) rest) : zz_W D zz_cl B p l e R s m args below meth c Q h n cells slots L pc (.ref a :: rest) := z_objInit C wd_385 wd_29 wd_30 d hfr hlo k9
theorem iv_M_48 (F : zz_F B zz_tb X) (C : zz_C D zz_cl (zz_ty dA) B zz_tb X p s m args meth c cc RR_M ret nm) {rm : Room} {As st0 : List Value} {sk : ρ → List Value} {b : Nat} {fs : List Value} (d : decode cc pc = .ok (.invokevirtual 48, 3)) (hM : zz_M l D zz_cl (zz_ty dA) B zz_tb X yy_F_learn (Cond.code yy_F_learn prog_3_method_5_code 4 (some FieldType.long)) rm (.ref b :: As) h n mk post) (hh : h b = some (.inr (5, fs))) (hn : As.length = 1) (hst : st0 = As.reverse ++ .ref b :: rest) (hR : rm.frames + 1 ≤ R.frames ∧ 8 + (4 + 11) + rm.locals ≤ R.locals) (hW : (rest.map fun v => v.category).sum ≤ 8) (hf : cells + rm.cells ≤ R.cells ∧ slots + rm.slots ≤ R.slots) (hsk : ∀ r, (mk r).toList ++ rest = sk r) (kk : ∀ (r : ρ) (h' : zz_H) (n' : Nat), post r h' n' → zz_W D zz_cl B p l e R s m args below meth c Q h' n' (cells + rm.cells) (slots + rm.slots) L (pc + 3) (sk r)) : zz_W D zz_cl B p l e R s m args below meth c Q h n cells slots L pc st0 :=
  z_callV F C wd_542 wd_14 wd_539 wd_540 wd_541 ⟨by decide, by decide, by decide +kernel⟩ rfl rfl d hM hh hn hst hR hW hf hsk kk
theorem iv_M_54 (F : zz_F B zz_tb X) (C : zz_C D zz_cl (zz_ty dA) B zz_tb X p s m args meth c cc RR_M ret nm) {rm : Room} {As st0 : List Value} {sk : ρ → List Value} {b : Nat} {fs : List Value} (d : decode cc pc = .ok (.invokevirtual 54, 3)) (hM : zz_M l D zz_cl (zz_ty dA) B zz_tb X yy_A_negated (Cond.code yy_A_negated prog_2_method_11_code 1 (some FieldType.boolean)) rm (.ref b :: As) h n mk post) (hh : h b = some (.inr (2, fs))) (hn : As.length = 0) (hst : st0 = As.reverse ++ .ref b :: rest) (hR : rm.frames + 1 ≤ R.frames ∧ 8 + (1 + 11) + rm.locals ≤ R.locals) (hW : (rest.map fun v => v.category).sum ≤ 8) (hf : cells + rm.cells ≤ R.cells ∧ slots + rm.slots ≤ R.slots) (hsk : ∀ r, (mk r).toList ++ rest = sk r) (kk : ∀ (r : ρ) (h' : zz_H) (n' : Nat), post r h' n' → zz_W D zz_cl B p l e R s m args below meth c Q h' n' (cells + rm.cells) (slots + rm.slots) L (pc + 3) (sk r)) : zz_W D zz_cl B p l e R s m args below meth c Q h n cells slots L pc st0 :=
  z_callV F C wd_580 wd_18 wd_577 wd_578 wd_579 ⟨by decide, by decide, by decide +kernel⟩ rfl rfl d hM hh hn hst hR hW hf hsk kk
theorem pf_M_11 (C : zz_C D zz_cl (zz_ty dA) B zz_tb X p s m args meth c cc RR_M ret "<init>") {a : Nat} {fs : List Value} {v : Value} (d : decode cc pc = .ok (.putfield 11, 3)) (hh : h a = some (.inr (4, fs))) (hl : 2 < fs.length) (hn : narrow (.array (.object "DispatchDesk$Atom")) v = v) (hf : fits (.array (.object "DispatchDesk$Atom")) v = true) (k9 : zz_W D zz_cl B p l e R s m args below meth c Q (zz_up h a (.inr (4, fs.set 2 v))) n cells slots L (pc + 3) rest) : zz_W D zz_cl B p l e R s m args below meth c Q h n cells slots L pc (v :: .ref a :: rest) := z_putF (ty := .array (.object "DispatchDesk$Atom")) (k := 2) C tt_M rfl in_M tk_M nn_M (by decide) wd_394 rfl rfl rfl rfl (by decide +kernel) d hh hl hn hf k9
theorem pf_M_15 (C : zz_C D zz_cl (zz_ty dA) B zz_tb X p s m args meth c cc RR_M ret nm) {a : Nat} {fs : List Value} {v : Value} (d : decode cc pc = .ok (.putfield 15, 3)) (hh : h a = some (.inr (4, fs))) (hl : 3 < fs.length) (hn : narrow (.int) v = v) (hf : fits (.int) v = true) (k9 : zz_W D zz_cl B p l e R s m args below meth c Q (zz_up h a (.inr (4, fs.set 3 v))) n cells slots L (pc + 3) rest) : zz_W D zz_cl B p l e R s m args below meth c Q h n cells slots L pc (v :: .ref a :: rest) := z_put (ty := .int) (k := 3) C tt_M rfl in_M tk_M nn_M (by decide) wd_395 rfl rfl (by decide +kernel) d hh hl hn hf k9
theorem pf_M_21 (C : zz_C D zz_cl (zz_ty dA) B zz_tb X p s m args meth c cc RR_M ret "<init>") {a : Nat} {fs : List Value} {v : Value} (d : decode cc pc = .ok (.putfield 21, 3)) (hh : h a = some (.inr (4, fs))) (hl : 4 < fs.length) (hn : narrow (.array (.object "DispatchDesk$Operation")) v = v) (hf : fits (.array (.object "DispatchDesk$Operation")) v = true) (k9 : zz_W D zz_cl B p l e R s m args below meth c Q (zz_up h a (.inr (4, fs.set 4 v))) n cells slots L (pc + 3) rest) : zz_W D zz_cl B p l e R s m args below meth c Q h n cells slots L pc (v :: .ref a :: rest) := z_putF (ty := .array (.object "DispatchDesk$Operation")) (k := 4) C tt_M rfl in_M tk_M nn_M (by decide) wd_397 rfl rfl rfl rfl (by decide +kernel) d hh hl hn hf k9
theorem pf_M_25 (C : zz_C D zz_cl (zz_ty dA) B zz_tb X p s m args meth c cc RR_M ret nm) {a : Nat} {fs : List Value} {v : Value} (d : decode cc pc = .ok (.putfield 25, 3)) (hh : h a = some (.inr (4, fs))) (hl : 5 < fs.length) (hn : narrow (.int) v = v) (hf : fits (.int) v = true) (k9 : zz_W D zz_cl B p l e R s m args below meth c Q (zz_up h a (.inr (4, fs.set 5 v))) n cells slots L (pc + 3) rest) : zz_W D zz_cl B p l e R s m args below meth c Q h n cells slots L pc (v :: .ref a :: rest) := z_put (ty := .int) (k := 5) C tt_M rfl in_M tk_M nn_M (by decide) wd_399 rfl rfl (by decide +kernel) d hh hl hn hf k9
theorem pf_M_28 (C : zz_C D zz_cl (zz_ty dA) B zz_tb X p s m args meth c cc RR_M ret nm) {a : Nat} {fs : List Value} {v : Value} (d : decode cc pc = .ok (.putfield 28, 3)) (hh : h a = some (.inr (4, fs))) (hl : 6 < fs.length) (hn : narrow (.long) v = v) (hf : fits (.long) v = true) (k9 : zz_W D zz_cl B p l e R s m args below meth c Q (zz_up h a (.inr (4, fs.set 6 v))) n cells slots L (pc + 3) rest) : zz_W D zz_cl B p l e R s m args below meth c Q h n cells slots L pc (v :: .ref a :: rest) := z_put (ty := .long) (k := 6) C tt_M rfl in_M tk_M nn_M (by decide) wd_402 rfl rfl (by decide +kernel) d hh hl hn hf k9
theorem pf_M_32 (C : zz_C D zz_cl (zz_ty dA) B zz_tb X p s m args meth c cc RR_M ret nm) {a : Nat} {fs : List Value} {v : Value} (d : decode cc pc = .ok (.putfield 32, 3)) (hh : h a = some (.inr (4, fs))) (hl : 7 < fs.length) (hn : narrow (.long) v = v) (hf : fits (.long) v = true) (k9 : zz_W D zz_cl B p l e R s m args below meth c Q (zz_up h a (.inr (4, fs.set 7 v))) n cells slots L (pc + 3) rest) : zz_W D zz_cl B p l e R s m args below meth c Q h n cells slots L pc (v :: .ref a :: rest) := z_put (ty := .long) (k := 7) C tt_M rfl in_M tk_M nn_M (by decide) wd_403 rfl rfl (by decide +kernel) d hh hl hn hf k9
theorem pf_M_35 (C : zz_C D zz_cl (zz_ty dA) B zz_tb X p s m args meth c cc RR_M ret nm) {a : Nat} {fs : List Value} {v : Value} (d : decode cc pc = .ok (.putfield 35, 3)) (hh : h a = some (.inr (4, fs))) (hl : 8 < fs.length) (hn : narrow (.int) v = v) (hf : fits (.int) v = true) (k9 : zz_W D zz_cl B p l e R s m args below meth c Q (zz_up h a (.inr (4, fs.set 8 v))) n cells slots L (pc + 3) rest) : zz_W D zz_cl B p l e R s m args below meth c Q h n cells slots L pc (v :: .ref a :: rest) := z_put (ty := .int) (k := 8) C tt_M rfl in_M tk_M nn_M (by decide) wd_404 rfl rfl (by decide +kernel) d hh hl hn hf k9
theorem pf_M_38 (C : zz_C D zz_cl (zz_ty dA) B zz_tb X p s m args meth c cc RR_M ret nm) {a : Nat} {fs : List Value} {v : Value} (d : decode cc pc = .ok (.putfield 38, 3)) (hh : h a = some (.inr (4, fs))) (hl : 9 < fs.length) (hn : narrow (.int) v = v) (hf : fits (.int) v = true) (k9 : zz_W D zz_cl B p l e R s m args below meth c Q (zz_up h a (.inr (4, fs.set 9 v))) n cells slots L (pc + 3) rest) : zz_W D zz_cl B p l e R s m args below meth c Q h n cells slots L pc (v :: .ref a :: rest) := z_put (ty := .int) (k := 9) C tt_M rfl in_M tk_M nn_M (by decide) wd_406 rfl rfl (by decide +kernel) d hh hl hn hf k9
theorem pf_M_41 (C : zz_C D zz_cl (zz_ty dA) B zz_tb X p s m args meth c cc RR_M ret "<init>") {a : Nat} {fs : List Value} {v : Value} (d : decode cc pc = .ok (.putfield 41, 3)) (hh : h a = some (.inr (4, fs))) (hl : 0 < fs.length) (hn : narrow (.int) v = v) (hf : fits (.int) v = true) (k9 : zz_W D zz_cl B p l e R s m args below meth c Q (zz_up h a (.inr (4, fs.set 0 v))) n cells slots L (pc + 3) rest) : zz_W D zz_cl B p l e R s m args below meth c Q h n cells slots L pc (v :: .ref a :: rest) := z_putF (ty := .int) (k := 0) C tt_M rfl in_M tk_M nn_M (by decide) wd_389 rfl rfl rfl rfl (by decide +kernel) d hh hl hn hf k9
theorem pf_M_44 (C : zz_C D zz_cl (zz_ty dA) B zz_tb X p s m args meth c cc RR_M ret "<init>") {a : Nat} {fs : List Value} {v : Value} (d : decode cc pc = .ok (.putfield 44, 3)) (hh : h a = some (.inr (4, fs))) (hl : 1 < fs.length) (hn : narrow (.object "DispatchDesk$Generic") v = v) (hf : fits (.object "DispatchDesk$Generic") v = true) (k9 : zz_W D zz_cl B p l e R s m args below meth c Q (zz_up h a (.inr (4, fs.set 1 v))) n cells slots L (pc + 3) rest) : zz_W D zz_cl B p l e R s m args below meth c Q h n cells slots L pc (v :: .ref a :: rest) := z_putF (ty := .object "DispatchDesk$Generic") (k := 1) C tt_M rfl in_M tk_M nn_M (by decide) wd_391 rfl rfl rfl rfl (by decide +kernel) d hh hl hn hf k9
theorem an_N_24 (C : zz_C D zz_cl (zz_ty dA) B zz_tb X p s m args meth c cc RR_N ret nm) {N : Nat} {x : Int32} (d : decode cc pc = .ok (.anewarray 24, 3)) (hx : ¬ x < 0) (hN : x.toNatClampNeg = N) (hby : N * 4 ≤ 536870912) (hcl : cells + 1 ≤ R.cells) (hsl : slots + N ≤ R.slots) (k9 : zz_W D zz_cl B p l e R s m args below meth c Q (zz_up h n (.inl (dA 7, N, .inr (.inr (.inr (.inr (fun _ => none))))))) (n + 1) (cells + 1) (slots + N) L (pc + 3) (.ref n :: rest)) : zz_W D zz_cl B p l e R s m args below meth c Q h n cells slots L pc (.int x :: rest) := z_anew (t0 := 7) C wd_66 wd_67 rfl d hx hN hby hcl hsl k9
theorem gf_N_7 (C : zz_C D zz_cl (zz_ty dA) B zz_tb X p s m args meth c cc RR_N ret nm) {a : Nat} {fs : List Value} {v : Value} (d : decode cc pc = .ok (.getfield 7, 3)) (hh : h a = some (.inr (10, fs))) (hv : fs[0]? = some v) (k9 : zz_W D zz_cl B p l e R s m args below meth c Q h n cells slots L (pc + 3) (v :: rest)) : zz_W D zz_cl B p l e R s m args below meth c Q h n cells slots L pc (.ref a :: rest) := z_get (k := 0) C rfl in_N (by decide) wd_92 rfl d hh hv k9
theorem gf_N_13 (C : zz_C D zz_cl (zz_ty dA) B zz_tb X p s m args meth c cc RR_N ret nm) {a : Nat} {fs : List Value} {v : Value} (d : decode cc pc = .ok (.getfield 13, 3)) (hh : h a = some (.inr (10, fs))) (hv : fs[1]? = some v) (k9 : zz_W D zz_cl B p l e R s m args below meth c Q h n cells slots L (pc + 3) (v :: rest)) : zz_W D zz_cl B p l e R s m args below meth c Q h n cells slots L pc (.ref a :: rest) := z_get (k := 1) C rfl in_N (by decide) wd_94 rfl d hh hv k9
theorem gf_N_16 (C : zz_C D zz_cl (zz_ty dA) B zz_tb X p s m args meth c cc RR_N ret nm) {a : Nat} {fs : List Value} {v : Value} (d : decode cc pc = .ok (.getfield 16, 3)) (hh : h a = some (.inr (10, fs))) (hv : fs[2]? = some v) (k9 : zz_W D zz_cl B p l e R s m args below meth c Q h n cells slots L (pc + 3) (v :: rest)) : zz_W D zz_cl B p l e R s m args below meth c Q h n cells slots L pc (.ref a :: rest) := z_get (k := 2) C rfl in_N (by decide) wd_96 rfl d hh hv k9
theorem gf_N_20 (C : zz_C D zz_cl (zz_ty dA) B zz_tb X p s m args meth c cc RR_N ret nm) {a : Nat} {fs : List Value} {v : Value} (d : decode cc pc = .ok (.getfield 20, 3)) (hh : h a = some (.inr (10, fs))) (hv : fs[3]? = some v) (k9 : zz_W D zz_cl B p l e R s m args below meth c Q h n cells slots L (pc + 3) (v :: rest)) : zz_W D zz_cl B p l e R s m args below meth c Q h n cells slots L pc (.ref a :: rest) := z_get (k := 3) C rfl in_N (by decide) wd_97 rfl d hh hv k9
theorem gf_N_26 (C : zz_C D zz_cl (zz_ty dA) B zz_tb X p s m args meth c cc RR_N ret nm) {a : Nat} {fs : List Value} {v : Value} (d : decode cc pc = .ok (.getfield 26, 3)) (hh : h a = some (.inr (10, fs))) (hv : fs[4]? = some v) (k9 : zz_W D zz_cl B p l e R s m args below meth c Q h n cells slots L (pc + 3) (v :: rest)) : zz_W D zz_cl B p l e R s m args below meth c Q h n cells slots L pc (.ref a :: rest) := z_get (k := 4) C rfl in_N (by decide) wd_98 rfl d hh hv k9
theorem gf_N_35 (C : zz_C D zz_cl (zz_ty dA) B zz_tb X p s m args meth c cc RR_N ret nm) {a : Nat} {fs : List Value} {v : Value} (d : decode cc pc = .ok (.getfield 35, 3)) (hh : h a = some (.inr (6, fs))) (hv : fs[1]? = some v) (k9 : zz_W D zz_cl B p l e R s m args below meth c Q h n cells slots L (pc + 3) (v :: rest)) : zz_W D zz_cl B p l e R s m args below meth c Q h n cells slots L pc (.ref a :: rest) := z_get (k := 1) C rfl in_G (by decide) wd_330 rfl d hh hv k9
theorem gf_N_47 (C : zz_C D zz_cl (zz_ty dA) B zz_tb X p s m args meth c cc RR_N ret nm) {a : Nat} {fs : List Value} {v : Value} (d : decode cc pc = .ok (.getfield 47, 3)) (hh : h a = some (.inr (6, fs))) (hv : fs[2]? = some v) (k9 : zz_W D zz_cl B p l e R s m args below meth c Q h n cells slots L (pc + 3) (v :: rest)) : zz_W D zz_cl B p l e R s m args below meth c Q h n cells slots L pc (.ref a :: rest) := z_get (k := 2) C rfl in_G (by decide) wd_335 rfl d hh hv k9
theorem gf_N_69 (C : zz_C D zz_cl (zz_ty dA) B zz_tb X p s m args meth c cc RR_N ret nm) {a : Nat} {fs : List Value} {v : Value} (d : decode cc pc = .ok (.getfield 69, 3)) (hh : h a = some (.inr (9, fs))) (hv : fs[0]? = some v) (k9 : zz_W D zz_cl B p l e R s m args below meth c Q h n cells slots L (pc + 3) (v :: rest)) : zz_W D zz_cl B p l e R s m args below meth c Q h n cells slots L pc (.ref a :: rest) := z_get (k := 0) C rfl in_E (by decide) wd_74 rfl d hh hv k9
theorem gf_N_73 (C : zz_C D zz_cl (zz_ty dA) B zz_tb X p s m args meth c cc RR_N ret nm) {a : Nat} {fs : List Value} {v : Value} (d : decode cc pc = .ok (.getfield 73, 3)) (hh : h a = some (.inr (4, fs))) (hv : fs[1]? = some v) (k9 : zz_W D zz_cl B p l e R s m args below meth c Q h n cells slots L (pc + 3) (v :: rest)) : zz_W D zz_cl B p l e R s m args below meth c Q h n cells slots L pc (.ref a :: rest) := z_get (k := 1) C rfl in_M (by decide) wd_392 rfl d hh hv k9
theorem gf_N_79 (C : zz_C D zz_cl (zz_ty dA) B zz_tb X p s m args meth c cc RR_N ret nm) {a : Nat} {fs : List Value} {v : Value} (d : decode cc pc = .ok (.getfield 79, 3)) (hh : h a = some (.inr (9, fs))) (hv : fs[1]? = some v) (k9 : zz_W D zz_cl B p l e R s m args below meth c Q h n cells slots L (pc + 3) (v :: rest)) : zz_W D zz_cl B p l e R s m args below meth c Q h n cells slots L pc (.ref a :: rest) := z_get (k := 1) C rfl in_E (by decide) wd_76 rfl d hh hv k9
theorem gf_N_82 (C : zz_C D zz_cl (zz_ty dA) B zz_tb X p s m args meth c cc RR_N ret nm) {a : Nat} {fs : List Value} {v : Value} (d : decode cc pc = .ok (.getfield 82, 3)) (hh : h a = some (.inr (9, fs))) (hv : fs[2]? = some v) (k9 : zz_W D zz_cl B p l e R s m args below meth c Q h n cells slots L (pc + 3) (v :: rest)) : zz_W D zz_cl B p l e R s m args below meth c Q h n cells slots L pc (.ref a :: rest) := z_get (k := 2) C rfl in_E (by decide) wd_78 rfl d hh hv k9
theorem gf_N_111 (C : zz_C D zz_cl (zz_ty dA) B zz_tb X p s m args meth c cc RR_N ret nm) {a : Nat} {fs : List Value} {v : Value} (d : decode cc pc = .ok (.getfield 111, 3)) (hh : h a = some (.inr (4, fs))) (hv : fs[5]? = some v) (k9 : zz_W D zz_cl B p l e R s m args below meth c Q h n cells slots L (pc + 3) (v :: rest)) : zz_W D zz_cl B p l e R s m args below meth c Q h n cells slots L pc (.ref a :: rest) := z_get (k := 5) C rfl in_M (by decide) wd_401 rfl d hh hv k9
theorem gf_N_114 (C : zz_C D zz_cl (zz_ty dA) B zz_tb X p s m args meth c cc RR_N ret nm) {a : Nat} {fs : List Value} {v : Value} (d : decode cc pc = .ok (.getfield 114, 3)) (hh : h a = some (.inr (4, fs))) (hv : fs[4]? = some v) (k9 : zz_W D zz_cl B p l e R s m args below meth c Q h n cells slots L (pc + 3) (v :: rest)) : zz_W D zz_cl B p l e R s m args below meth c Q h n cells slots L pc (.ref a :: rest) := z_get (k := 4) C rfl in_M (by decide) wd_398 rfl d hh hv k9
theorem gf_N_172 (C : zz_C D zz_cl (zz_ty dA) B zz_tb X p s m args meth c cc RR_N ret nm) {a : Nat} {fs : List Value} {v : Value} (d : decode cc pc = .ok (.getfield 172, 3)) (hh : h a = some (.inr (6, fs))) (hv : fs[0]? = some v) (k9 : zz_W D zz_cl B p l e R s m args below meth c Q h n cells slots L (pc + 3) (v :: rest)) : zz_W D zz_cl B p l e R s m args below meth c Q h n cells slots L pc (.ref a :: rest) := z_get (k := 0) C rfl in_G (by decide) wd_328 rfl d hh hv k9
theorem oi_N_1 (C : zz_C D zz_cl (zz_ty dA) B zz_tb X p s m args meth c cc RR_N ret nm) {a : Nat} (d : decode cc pc = .ok (.invokespecial 1, 3)) (hfr : 1 ≤ R.frames) (hlo : (rest.map fun v => v.category).sum + 12 ≤ R.locals) (k9 : zz_W D zz_cl B p l e R s m args below meth c Q h n cells slots L (pc + 3) rest) : zz_W D zz_cl B p l e R s m args below meth c Q h n cells slots L pc (.ref a :: rest) := z_objInit C wd_65 wd_29 wd_30 d hfr hlo k9
theorem ii_N_30 (F : zz_F B zz_tb X) (C : zz_C D zz_cl (zz_ty dA) B zz_tb X p s m args meth c cc RR_N ret nm) {rm : Room} {As st0 : List Value} {sk : ρ → List Value} {b : Nat} (d : decode cc pc = .ok (.invokespecial 30, 3)) (hM : zz_M l D zz_cl (zz_ty dA) B zz_tb X yy_E_init (Cond.code yy_E_init prog_4_method_1_code 1 none) rm (.ref b :: As) h n mk post) (hn : As.length = 0) (hst : st0 = As.reverse ++ .ref b :: rest) (hR : rm.frames + 1 ≤ R.frames ∧ 8 + (1 + 11) + rm.locals ≤ R.locals) (hW : (rest.map fun v => v.category).sum ≤ 8) (hf : cells + rm.cells ≤ R.cells ∧ slots + rm.slots ≤ R.slots) (hsk : ∀ r, (mk r).toList ++ rest = sk r) (kk : ∀ (r : ρ) (h' : zz_H) (n' : Nat), post r h' n' → zz_W D zz_cl B p l e R s m args below meth c Q h' n' (cells + rm.cells) (slots + rm.slots) L (pc + 3) (sk r)) : zz_W D zz_cl B p l e R s m args below meth c Q h n cells slots L pc st0 :=
  z_callIN F C wd_71 wd_5 wd_69 wd_70 rfl ⟨by decide, by decide, by decide +kernel⟩ d hM hn hst hR hW hf hsk kk
theorem is_N_133 (F : zz_F B zz_tb X) (C : zz_C D zz_cl (zz_ty dA) B zz_tb X p s m args meth c cc RR_N ret nm) {rm : Room} {As st0 : List Value} {sk : ρ → List Value} (d : decode cc pc = .ok (.invokestatic 133, 3)) (hM : zz_M l D zz_cl (zz_ty dA) B zz_tb X yy_V_of (Cond.code yy_V_of prog_12_method_3_code 2 (some FieldType.int)) rm As h n mk post) (hn : As.length = 2) (hst : st0 = As.reverse ++ rest) (hR : rm.frames + 1 ≤ R.frames ∧ 8 + (2 + 11) + rm.locals ≤ R.locals) (hW : (rest.map fun v => v.category).sum ≤ 8) (hf : cells + rm.cells ≤ R.cells ∧ slots + rm.slots ≤ R.slots) (hsk : ∀ r, (mk r).toList ++ rest = sk r) (kk : ∀ (r : ρ) (h' : zz_H) (n' : Nat), post r h' n' → zz_W D zz_cl B p l e R s m args below meth c Q h' n' (cells + rm.cells) (slots + rm.slots) L (pc + 3) (sk r)) : zz_W D zz_cl B p l e R s m args below meth c Q h n cells slots L pc st0 :=
  z_callS F C wd_855 wd_16 wd_853 wd_854 ⟨by decide, by decide, by decide +kernel⟩ d hM hn hst hR hW hf hsk kk
theorem is_N_142 (F : zz_F B zz_tb X) (C : zz_C D zz_cl (zz_ty dA) B zz_tb X p s m args meth c cc RR_N ret nm) {rm : Room} {As st0 : List Value} {sk : ρ → List Value} (d : decode cc pc = .ok (.invokestatic 142, 3)) (hM : zz_M l D zz_cl (zz_ty dA) B zz_tb X yy_N_combine (Cond.code yy_N_combine prog_9_method_10_code 5 (some FieldType.int)) rm As h n mk post) (hn : As.length = 2) (hst : st0 = As.reverse ++ rest) (hR : rm.frames + 1 ≤ R.frames ∧ 8 + (5 + 11) + rm.locals ≤ R.locals) (hW : (rest.map fun v => v.category).sum ≤ 8) (hf : cells + rm.cells ≤ R.cells ∧ slots + rm.slots ≤ R.slots) (hsk : ∀ r, (mk r).toList ++ rest = sk r) (kk : ∀ (r : ρ) (h' : zz_H) (n' : Nat), post r h' n' → zz_W D zz_cl B p l e R s m args below meth c Q h' n' (cells + rm.cells) (slots + rm.slots) L (pc + 3) (sk r)) : zz_W D zz_cl B p l e R s m args below meth c Q h n cells slots L pc st0 :=
  z_callS F C wd_862 wd_4 wd_860 wd_861 ⟨by decide, by decide, by decide +kernel⟩ d hM hn hst hR hW hf hsk kk
theorem is_N_146 (F : zz_F B zz_tb X) (C : zz_C D zz_cl (zz_ty dA) B zz_tb X p s m args meth c cc RR_N ret nm) {rm : Room} {As st0 : List Value} {sk : ρ → List Value} (d : decode cc pc = .ok (.invokestatic 146, 3)) (hM : zz_M l D zz_cl (zz_ty dA) B zz_tb X yy_N_recast (Cond.code yy_N_recast prog_9_method_11_code 2 (some FieldType.int)) rm As h n mk post) (hn : As.length = 2) (hst : st0 = As.reverse ++ rest) (hR : rm.frames + 1 ≤ R.frames ∧ 8 + (2 + 11) + rm.locals ≤ R.locals) (hW : (rest.map fun v => v.category).sum ≤ 8) (hf : cells + rm.cells ≤ R.cells ∧ slots + rm.slots ≤ R.slots) (hsk : ∀ r, (mk r).toList ++ rest = sk r) (kk : ∀ (r : ρ) (h' : zz_H) (n' : Nat), post r h' n' → zz_W D zz_cl B p l e R s m args below meth c Q h' n' (cells + rm.cells) (slots + rm.slots) L (pc + 3) (sk r)) : zz_W D zz_cl B p l e R s m args below meth c Q h n cells slots L pc st0 :=
  z_callS F C wd_875 wd_4 wd_873 wd_874 ⟨by decide, by decide, by decide +kernel⟩ d hM hn hst hR hW hf hsk kk
theorem is_N_157 (F : zz_F B zz_tb X) (C : zz_C D zz_cl (zz_ty dA) B zz_tb X p s m args meth c cc RR_N ret nm) {rm : Room} {As st0 : List Value} {sk : ρ → List Value} (d : decode cc pc = .ok (.invokestatic 157, 3)) (hM : zz_M l D zz_cl (zz_ty dA) B zz_tb X yy_N_pushUnlessEnded (Cond.code yy_N_pushUnlessEnded prog_9_method_13_code 2 (some FieldType.int)) rm As h n mk post) (hn : As.length = 2) (hst : st0 = As.reverse ++ rest) (hR : rm.frames + 1 ≤ R.frames ∧ 8 + (2 + 11) + rm.locals ≤ R.locals) (hW : (rest.map fun v => v.category).sum ≤ 8) (hf : cells + rm.cells ≤ R.cells ∧ slots + rm.slots ≤ R.slots) (hsk : ∀ r, (mk r).toList ++ rest = sk r) (kk : ∀ (r : ρ) (h' : zz_H) (n' : Nat), post r h' n' → zz_W D zz_cl B p l e R s m args below meth c Q h' n' (cells + rm.cells) (slots + rm.slots) L (pc + 3) (sk r)) : zz_W D zz_cl B p l e R s m args below meth c Q h n cells slots L pc st0 :=
  z_callS F C wd_883 wd_4 wd_881 wd_882 ⟨by decide, by decide, by decide +kernel⟩ d hM hn hst hR hW hf hsk kk
theorem is_N_166 (F : zz_F B zz_tb X) (C : zz_C D zz_cl (zz_ty dA) B zz_tb X p s m args meth c cc RR_N ret nm) {rm : Room} {As st0 : List Value} {sk : ρ → List Value} (d : decode cc pc = .ok (.invokestatic 166, 3)) (hM : zz_M l D zz_cl (zz_ty dA) B zz_tb X yy_V_numberOf (Cond.code yy_V_numberOf prog_12_method_5_code 1 (some FieldType.int)) rm As h n mk post) (hn : As.length = 1) (hst : st0 = As.reverse ++ rest) (hR : rm.frames + 1 ≤ R.frames ∧ 8 + (1 + 11) + rm.locals ≤ R.locals) (hW : (rest.map fun v => v.category).sum ≤ 8) (hf : cells + rm.cells ≤ R.cells ∧ slots + rm.slots ≤ R.slots) (hsk : ∀ r, (mk r).toList ++ rest = sk r) (kk : ∀ (r : ρ) (h' : zz_H) (n' : Nat), post r h' n' → zz_W D zz_cl B p l e R s m args below meth c Q h' n' (cells + rm.cells) (slots + rm.slots) L (pc + 3) (sk r)) : zz_W D zz_cl B p l e R s m args below meth c Q h n cells slots L pc st0 :=
  z_callS F C wd_569 wd_16 wd_871 wd_568 ⟨by decide, by decide, by decide +kernel⟩ d hM hn hst hR hW hf hsk kk
theorem is_N_169 (F : zz_F B zz_tb X) (C : zz_C D zz_cl (zz_ty dA) B zz_tb X p s m args meth c cc RR_N ret nm) {rm : Room} {As st0 : List Value} {sk : ρ → List Value} (d : decode cc pc = .ok (.invokestatic 169, 3)) (hM : zz_M l D zz_cl (zz_ty dA) B zz_tb X yy_V_classOf (Cond.code yy_V_classOf prog_12_method_4_code 1 (some FieldType.int)) rm As h n mk post) (hn : As.length = 1) (hst : st0 = As.reverse ++ rest) (hR : rm.frames + 1 ≤ R.frames ∧ 8 + (1 + 11) + rm.locals ≤ R.locals) (hW : (rest.map fun v => v.category).sum ≤ 8) (hf : cells + rm.cells ≤ R.cells ∧ slots + rm.slots ≤ R.slots) (hsk : ∀ r, (mk r).toList ++ rest = sk r) (kk : ∀ (r : ρ) (h' : zz_H) (n' : Nat), post r h' n' → zz_W D zz_cl B p l e R s m args below meth c Q h' n' (cells + rm.cells) (slots + rm.slots) L (pc + 3) (sk r)) : zz_W D zz_cl B p l e R s m args below meth c Q h n cells slots L pc st0 :=
  z_callS F C wd_572 wd_16 wd_872 wd_571 ⟨by decide, by decide, by decide +kernel⟩ d hM hn hst hR hW hf hsk kk
theorem iv_N_31 (F : zz_F B zz_tb X) (C : zz_C D zz_cl (zz_ty dA) B zz_tb X p s m args meth c cc RR_N ret nm) {rm : Room} {As st0 : List Value} {sk : ρ → List Value} {b : Nat} {fs : List Value} (d : decode cc pc = .ok (.invokevirtual 31, 3)) (hM : zz_M l D zz_cl (zz_ty dA) B zz_tb X yy_N_enter (Cond.code yy_N_enter prog_9_method_5_code 2 (some FieldType.int)) rm (.ref b :: As) h n mk post) (hh : h b = some (.inr (10, fs))) (hn : As.length = 1) (hst : st0 = As.reverse ++ .ref b :: rest) (hR : rm.frames + 1 ≤ R.frames ∧ 8 + (2 + 11) + rm.locals ≤ R.locals) (hW : (rest.map fun v => v.category).sum ≤ 8) (hf : cells + rm.cells ≤ R.cells ∧ slots + rm.slots ≤ R.slots) (hsk : ∀ r, (mk r).toList ++ rest = sk r) (kk : ∀ (r : ρ) (h' : zz_H) (n' : Nat), post r h' n' → zz_W D zz_cl B p l e R s m args below meth c Q h' n' (cells + rm.cells) (slots + rm.slots) L (pc + 3) (sk r)) : zz_W D zz_cl B p l e R s m args below meth c Q h n cells slots L pc st0 :=
  z_callV F C wd_805 wd_4 wd_802 wd_804 (zz_wp (y := yy_N_enter) (k := 5) (by decide +kernel) (by decide +kernel)) ⟨by decide, by decide, by decide +kernel⟩ rfl rfl d hM hh hn hst hR hW hf hsk kk
theorem iv_N_41 (F : zz_F B zz_tb X) (C : zz_C D zz_cl (zz_ty dA) B zz_tb X p s m args meth c cc RR_N ret nm) {rm : Room} {As st0 : List Value} {sk : ρ → List Value} {b : Nat} {fs : List Value} (d : decode cc pc = .ok (.invokevirtual 41, 3)) (hM : zz_M l D zz_cl (zz_ty dA) B zz_tb X yy_F_ofRow (Cond.code yy_F_ofRow prog_3_method_7_code 5 (some FieldType.long)) rm (.ref b :: As) h n mk post) (hh : h b = some (.inr (5, fs))) (hn : As.length = 2) (hst : st0 = As.reverse ++ .ref b :: rest) (hR : rm.frames + 1 ≤ R.frames ∧ 8 + (5 + 11) + rm.locals ≤ R.locals) (hW : (rest.map fun v => v.category).sum ≤ 8) (hf : cells + rm.cells ≤ R.cells ∧ slots + rm.slots ≤ R.slots) (hsk : ∀ r, (mk r).toList ++ rest = sk r) (kk : ∀ (r : ρ) (h' : zz_H) (n' : Nat), post r h' n' → zz_W D zz_cl B p l e R s m args below meth c Q h' n' (cells + rm.cells) (slots + rm.slots) L (pc + 3) (sk r)) : zz_W D zz_cl B p l e R s m args below meth c Q h n cells slots L pc st0 :=
  z_callV F C wd_598 wd_14 wd_810 wd_596 wd_597 ⟨by decide, by decide, by decide +kernel⟩ rfl rfl d hM hh hn hst hR hW hf hsk kk
theorem iv_N_51 (F : zz_F B zz_tb X) (C : zz_C D zz_cl (zz_ty dA) B zz_tb X p s m args meth c cc RR_N ret nm) {rm : Room} {As st0 : List Value} {sk : ρ → List Value} {b : Nat} {fs : List Value} (d : decode cc pc = .ok (.invokevirtual 51, 3)) (hM : zz_M l D zz_cl (zz_ty dA) B zz_tb X yy_R_isEmpty (Cond.code yy_R_isEmpty prog_6_method_3_code 1 (some FieldType.boolean)) rm (.ref b :: As) h n mk post) (hh : h b = some (.inr (7, fs))) (hn : As.length = 0) (hst : st0 = As.reverse ++ .ref b :: rest) (hR : rm.frames + 1 ≤ R.frames ∧ 8 + (1 + 11) + rm.locals ≤ R.locals) (hW : (rest.map fun v => v.category).sum ≤ 8) (hf : cells + rm.cells ≤ R.cells ∧ slots + rm.slots ≤ R.slots) (hsk : ∀ r, (mk r).toList ++ rest = sk r) (kk : ∀ (r : ρ) (h' : zz_H) (n' : Nat), post r h' n' → zz_W D zz_cl B p l e R s m args below meth c Q h' n' (cells + rm.cells) (slots + rm.slots) L (pc + 3) (sk r)) : zz_W D zz_cl B p l e R s m args below meth c Q h n cells slots L pc st0 :=
  z_callV F C wd_759 wd_13 wd_811 wd_757 wd_758 ⟨by decide, by decide, by decide +kernel⟩ rfl rfl d hM hh hn hst hR hW hf hsk kk
theorem iv_N_57 (F : zz_F B zz_tb X) (C : zz_C D zz_cl (zz_ty dA) B zz_tb X p s m args meth c cc RR_N ret nm) {rm : Room} {As st0 : List Value} {sk : ρ → List Value} {b : Nat} {fs : List Value} (d : decode cc pc = .ok (.invokevirtual 57, 3)) (hM : zz_M l D zz_cl (zz_ty dA) B zz_tb X yy_G_choose (Cond.code yy_G_choose prog_5_method_15_code 3 (some FieldType.int)) rm (.ref b :: As) h n mk post) (hh : h b = some (.inr (6, fs))) (hn : As.length = 1) (hst : st0 = As.reverse ++ .ref b :: rest) (hR : rm.frames + 1 ≤ R.frames ∧ 8 + (3 + 11) + rm.locals ≤ R.locals) (hW : (rest.map fun v => v.category).sum ≤ 8) (hf : cells + rm.cells ≤ R.cells ∧ slots + rm.slots ≤ R.slots) (hsk : ∀ r, (mk r).toList ++ rest = sk r) (kk : ∀ (r : ρ) (h' : zz_H) (n' : Nat), post r h' n' → zz_W D zz_cl B p l e R s m args below meth c Q h' n' (cells + rm.cells) (slots + rm.slots) L (pc + 3) (sk r)) : zz_W D zz_cl B p l e R s m args below meth c Q h n cells slots L pc st0 :=
  z_callV F C wd_643 wd_12 wd_812 wd_641 wd_642 ⟨by decide, by decide, by decide +kernel⟩ rfl rfl d hM hh hn hst hR hW hf hsk kk
theorem iv_N_61 (F : zz_F B zz_tb X) (C : zz_C D zz_cl (zz_ty dA) B zz_tb X p s m args meth c cc RR_N ret nm) {rm : Room} {As st0 : List Value} {sk : ρ → List Value} {b : Nat} {fs : List Value} (d : decode cc pc = .ok (.invokevirtual 61, 3)) (hM : zz_M l D zz_cl (zz_ty dA) B zz_tb X yy_N_walk (Cond.code yy_N_walk prog_9_method_7_code 6 (some FieldType.int)) rm (.ref b :: As) h n mk post) (hh : h b = some (.inr (10, fs))) (hn : As.length = 2) (hst : st0 = As.reverse ++ .ref b :: rest) (hR : rm.frames + 1 ≤ R.frames ∧ 8 + (6 + 11) + rm.locals ≤ R.locals) (hW : (rest.map fun v => v.category).sum ≤ 8) (hf : cells + rm.cells ≤ R.cells ∧ slots + rm.slots ≤ R.slots) (hsk : ∀ r, (mk r).toList ++ rest = sk r) (kk : ∀ (r : ρ) (h' : zz_H) (n' : Nat), post r h' n' → zz_W D zz_cl B p l e R s m args below meth c Q h' n' (cells + rm.cells) (slots + rm.slots) L (pc + 3) (sk r)) : zz_W D zz_cl B p l e R s m args below meth c Q h n cells slots L pc st0 :=
  z_callV F C wd_816 wd_4 wd_813 wd_815 (zz_wp (y := yy_N_walk) (k := 5) (by decide +kernel) (by decide +kernel)) ⟨by decide, by decide, by decide +kernel⟩ rfl rfl d hM hh hn hst hR hW hf hsk kk
theorem iv_N_65 (F : zz_F B zz_tb X) (C : zz_C D zz_cl (zz_ty dA) B zz_tb X p s m args meth c cc RR_N ret nm) {rm : Room} {As st0 : List Value} {sk : ρ → List Value} {b : Nat} {fs : List Value} (d : decode cc pc = .ok (.invokevirtual 65, 3)) (hM : zz_M l D zz_cl (zz_ty dA) B zz_tb X yy_N_perform (Cond.code yy_N_perform prog_9_method_8_code 9 (some FieldType.int)) rm (.ref b :: As) h n mk post) (hh : h b = some (.inr (10, fs))) (hn : As.length = 4) (hst : st0 = As.reverse ++ .ref b :: rest) (hR : rm.frames + 1 ≤ R.frames ∧ 8 + (9 + 11) + rm.locals ≤ R.locals) (hW : (rest.map fun v => v.category).sum ≤ 8) (hf : cells + rm.cells ≤ R.cells ∧ slots + rm.slots ≤ R.slots) (hsk : ∀ r, (mk r).toList ++ rest = sk r) (kk : ∀ (r : ρ) (h' : zz_H) (n' : Nat), post r h' n' → zz_W D zz_cl B p l e R s m args below meth c Q h' n' (cells + rm.cells) (slots + rm.slots) L (pc + 3) (sk r)) : zz_W D zz_cl B p l e R s m args below meth c Q h n cells slots L pc st0 :=
  z_callV F C wd_836 wd_4 wd_833 wd_835 (zz_wp (y := yy_N_perform) (k := 5) (by decide +kernel) (by decide +kernel)) ⟨by decide, by decide, by decide +kernel⟩ rfl rfl d hM hh hn hst hR hW hf hsk kk
theorem iv_N_85 (F : zz_F B zz_tb X) (C : zz_C D zz_cl (zz_ty dA) B zz_tb X p s m args meth c cc RR_N ret nm) {rm : Room} {As st0 : List Value} {sk : ρ → List Value} {b : Nat} {fs : List Value} (d : decode cc pc = .ok (.invokevirtual 85, 3)) (hM : zz_M l D zz_cl (zz_ty dA) B zz_tb X yy_G_chooseBehind (Cond.code yy_G_chooseBehind prog_5_method_16_code 4 (some FieldType.int)) rm (.ref b :: As) h n mk post) (hh : h b = some (.inr (6, fs))) (hn : As.length = 2) (hst : st0 = As.reverse ++ .ref b :: rest) (hR : rm.frames + 1 ≤ R.frames ∧ 8 + (4 + 11) + rm.locals ≤ R.locals) (hW : (rest.map fun v => v.category).sum ≤ 8) (hf : cells + rm.cells ≤ R.cells ∧ slots + rm.slots ≤ R.slots) (hsk : ∀ r, (mk r).toList ++ rest = sk r) (kk : ∀ (r : ρ) (h' : zz_H) (n' : Nat), post r h' n' → zz_W D zz_cl B p l e R s m args below meth c Q h' n' (cells + rm.cells) (slots + rm.slots) L (pc + 3) (sk r)) : zz_W D zz_cl B p l e R s m args below meth c Q h n cells slots L pc st0 :=
  z_callV F C wd_891 wd_12 wd_888 wd_889 wd_890 ⟨by decide, by decide, by decide +kernel⟩ rfl rfl d hM hh hn hst hR hW hf hsk kk
theorem iv_N_89 (F : zz_F B zz_tb X) (C : zz_C D zz_cl (zz_ty dA) B zz_tb X p s m args meth c cc RR_N ret nm) {rm : Room} {As st0 : List Value} {sk : ρ → List Value} {b : Nat} {fs : List Value} (d : decode cc pc = .ok (.invokevirtual 89, 3)) (hM : zz_M l D zz_cl (zz_ty dA) B zz_tb X yy_N_spend (Cond.code yy_N_spend prog_9_method_6_code 1 (some FieldType.int)) rm (.ref b :: As) h n mk post) (hh : h b = some (.inr (10, fs))) (hn : As.length = 0) (hst : st0 = As.reverse ++ .ref b :: rest) (hR : rm.frames + 1 ≤ R.frames ∧ 8 + (1 + 11) + rm.locals ≤ R.locals) (hW : (rest.map fun v => v.category).sum ≤ 8) (hf : cells + rm.cells ≤ R.cells ∧ slots + rm.slots ≤ R.slots) (hsk : ∀ r, (mk r).toList ++ rest = sk r) (kk : ∀ (r : ρ) (h' : zz_H) (n' : Nat), post r h' n' → zz_W D zz_cl B p l e R s m args below meth c Q h' n' (cells + rm.cells) (slots + rm.slots) L (pc + 3) (sk r)) : zz_W D zz_cl B p l e R s m args below meth c Q h n cells slots L pc st0 :=
  z_callV F C wd_809 wd_4 wd_806 wd_808 (zz_wp (y := yy_N_spend) (k := 5) (by decide +kernel) (by decide +kernel)) ⟨by decide, by decide, by decide +kernel⟩ rfl rfl d hM hh hn hst hR hW hf hsk kk
theorem iv_N_93 (F : zz_F B zz_tb X) (C : zz_C D zz_cl (zz_ty dA) B zz_tb X p s m args meth c cc RR_N ret nm) {rm : Room} {As st0 : List Value} {sk : ρ → List Value} {b : Nat} {fs : List Value} (d : decode cc pc = .ok (.invokevirtual 93, 3)) (hM : zz_M l D zz_cl (zz_ty dA) B zz_tb X yy_R_root (Cond.code yy_R_root prog_6_method_8_code 1 (some FieldType.int)) rm (.ref b :: As) h n mk post) (hh : h b = some (.inr (7, fs))) (hn : As.length = 0) (hst : st0 = As.reverse ++ .ref b :: rest) (hR : rm.frames + 1 ≤ R.frames ∧ 8 + (1 + 11) + rm.locals ≤ R.locals) (hW : (rest.map fun v => v.category).sum ≤ 8) (hf : cells + rm.cells ≤ R.cells ∧ slots + rm.slots ≤ R.slots) (hsk : ∀ r, (mk r).toList ++ rest = sk r) (kk : ∀ (r : ρ) (h' : zz_H) (n' : Nat), post r h' n' → zz_W D zz_cl B p l e R s m args below meth c Q h' n' (cells + rm.cells) (slots + rm.slots) L (pc + 3) (sk r)) : zz_W D zz_cl B p l e R s m args below meth c Q h n cells slots L pc st0 :=
  z_callV F C wd_820 wd_13 wd_817 wd_818 wd_819 ⟨by decide, by decide, by decide +kernel⟩ rfl rfl d hM hh hn hst hR hW hf hsk kk
theorem iv_N_96 (F : zz_F B zz_tb X) (C : zz_C D zz_cl (zz_ty dA) B zz_tb X p s m args meth c cc RR_N ret nm) {rm : Room} {As st0 : List Value} {sk : ρ → List Value} {b : Nat} {fs : List Value} (d : decode cc pc = .ok (.invokevirtual 96, 3)) (hM : zz_M l D zz_cl (zz_ty dA) B zz_tb X yy_R_isLeaf (Cond.code yy_R_isLeaf prog_6_method_9_code 2 (some FieldType.boolean)) rm (.ref b :: As) h n mk post) (hh : h b = some (.inr (7, fs))) (hn : As.length = 1) (hst : st0 = As.reverse ++ .ref b :: rest) (hR : rm.frames + 1 ≤ R.frames ∧ 8 + (2 + 11) + rm.locals ≤ R.locals) (hW : (rest.map fun v => v.category).sum ≤ 8) (hf : cells + rm.cells ≤ R.cells ∧ slots + rm.slots ≤ R.slots) (hsk : ∀ r, (mk r).toList ++ rest = sk r) (kk : ∀ (r : ρ) (h' : zz_H) (n' : Nat), post r h' n' → zz_W D zz_cl B p l e R s m args below meth c Q h' n' (cells + rm.cells) (slots + rm.slots) L (pc + 3) (sk r)) : zz_W D zz_cl B p l e R s m args below meth c Q h n cells slots L pc st0 :=
  z_callV F C wd_824 wd_13 wd_821 wd_822 wd_823 ⟨by decide, by decide, by decide +kernel⟩ rfl rfl d hM hh hn hst hR hW hf hsk kk
theorem iv_N_100 (F : zz_F B zz_tb X) (C : zz_C D zz_cl (zz_ty dA) B zz_tb X p s m args meth c cc RR_N ret nm) {rm : Room} {As st0 : List Value} {sk : ρ → List Value} {b : Nat} {fs : List Value} (d : decode cc pc = .ok (.invokevirtual 100, 3)) (hM : zz_M l D zz_cl (zz_ty dA) B zz_tb X yy_R_follow (Cond.code yy_R_follow prog_6_method_11_code 4 (some FieldType.int)) rm (.ref b :: As) h n mk post) (hh : h b = some (.inr (7, fs))) (hn : As.length = 2) (hst : st0 = As.reverse ++ .ref b :: rest) (hR : rm.frames + 1 ≤ R.frames ∧ 8 + (4 + 11) + rm.locals ≤ R.locals) (hW : (rest.map fun v => v.category).sum ≤ 8) (hf : cells + rm.cells ≤ R.cells ∧ slots + rm.slots ≤ R.slots) (hsk : ∀ r, (mk r).toList ++ rest = sk r) (kk : ∀ (r : ρ) (h' : zz_H) (n' : Nat), post r h' n' → zz_W D zz_cl B p l e R s m args below meth c Q h' n' (cells + rm.cells) (slots + rm.slots) L (pc + 3) (sk r)) : zz_W D zz_cl B p l e R s m args below meth c Q h n cells slots L pc st0 :=
  z_callV F C wd_828 wd_13 wd_825 wd_826 wd_827 ⟨by decide, by decide, by decide +kernel⟩ rfl rfl d hM hh hn hst hR hW hf hsk kk
theorem iv_N_104 (F : zz_F B zz_tb X) (C : zz_C D zz_cl (zz_ty dA) B zz_tb X p s m args meth c cc RR_N ret nm) {rm : Room} {As st0 : List Value} {sk : ρ → List Value} {b : Nat} {fs : List Value} (d : decode cc pc = .ok (.invokevirtual 104, 3)) (hM : zz_M l D zz_cl (zz_ty dA) B zz_tb X yy_R_methodAt (Cond.code yy_R_methodAt prog_6_method_10_code 2 (some FieldType.int)) rm (.ref b :: As) h n mk post) (hh : h b = some (.inr (7, fs))) (hn : As.length = 1) (hst : st0 = As.reverse ++ .ref b :: rest) (hR : rm.frames + 1 ≤ R.frames ∧ 8 + (2 + 11) + rm.locals ≤ R.locals) (hW : (rest.map fun v => v.category).sum ≤ 8) (hf : cells + rm.cells ≤ R.cells ∧ slots + rm.slots ≤ R.slots) (hsk : ∀ r, (mk r).toList ++ rest = sk r) (kk : ∀ (r : ρ) (h' : zz_H) (n' : Nat), post r h' n' → zz_W D zz_cl B p l e R s m args below meth c Q h' n' (cells + rm.cells) (slots + rm.slots) L (pc + 3) (sk r)) : zz_W D zz_cl B p l e R s m args below meth c Q h n cells slots L pc st0 :=
  z_callV F C wd_832 wd_13 wd_829 wd_830 wd_831 ⟨by decide, by decide, by decide +kernel⟩ rfl rfl d hM hh hn hst hR hW hf hsk kk
theorem iv_N_107 (F : zz_F B zz_tb X) (C : zz_C D zz_cl (zz_ty dA) B zz_tb X p s m args meth c cc RR_N ret nm) {rm : Room} {As st0 : List Value} {sk : ρ → List Value} {b : Nat} {fs : List Value} (d : decode cc pc = .ok (.invokevirtual 107, 3)) (hM : zz_M l D zz_cl (zz_ty dA) B zz_tb X yy_E_open (Cond.code yy_E_open prog_4_method_2_code 4 none) rm (.ref b :: As) h n mk post) (hh : h b = some (.inr (9, fs))) (hn : As.length = 3) (hst : st0 = As.reverse ++ .ref b :: rest) (hR : rm.frames + 1 ≤ R.frames ∧ 8 + (4 + 11) + rm.locals ≤ R.locals) (hW : (rest.map fun v => v.category).sum ≤ 8) (hf : cells + rm.cells ≤ R.cells ∧ slots + rm.slots ≤ R.slots) (hsk : ∀ r, (mk r).toList ++ rest = sk r) (kk : ∀ (r : ρ) (h' : zz_H) (n' : Nat), post r h' n' → zz_W D zz_cl B p l e R s m args below meth c Q h' n' (cells + rm.cells) (slots + rm.slots) L (pc + 3) (sk r)) : zz_W D zz_cl B p l e R s m args below meth c Q h n cells slots L pc st0 :=
  z_callV F C wd_840 wd_5 wd_837 wd_838 wd_839 ⟨by decide, by decide, by decide +kernel⟩ rfl rfl d hM hh hn hst hR hW hf hsk kk
theorem iv_N_118 (F : zz_F B zz_tb X) (C : zz_C D zz_cl (zz_ty dA) B zz_tb X p s m args meth c cc RR_N ret nm) {rm : Room} {As st0 : List Value} {sk : ρ → List Value} {b : Nat} {fs : List Value} (d : decode cc pc = .ok (.invokevirtual 118, 3)) (hM : zz_M l D zz_cl (zz_ty dA) B zz_tb X yy_N_step (Cond.code yy_N_step prog_9_method_9_code 4 (some FieldType.int)) rm (.ref b :: As) h n mk post) (hh : h b = some (.inr (10, fs))) (hn : As.length = 3) (hst : st0 = As.reverse ++ .ref b :: rest) (hR : rm.frames + 1 ≤ R.frames ∧ 8 + (4 + 11) + rm.locals ≤ R.locals) (hW : (rest.map fun v => v.category).sum ≤ 8) (hf : cells + rm.cells ≤ R.cells ∧ slots + rm.slots ≤ R.slots) (hsk : ∀ r, (mk r).toList ++ rest = sk r) (kk : ∀ (r : ρ) (h' : zz_H) (n' : Nat), post r h' n' → zz_W D zz_cl B p l e R s m args below meth c Q h' n' (cells + rm.cells) (slots + rm.slots) L (pc + 3) (sk r)) : zz_W D zz_cl B p l e R s m args below meth c Q h n cells slots L pc st0 :=
  z_callV F C wd_844 wd_4 wd_841 wd_843 (zz_wp (y := yy_N_step) (k := 5) (by decide +kernel) (by decide +kernel)) ⟨by decide, by decide, by decide +kernel⟩ rfl rfl d hM hh hn hst hR hW hf hsk kk
theorem iv_N_122 (F : zz_F B zz_tb X) (C : zz_C D zz_cl (zz_ty dA) B zz_tb X p s m args meth c cc RR_N ret nm) {rm : Room} {As st0 : List Value} {sk : ρ → List Value} {b : Nat} {fs : List Value} (d : decode cc pc = .ok (.invokevirtual 122, 3)) (hM : zz_M l D zz_cl (zz_ty dA) B zz_tb X yy_E_result (Cond.code yy_E_result prog_4_method_6_code 1 (some FieldType.int)) rm (.ref b :: As) h n mk post) (hh : h b = some (.inr (9, fs))) (hn : As.length = 0) (hst : st0 = As.reverse ++ .ref b :: rest) (hR : rm.frames + 1 ≤ R.frames ∧ 8 + (1 + 11) + rm.locals ≤ R.locals) (hW : (rest.map fun v => v.category).sum ≤ 8) (hf : cells + rm.cells ≤ R.cells ∧ slots + rm.slots ≤ R.slots) (hsk : ∀ r, (mk r).toList ++ rest = sk r) (kk : ∀ (r : ρ) (h' : zz_H) (n' : Nat), post r h' n' → zz_W D zz_cl B p l e R s m args below meth c Q h' n' (cells + rm.cells) (slots + rm.slots) L (pc + 3) (sk r)) : zz_W D zz_cl B p l e R s m args below meth c Q h n cells slots L pc st0 :=
  z_callV F C wd_895 wd_5 wd_892 wd_893 wd_894 ⟨by decide, by decide, by decide +kernel⟩ rfl rfl d hM hh hn hst hR hW hf hsk kk
theorem iv_N_125 (F : zz_F B zz_tb X) (C : zz_C D zz_cl (zz_ty dA) B zz_tb X p s m args meth c cc RR_N ret nm) {rm : Room} {As st0 : List Value} {sk : ρ → List Value} {b : Nat} {fs : List Value} (d : decode cc pc = .ok (.invokevirtual 125, 3)) (hM : zz_M l D zz_cl (zz_ty dA) B zz_tb X yy_O_kind (Cond.code yy_O_kind prog_11_method_5_code 1 (some FieldType.int)) rm (.ref b :: As) h n mk post) (hh : h b = some (.inr (3, fs))) (hn : As.length = 0) (hst : st0 = As.reverse ++ .ref b :: rest) (hR : rm.frames + 1 ≤ R.frames ∧ 8 + (1 + 11) + rm.locals ≤ R.locals) (hW : (rest.map fun v => v.category).sum ≤ 8) (hf : cells + rm.cells ≤ R.cells ∧ slots + rm.slots ≤ R.slots) (hsk : ∀ r, (mk r).toList ++ rest = sk r) (kk : ∀ (r : ρ) (h' : zz_H) (n' : Nat), post r h' n' → zz_W D zz_cl B p l e R s m args below meth c Q h' n' (cells + rm.cells) (slots + rm.slots) L (pc + 3) (sk r)) : zz_W D zz_cl B p l e R s m args below meth c Q h n cells slots L pc st0 :=
  z_callV F C wd_848 wd_19 wd_845 wd_846 wd_847 ⟨by decide, by decide, by decide +kernel⟩ rfl rfl d hM hh hn hst hR hW hf hsk kk
theorem iv_N_130 (F : zz_F B zz_tb X) (C : zz_C D zz_cl (zz_ty dA) B zz_tb X p s m args meth c cc RR_N ret nm) {rm : Room} {As st0 : List Value} {sk : ρ → List Value} {b : Nat} {fs : List Value} (d : decode cc pc = .ok (.invokevirtual 130, 3)) (hM : zz_M l D zz_cl (zz_ty dA) B zz_tb X yy_O_n (Cond.code yy_O_n prog_11_method_6_code 1 (some FieldType.int)) rm (.ref b :: As) h n mk post) (hh : h b = some (.inr (3, fs))) (hn : As.length = 0) (hst : st0 = As.reverse ++ .ref b :: rest) (hR : rm.frames + 1 ≤ R.frames ∧ 8 + (1 + 11) + rm.locals ≤ R.locals) (hW : (rest.map fun v => v.category).sum ≤ 8) (hf : cells + rm.cells ≤ R.cells ∧ slots + rm.slots ≤ R.slots) (hsk : ∀ r, (mk r).toList ++ rest = sk r) (kk : ∀ (r : ρ) (h' : zz_H) (n' : Nat), post r h' n' → zz_W D zz_cl B p l e R s m args below meth c Q h' n' (cells + rm.cells) (slots + rm.slots) L (pc + 3) (sk r)) : zz_W D zz_cl B p l e R s m args below meth c Q h n cells slots L pc st0 :=
  z_callV F C wd_852 wd_19 wd_849 wd_850 wd_851 ⟨by decide, by decide, by decide +kernel⟩ rfl rfl d hM hh hn hst hR hW hf hsk kk
theorem iv_N_139 (F : zz_F B zz_tb X) (C : zz_C D zz_cl (zz_ty dA) B zz_tb X p s m args meth c cc RR_N ret nm) {rm : Room} {As st0 : List Value} {sk : ρ → List Value} {b : Nat} {fs : List Value} (d : decode cc pc = .ok (.invokevirtual 139, 3)) (hM : zz_M l D zz_cl (zz_ty dA) B zz_tb X yy_E_push (Cond.code yy_E_push prog_4_method_4_code 2 (some FieldType.int)) rm (.ref b :: As) h n mk post) (hh : h b = some (.inr (9, fs))) (hn : As.length = 1) (hst : st0 = As.reverse ++ .ref b :: rest) (hR : rm.frames + 1 ≤ R.frames ∧ 8 + (2 + 11) + rm.locals ≤ R.locals) (hW : (rest.map fun v => v.category).sum ≤ 8) (hf : cells + rm.cells ≤ R.cells ∧ slots + rm.slots ≤ R.slots) (hsk : ∀ r, (mk r).toList ++ rest = sk r) (kk : ∀ (r : ρ) (h' : zz_H) (n' : Nat), post r h' n' → zz_W D zz_cl B p l e R s m args below meth c Q h' n' (cells + rm.cells) (slots + rm.slots) L (pc + 3) (sk r)) : zz_W D zz_cl B p l e R s m args below meth c Q h n cells slots L pc st0 :=
  z_callV F C wd_859 wd_5 wd_856 wd_857 wd_858 ⟨by decide, by decide, by decide +kernel⟩ rfl rfl d hM hh hn hst hR hW hf hsk kk
theorem iv_N_150 (F : zz_F B zz_tb X) (C : zz_C D zz_cl (zz_ty dA) B zz_tb X p s m args meth c cc RR_N ret nm) {rm : Room} {As st0 : List Value} {sk : ρ → List Value} {b : Nat} {fs : List Value} (d : decode cc pc = .ok (.invokevirtual 150, 3)) (hM : zz_M l D zz_cl (zz_ty dA) B zz_tb X yy_N_callOnTop (Cond.code yy_N_callOnTop prog_9_method_12_code 6 (some FieldType.int)) rm (.ref b :: As) h n mk post) (hh : h b = some (.inr (10, fs))) (hn : As.length = 3) (hst : st0 = As.reverse ++ .ref b :: rest) (hR : rm.frames + 1 ≤ R.frames ∧ 8 + (6 + 11) + rm.locals ≤ R.locals) (hW : (rest.map fun v => v.category).sum ≤ 8) (hf : cells + rm.cells ≤ R.cells ∧ slots + rm.slots ≤ R.slots) (hsk : ∀ r, (mk r).toList ++ rest = sk r) (kk : ∀ (r : ρ) (h' : zz_H) (n' : Nat), post r h' n' → zz_W D zz_cl B p l e R s m args below meth c Q h' n' (cells + rm.cells) (slots + rm.slots) L (pc + 3) (sk r)) : zz_W D zz_cl B p l e R s m args below meth c Q h n cells slots L pc st0 :=
  z_callV F C wd_879 wd_4 wd_876 wd_878 (zz_wp (y := yy_N_callOnTop) (k := 5) (by decide +kernel) (by decide +kernel)) ⟨by decide, by decide, by decide +kernel⟩ rfl rfl d hM hh hn hst hR hW hf hsk kk
theorem iv_N_154 (F : zz_F B zz_tb X) (C : zz_C D zz_cl (zz_ty dA) B zz_tb X p s m args meth c cc RR_N ret nm) {rm : Room} {As st0 : List Value} {sk : ρ → List Value} {b : Nat} {fs : List Value} (d : decode cc pc = .ok (.invokevirtual 154, 3)) (hM : zz_M l D zz_cl (zz_ty dA) B zz_tb X yy_N_callNext (Cond.code yy_N_callNext prog_9_method_4_code 8 (some FieldType.int)) rm (.ref b :: As) h n mk post) (hh : h b = some (.inr (10, fs))) (hn : As.length = 2) (hst : st0 = As.reverse ++ .ref b :: rest) (hR : rm.frames + 1 ≤ R.frames ∧ 8 + (8 + 11) + rm.locals ≤ R.locals) (hW : (rest.map fun v => v.category).sum ≤ 8) (hf : cells + rm.cells ≤ R.cells ∧ slots + rm.slots ≤ R.slots) (hsk : ∀ r, (mk r).toList ++ rest = sk r) (kk : ∀ (r : ρ) (h' : zz_H) (n' : Nat), post r h' n' → zz_W D zz_cl B p l e R s m args below meth c Q h' n' (cells + rm.cells) (slots + rm.slots) L (pc + 3) (sk r)) : zz_W D zz_cl B p l e R s m args below meth c Q h n cells slots L pc st0 :=
  z_callV F C wd_887 wd_4 wd_884 wd_886 (zz_wp (y := yy_N_callNext) (k := 5) (by decide +kernel) (by decide +kernel)) ⟨by decide, by decide, by decide +kernel⟩ rfl rfl d hM hh hn hst hR hW hf hsk kk
theorem iv_N_160 (F : zz_F B zz_tb X) (C : zz_C D zz_cl (zz_ty dA) B zz_tb X p s m args meth c cc RR_N ret nm) {rm : Room} {As st0 : List Value} {sk : ρ → List Value} {b : Nat} {fs : List Value} (d : decode cc pc = .ok (.invokevirtual 160, 3)) (hM : zz_M l D zz_cl (zz_ty dA) B zz_tb X yy_E_has (Cond.code yy_E_has prog_4_method_3_code 2 (some FieldType.boolean)) rm (.ref b :: As) h n mk post) (hh : h b = some (.inr (9, fs))) (hn : As.length = 1) (hst : st0 = As.reverse ++ .ref b :: rest) (hR : rm.frames + 1 ≤ R.frames ∧ 8 + (2 + 11) + rm.locals ≤ R.locals) (hW : (rest.map fun v => v.category).sum ≤ 8) (hf : cells + rm.cells ≤ R.cells ∧ slots + rm.slots ≤ R.slots) (hsk : ∀ r, (mk r).toList ++ rest = sk r) (kk : ∀ (r : ρ) (h' : zz_H) (n' : Nat), post r h' n' → zz_W D zz_cl B p l e R s m args below meth c Q h' n' (cells + rm.cells) (slots + rm.slots) L (pc + 3) (sk r)) : zz_W D zz_cl B p l e R s m args below meth c Q h n cells slots L pc st0 :=
  z_callV F C wd_866 wd_5 wd_863 wd_864 wd_865 ⟨by decide, by decide, by decide +kernel⟩ rfl rfl d hM hh hn hst hR hW hf hsk kk
theorem iv_N_163 (F : zz_F B zz_tb X) (C : zz_C D zz_cl (zz_ty dA) B zz_tb X p s m args meth c cc RR_N ret nm) {rm : Room} {As st0 : List Value} {sk : ρ → List Value} {b : Nat} {fs : List Value} (d : decode cc pc = .ok (.invokevirtual 163, 3)) (hM : zz_M l D zz_cl (zz_ty dA) B zz_tb X yy_E_pop (Cond.code yy_E_pop prog_4_method_5_code 1 (some FieldType.int)) rm (.ref b :: As) h n mk post) (hh : h b = some (.inr (9, fs))) (hn : As.length = 0) (hst : st0 = As.reverse ++ .ref b :: rest) (hR : rm.frames + 1 ≤ R.frames ∧ 8 + (1 + 11) + rm.locals ≤ R.locals) (hW : (rest.map fun v => v.category).sum ≤ 8) (hf : cells + rm.cells ≤ R.cells ∧ slots + rm.slots ≤ R.slots) (hsk : ∀ r, (mk r).toList ++ rest = sk r) (kk : ∀ (r : ρ) (h' : zz_H) (n' : Nat), post r h' n' → zz_W D zz_cl B p l e R s m args below meth c Q h' n' (cells + rm.cells) (slots + rm.slots) L (pc + 3) (sk r)) : zz_W D zz_cl B p l e R s m args below meth c Q h n cells slots L pc st0 :=
  z_callV F C wd_870 wd_5 wd_867 wd_868 wd_869 ⟨by decide, by decide, by decide +kernel⟩ rfl rfl d hM hh hn hst hR hW hf hsk kk
theorem iv_N_175 (F : zz_F B zz_tb X) (C : zz_C D zz_cl (zz_ty dA) B zz_tb X p s m args meth c cc RR_N ret nm) {rm : Room} {As st0 : List Value} {sk : ρ → List Value} {b : Nat} {fs : List Value} (d : decode cc pc = .ok (.invokevirtual 175, 3)) (hM : zz_M l D zz_cl (zz_ty dA) B zz_tb X yy_N_call (Cond.code yy_N_call prog_9_method_3_code 9 (some FieldType.int)) rm (.ref b :: As) h n mk post) (hh : h b = some (.inr (10, fs))) (hn : As.length = 4) (hst : st0 = As.reverse ++ .ref b :: rest) (hR : rm.frames + 1 ≤ R.frames ∧ 8 + (9 + 11) + rm.locals ≤ R.locals) (hW : (rest.map fun v => v.category).sum ≤ 8) (hf : cells + rm.cells ≤ R.cells ∧ slots + rm.slots ≤ R.slots) (hsk : ∀ r, (mk r).toList ++ rest = sk r) (kk : ∀ (r : ρ) (h' : zz_H) (n' : Nat), post r h' n' → zz_W D zz_cl B p l e R s m args below meth c Q h' n' (cells + rm.cells) (slots + rm.slots) L (pc + 3) (sk r)) : zz_W D zz_cl B p l e R s m args below meth c Q h n cells slots L pc st0 :=
  z_callV F C wd_801 wd_4 wd_880 wd_799 wd_800 ⟨by decide, by decide, by decide +kernel⟩ rfl rfl d hM hh hn hst hR hW hf hsk kk
theorem nw_N_24 (C : zz_C D zz_cl (zz_ty dA) B zz_tb X p s m args meth c cc RR_N ret nm) (d : decode cc pc = .ok (.new 24, 3)) (hcl : cells + 1 ≤ R.cells) (hsl : slots + 5 ≤ R.slots) (k9 : zz_W D zz_cl B p l e R s m args below meth c Q (zz_up h n (.inr (9, [.null, .int 0, .int 0, .null, .int 0]))) (n + 1) (cells + 1) (slots + 5) L (pc + 3) (.ref n :: rest)) : zz_W D zz_cl B p l e R s m args below meth c Q h n cells slots L pc rest := z_new C tt_E (ci := 9) rfl in_E tk_E wd_66 wd_68 wd_5 (by decide +kernel) d hcl hsl k9
theorem pf_N_7 (C : zz_C D zz_cl (zz_ty dA) B zz_tb X p s m args meth c cc RR_N ret nm) {a : Nat} {fs : List Value} {v : Value} (d : decode cc pc = .ok (.putfield 7, 3)) (hh : h a = some (.inr (10, fs))) (hl : 0 < fs.length) (hn : narrow (.int) v = v) (hf : fits (.int) v = true) (k9 : zz_W D zz_cl B p l e R s m args below meth c Q (zz_up h a (.inr (10, fs.set 0 v))) n cells slots L (pc + 3) rest) : zz_W D zz_cl B p l e R s m args below meth c Q h n cells slots L pc (v :: .ref a :: rest) := z_put (ty := .int) (k := 0) C tt_N rfl in_N tk_N nn_N (by decide) wd_92 rfl rfl (by decide +kernel) d hh hl hn hf k9
theorem pf_N_13 (C : zz_C D zz_cl (zz_ty dA) B zz_tb X p s m args meth c cc RR_N ret nm) {a : Nat} {fs : List Value} {v : Value} (d : decode cc pc = .ok (.putfield 13, 3)) (hh : h a = some (.inr (10, fs))) (hl : 1 < fs.length) (hn : narrow (.int) v = v) (hf : fits (.int) v = true) (k9 : zz_W D zz_cl B p l e R s m args below meth c Q (zz_up h a (.inr (10, fs.set 1 v))) n cells slots L (pc + 3) rest) : zz_W D zz_cl B p l e R s m args below meth c Q h n cells slots L pc (v :: .ref a :: rest) := z_put (ty := .int) (k := 1) C tt_N rfl in_N tk_N nn_N (by decide) wd_94 rfl rfl (by decide +kernel) d hh hl hn hf k9
theorem pf_N_16 (C : zz_C D zz_cl (zz_ty dA) B zz_tb X p s m args meth c cc RR_N ret nm) {a : Nat} {fs : List Value} {v : Value} (d : decode cc pc = .ok (.putfield 16, 3)) (hh : h a = some (.inr (10, fs))) (hl : 2 < fs.length) (hn : narrow (.array (.object "DispatchDesk$Generic")) v = v) (hf : fits (.array (.object "DispatchDesk$Generic")) v = true) (k9 : zz_W D zz_cl B p l e R s m args below meth c Q (zz_up h a (.inr (10, fs.set 2 v))) n cells slots L (pc + 3) rest) : zz_W D zz_cl B p l e R s m args below meth c Q h n cells slots L pc (v :: .ref a :: rest) := z_put (ty := .array (.object "DispatchDesk$Generic")) (k := 2) C tt_N rfl in_N tk_N nn_N (by decide) wd_96 rfl rfl (by decide +kernel) d hh hl hn hf k9
theorem pf_N_20 (C : zz_C D zz_cl (zz_ty dA) B zz_tb X p s m args meth c cc RR_N ret nm) {a : Nat} {fs : List Value} {v : Value} (d : decode cc pc = .ok (.putfield 20, 3)) (hh : h a = some (.inr (10, fs))) (hl : 3 < fs.length) (hn : narrow (.array (.object "DispatchDesk$Method")) v = v) (hf : fits (.array (.object "DispatchDesk$Method")) v = true) (k9 : zz_W D zz_cl B p l e R s m args below meth c Q (zz_up h a (.inr (10, fs.set 3 v))) n cells slots L (pc + 3) rest) : zz_W D zz_cl B p l e R s m args below meth c Q h n cells slots L pc (v :: .ref a :: rest) := z_put (ty := .array (.object "DispatchDesk$Method")) (k := 3) C tt_N rfl in_N tk_N nn_N (by decide) wd_97 rfl rfl (by decide +kernel) d hh hl hn hf k9
theorem pf_N_26 (C : zz_C D zz_cl (zz_ty dA) B zz_tb X p s m args meth c cc RR_N ret "<init>") {a : Nat} {fs : List Value} {v : Value} (d : decode cc pc = .ok (.putfield 26, 3)) (hh : h a = some (.inr (10, fs))) (hl : 4 < fs.length) (hn : narrow (.array (.object "DispatchDesk$Frame")) v = v) (hf : fits (.array (.object "DispatchDesk$Frame")) v = true) (k9 : zz_W D zz_cl B p l e R s m args below meth c Q (zz_up h a (.inr (10, fs.set 4 v))) n cells slots L (pc + 3) rest) : zz_W D zz_cl B p l e R s m args below meth c Q h n cells slots L pc (v :: .ref a :: rest) := z_putF (ty := .array (.object "DispatchDesk$Frame")) (k := 4) C tt_N rfl in_N tk_N nn_N (by decide) wd_98 rfl rfl rfl rfl (by decide +kernel) d hh hl hn hf k9
theorem gf_O_7 (C : zz_C D zz_cl (zz_ty dA) B zz_tb X p s m args meth c cc RR_O ret nm) {a : Nat} {fs : List Value} {v : Value} (d : decode cc pc = .ok (.getfield 7, 3)) (hh : h a = some (.inr (3, fs))) (hv : fs[0]? = some v) (k9 : zz_W D zz_cl B p l e R s m args below meth c Q h n cells slots L (pc + 3) (v :: rest)) : zz_W D zz_cl B p l e R s m args below meth c Q h n cells slots L pc (.ref a :: rest) := z_get (k := 0) C rfl in_O (by decide) wd_508 rfl d hh hv k9
theorem gf_O_13 (C : zz_C D zz_cl (zz_ty dA) B zz_tb X p s m args meth c cc RR_O ret nm) {a : Nat} {fs : List Value} {v : Value} (d : decode cc pc = .ok (.getfield 13, 3)) (hh : h a = some (.inr (3, fs))) (hv : fs[1]? = some v) (k9 : zz_W D zz_cl B p l e R s m args below meth c Q h n cells slots L (pc + 3) (v :: rest)) : zz_W D zz_cl B p l e R s m args below meth c Q h n cells slots L pc (.ref a :: rest) := z_get (k := 1) C rfl in_O (by decide) wd_509 rfl d hh hv k9
theorem pf_O_7 (C : zz_C D zz_cl (zz_ty dA) B zz_tb X p s m args meth c cc RR_O ret "<init>") {a : Nat} {fs : List Value} {v : Value} (d : decode cc pc = .ok (.putfield 7, 3)) (hh : h a = some (.inr (3, fs))) (hl : 0 < fs.length) (hn : narrow (.int) v = v) (hf : fits (.int) v = true) (k9 : zz_W D zz_cl B p l e R s m args below meth c Q (zz_up h a (.inr (3, fs.set 0 v))) n cells slots L (pc + 3) rest) : zz_W D zz_cl B p l e R s m args below meth c Q h n cells slots L pc (v :: .ref a :: rest) := z_putF (ty := .int) (k := 0) C tt_O rfl in_O tk_O nn_O (by decide) wd_508 rfl rfl rfl rfl (by decide +kernel) d hh hl hn hf k9
theorem pf_O_13 (C : zz_C D zz_cl (zz_ty dA) B zz_tb X p s m args meth c cc RR_O ret "<init>") {a : Nat} {fs : List Value} {v : Value} (d : decode cc pc = .ok (.putfield 13, 3)) (hh : h a = some (.inr (3, fs))) (hl : 1 < fs.length) (hn : narrow (.int) v = v) (hf : fits (.int) v = true) (k9 : zz_W D zz_cl B p l e R s m args below meth c Q (zz_up h a (.inr (3, fs.set 1 v))) n cells slots L (pc + 3) rest) : zz_W D zz_cl B p l e R s m args below meth c Q h n cells slots L pc (v :: .ref a :: rest) := z_putF (ty := .int) (k := 1) C tt_O rfl in_O tk_O nn_O (by decide) wd_509 rfl rfl rfl rfl (by decide +kernel) d hh hl hn hf k9
theorem gf_Q_7 (C : zz_C D zz_cl (zz_ty dA) B zz_tb X p s m args meth c cc RR_Q ret nm) {a : Nat} {fs : List Value} {v : Value} (d : decode cc pc = .ok (.getfield 7, 3)) (hh : h a = some (.inr (11, fs))) (hv : fs[1]? = some v) (k9 : zz_W D zz_cl B p l e R s m args below meth c Q h n cells slots L (pc + 3) (v :: rest)) : zz_W D zz_cl B p l e R s m args below meth c Q h n cells slots L pc (.ref a :: rest) := z_get (k := 1) C rfl in_Q (by decide) wd_903 rfl d hh hv k9
theorem gf_Q_13 (C : zz_C D zz_cl (zz_ty dA) B zz_tb X p s m args meth c cc RR_Q ret nm) {a : Nat} {fs : List Value} {v : Value} (d : decode cc pc = .ok (.getfield 13, 3)) (hh : h a = some (.inr (11, fs))) (hv : fs[2]? = some v) (k9 : zz_W D zz_cl B p l e R s m args below meth c Q h n cells slots L (pc + 3) (v :: rest)) : zz_W D zz_cl B p l e R s m args below meth c Q h n cells slots L pc (.ref a :: rest) := z_get (k := 2) C rfl in_Q (by decide) wd_904 rfl d hh hv k9
theorem gf_Q_17 (C : zz_C D zz_cl (zz_ty dA) B zz_tb X p s m args meth c cc RR_Q ret nm) {a : Nat} {fs : List Value} {v : Value} (d : decode cc pc = .ok (.getfield 17, 3)) (hh : h a = some (.inr (11, fs))) (hv : fs[4]? = some v) (k9 : zz_W D zz_cl B p l e R s m args below meth c Q h n cells slots L (pc + 3) (v :: rest)) : zz_W D zz_cl B p l e R s m args below meth c Q h n cells slots L pc (.ref a :: rest) := z_get (k := 4) C rfl in_Q (by decide) wd_906 rfl d hh hv k9
theorem gf_Q_20 (C : zz_C D zz_cl (zz_ty dA) B zz_tb X p s m args meth c cc RR_Q ret nm) {a : Nat} {fs : List Value} {v : Value} (d : decode cc pc = .ok (.getfield 20, 3)) (hh : h a = some (.inr (11, fs))) (hv : fs[6]? = some v) (k9 : zz_W D zz_cl B p l e R s m args below meth c Q h n cells slots L (pc + 3) (v :: rest)) : zz_W D zz_cl B p l e R s m args below meth c Q h n cells slots L pc (.ref a :: rest) := z_get (k := 6) C rfl in_Q (by decide) wd_908 rfl d hh hv k9
theorem gf_Q_23 (C : zz_C D zz_cl (zz_ty dA) B zz_tb X p s m args meth c cc RR_Q ret nm) {a : Nat} {fs : List Value} {v : Value} (d : decode cc pc = .ok (.getfield 23, 3)) (hh : h a = some (.inr (11, fs))) (hv : fs[7]? = some v) (k9 : zz_W D zz_cl B p l e R s m args below meth c Q h n cells slots L (pc + 3) (v :: rest)) : zz_W D zz_cl B p l e R s m args below meth c Q h n cells slots L pc (.ref a :: rest) := z_get (k := 7) C rfl in_Q (by decide) wd_909 rfl d hh hv k9
theorem gf_Q_26 (C : zz_C D zz_cl (zz_ty dA) B zz_tb X p s m args meth c cc RR_Q ret nm) {a : Nat} {fs : List Value} {v : Value} (d : decode cc pc = .ok (.getfield 26, 3)) (hh : h a = some (.inr (11, fs))) (hv : fs[8]? = some v) (k9 : zz_W D zz_cl B p l e R s m args below meth c Q h n cells slots L (pc + 3) (v :: rest)) : zz_W D zz_cl B p l e R s m args below meth c Q h n cells slots L pc (.ref a :: rest) := z_get (k := 8) C rfl in_Q (by decide) wd_910 rfl d hh hv k9
theorem gf_Q_29 (C : zz_C D zz_cl (zz_ty dA) B zz_tb X p s m args meth c cc RR_Q ret nm) {a : Nat} {fs : List Value} {v : Value} (d : decode cc pc = .ok (.getfield 29, 3)) (hh : h a = some (.inr (11, fs))) (hv : fs[9]? = some v) (k9 : zz_W D zz_cl B p l e R s m args below meth c Q h n cells slots L (pc + 3) (v :: rest)) : zz_W D zz_cl B p l e R s m args below meth c Q h n cells slots L pc (.ref a :: rest) := z_get (k := 9) C rfl in_Q (by decide) wd_911 rfl d hh hv k9
theorem gf_Q_32 (C : zz_C D zz_cl (zz_ty dA) B zz_tb X p s m args meth c cc RR_Q ret nm) {a : Nat} {fs : List Value} {v : Value} (d : decode cc pc = .ok (.getfield 32, 3)) (hh : h a = some (.inr (11, fs))) (hv : fs[10]? = some v) (k9 : zz_W D zz_cl B p l e R s m args below meth c Q h n cells slots L (pc + 3) (v :: rest)) : zz_W D zz_cl B p l e R s m args below meth c Q h n cells slots L pc (.ref a :: rest) := z_get (k := 10) C rfl in_Q (by decide) wd_912 rfl d hh hv k9
theorem gf_Q_35 (C : zz_C D zz_cl (zz_ty dA) B zz_tb X p s m args meth c cc RR_Q ret nm) {a : Nat} {fs : List Value} {v : Value} (d : decode cc pc = .ok (.getfield 35, 3)) (hh : h a = some (.inr (11, fs))) (hv : fs[11]? = some v) (k9 : zz_W D zz_cl B p l e R s m args below meth c Q h n cells slots L (pc + 3) (v :: rest)) : zz_W D zz_cl B p l e R s m args below meth c Q h n cells slots L pc (.ref a :: rest) := z_get (k := 11) C rfl in_Q (by decide) wd_913 rfl d hh hv k9
theorem gf_Q_39 (C : zz_C D zz_cl (zz_ty dA) B zz_tb X p s m args meth c cc RR_Q ret nm) {a : Nat} {fs : List Value} {v : Value} (d : decode cc pc = .ok (.getfield 39, 3)) (hh : h a = some (.inr (11, fs))) (hv : fs[12]? = some v) (k9 : zz_W D zz_cl B p l e R s m args below meth c Q h n cells slots L (pc + 3) (v :: rest)) : zz_W D zz_cl B p l e R s m args below meth c Q h n cells slots L pc (.ref a :: rest) := z_get (k := 12) C rfl in_Q (by decide) wd_914 rfl d hh hv k9
theorem gf_Q_42 (C : zz_C D zz_cl (zz_ty dA) B zz_tb X p s m args meth c cc RR_Q ret nm) {a : Nat} {fs : List Value} {v : Value} (d : decode cc pc = .ok (.getfield 42, 3)) (hh : h a = some (.inr (11, fs))) (hv : fs[13]? = some v) (k9 : zz_W D zz_cl B p l e R s m args below meth c Q h n cells slots L (pc + 3) (v :: rest)) : zz_W D zz_cl B p l e R s m args below meth c Q h n cells slots L pc (.ref a :: rest) := z_get (k := 13) C rfl in_Q (by decide) wd_915 rfl d hh hv k9
theorem gf_Q_45 (C : zz_C D zz_cl (zz_ty dA) B zz_tb X p s m args meth c cc RR_Q ret nm) {a : Nat} {fs : List Value} {v : Value} (d : decode cc pc = .ok (.getfield 45, 3)) (hh : h a = some (.inr (11, fs))) (hv : fs[14]? = some v) (k9 : zz_W D zz_cl B p l e R s m args below meth c Q h n cells slots L (pc + 3) (v :: rest)) : zz_W D zz_cl B p l e R s m args below meth c Q h n cells slots L pc (.ref a :: rest) := z_get (k := 14) C rfl in_Q (by decide) wd_916 rfl d hh hv k9
theorem gf_Q_48 (C : zz_C D zz_cl (zz_ty dA) B zz_tb X p s m args meth c cc RR_Q ret nm) {a : Nat} {fs : List Value} {v : Value} (d : decode cc pc = .ok (.getfield 48, 3)) (hh : h a = some (.inr (11, fs))) (hv : fs[15]? = some v) (k9 : zz_W D zz_cl B p l e R s m args below meth c Q h n cells slots L (pc + 3) (v :: rest)) : zz_W D zz_cl B p l e R s m args below meth c Q h n cells slots L pc (.ref a :: rest) := z_get (k := 15) C rfl in_Q (by decide) wd_917 rfl d hh hv k9
theorem gf_Q_51 (C : zz_C D zz_cl (zz_ty dA) B zz_tb X p s m args meth c cc RR_Q ret nm) {a : Nat} {fs : List Value} {v : Value} (d : decode cc pc = .ok (.getfield 51, 3)) (hh : h a = some (.inr (11, fs))) (hv : fs[16]? = some v) (k9 : zz_W D zz_cl B p l e R s m args below meth c Q h n cells slots L (pc + 3) (v :: rest)) : zz_W D zz_cl B p l e R s m args below meth c Q h n cells slots L pc (.ref a :: rest) := z_get (k := 16) C rfl in_Q (by decide) wd_918 rfl d hh hv k9
theorem gf_Q_54 (C : zz_C D zz_cl (zz_ty dA) B zz_tb X p s m args meth c cc RR_Q ret nm) {a : Nat} {fs : List Value} {v : Value} (d : decode cc pc = .ok (.getfield 54, 3)) (hh : h a = some (.inr (11, fs))) (hv : fs[17]? = some v) (k9 : zz_W D zz_cl B p l e R s m args below meth c Q h n cells slots L (pc + 3) (v :: rest)) : zz_W D zz_cl B p l e R s m args below meth c Q h n cells slots L pc (.ref a :: rest) := z_get (k := 17) C rfl in_Q (by decide) wd_919 rfl d hh hv k9
theorem gf_Q_57 (C : zz_C D zz_cl (zz_ty dA) B zz_tb X p s m args meth c cc RR_Q ret nm) {a : Nat} {fs : List Value} {v : Value} (d : decode cc pc = .ok (.getfield 57, 3)) (hh : h a = some (.inr (11, fs))) (hv : fs[21]? = some v) (k9 : zz_W D zz_cl B p l e R s m args below meth c Q h n cells slots L (pc + 3) (v :: rest)) : zz_W D zz_cl B p l e R s m args below meth c Q h n cells slots L pc (.ref a :: rest) := z_get (k := 21) C rfl in_Q (by decide) wd_923 rfl d hh hv k9
theorem gf_Q_60 (C : zz_C D zz_cl (zz_ty dA) B zz_tb X p s m args meth c cc RR_Q ret nm) {a : Nat} {fs : List Value} {v : Value} (d : decode cc pc = .ok (.getfield 60, 3)) (hh : h a = some (.inr (11, fs))) (hv : fs[22]? = some v) (k9 : zz_W D zz_cl B p l e R s m args below meth c Q h n cells slots L (pc + 3) (v :: rest)) : zz_W D zz_cl B p l e R s m args below meth c Q h n cells slots L pc (.ref a :: rest) := z_get (k := 22) C rfl in_Q (by decide) wd_924 rfl d hh hv k9
theorem gf_Q_63 (C : zz_C D zz_cl (zz_ty dA) B zz_tb X p s m args meth c cc RR_Q ret nm) {a : Nat} {fs : List Value} {v : Value} (d : decode cc pc = .ok (.getfield 63, 3)) (hh : h a = some (.inr (11, fs))) (hv : fs[23]? = some v) (k9 : zz_W D zz_cl B p l e R s m args below meth c Q h n cells slots L (pc + 3) (v :: rest)) : zz_W D zz_cl B p l e R s m args below meth c Q h n cells slots L pc (.ref a :: rest) := z_get (k := 23) C rfl in_Q (by decide) wd_925 rfl d hh hv k9
theorem gf_Q_66 (C : zz_C D zz_cl (zz_ty dA) B zz_tb X p s m args meth c cc RR_Q ret nm) {a : Nat} {fs : List Value} {v : Value} (d : decode cc pc = .ok (.getfield 66, 3)) (hh : h a = some (.inr (11, fs))) (hv : fs[24]? = some v) (k9 : zz_W D zz_cl B p l e R s m args below meth c Q h n cells slots L (pc + 3) (v :: rest)) : zz_W D zz_cl B p l e R s m args below meth c Q h n cells slots L pc (.ref a :: rest) := z_get (k := 24) C rfl in_Q (by decide) wd_926 rfl d hh hv k9
theorem gf_Q_69 (C : zz_C D zz_cl (zz_ty dA) B zz_tb X p s m args meth c cc RR_Q ret nm) {a : Nat} {fs : List Value} {v : Value} (d : decode cc pc = .ok (.getfield 69, 3)) (hh : h a = some (.inr (11, fs))) (hv : fs[25]? = some v) (k9 : zz_W D zz_cl B p l e R s m args below meth c Q h n cells slots L (pc + 3) (v :: rest)) : zz_W D zz_cl B p l e R s m args below meth c Q h n cells slots L pc (.ref a :: rest) := z_get (k := 25) C rfl in_Q (by decide) wd_927 rfl d hh hv k9
theorem gf_Q_72 (C : zz_C D zz_cl (zz_ty dA) B zz_tb X p s m args meth c cc RR_Q ret nm) {a : Nat} {fs : List Value} {v : Value} (d : decode cc pc = .ok (.getfield 72, 3)) (hh : h a = some (.inr (11, fs))) (hv : fs[26]? = some v) (k9 : zz_W D zz_cl B p l e R s m args below meth c Q h n cells slots L (pc + 3) (v :: rest)) : zz_W D zz_cl B p l e R s m args below meth c Q h n cells slots L pc (.ref a :: rest) := z_get (k := 26) C rfl in_Q (by decide) wd_928 rfl d hh hv k9
theorem gf_Q_75 (C : zz_C D zz_cl (zz_ty dA) B zz_tb X p s m args meth c cc RR_Q ret nm) {a : Nat} {fs : List Value} {v : Value} (d : decode cc pc = .ok (.getfield 75, 3)) (hh : h a = some (.inr (11, fs))) (hv : fs[27]? = some v) (k9 : zz_W D zz_cl B p l e R s m args below meth c Q h n cells slots L (pc + 3) (v :: rest)) : zz_W D zz_cl B p l e R s m args below meth c Q h n cells slots L pc (.ref a :: rest) := z_get (k := 27) C rfl in_Q (by decide) wd_929 rfl d hh hv k9
theorem gf_Q_78 (C : zz_C D zz_cl (zz_ty dA) B zz_tb X p s m args meth c cc RR_Q ret nm) {a : Nat} {fs : List Value} {v : Value} (d : decode cc pc = .ok (.getfield 78, 3)) (hh : h a = some (.inr (11, fs))) (hv : fs[28]? = some v) (k9 : zz_W D zz_cl B p l e R s m args below meth c Q h n cells slots L (pc + 3) (v :: rest)) : zz_W D zz_cl B p l e R s m args below meth c Q h n cells slots L pc (.ref a :: rest) := z_get (k := 28) C rfl in_Q (by decide) wd_930 rfl d hh hv k9
theorem gf_Q_81 (C : zz_C D zz_cl (zz_ty dA) B zz_tb X p s m args meth c cc RR_Q ret nm) {a : Nat} {fs : List Value} {v : Value} (d : decode cc pc = .ok (.getfield 81, 3)) (hh : h a = some (.inr (11, fs))) (hv : fs[29]? = some v) (k9 : zz_W D zz_cl B p l e R s m args below meth c Q h n cells slots L (pc + 3) (v :: rest)) : zz_W D zz_cl B p l e R s m args below meth c Q h n cells slots L pc (.ref a :: rest) := z_get (k := 29) C rfl in_Q (by decide) wd_931 rfl d hh hv k9
theorem gf_Q_85 (C : zz_C D zz_cl (zz_ty dA) B zz_tb X p s m args meth c cc RR_Q ret nm) {a : Nat} {fs : List Value} {v : Value} (d : decode cc pc = .ok (.getfield 85, 3)) (hh : h a = some (.inr (11, fs))) (hv : fs[30]? = some v) (k9 : zz_W D zz_cl B p l e R s m args below meth c Q h n cells slots L (pc + 3) (v :: rest)) : zz_W D zz_cl B p l e R s m args below meth c Q h n cells slots L pc (.ref a :: rest) := z_get (k := 30) C rfl in_Q (by decide) wd_932 rfl d hh hv k9
theorem gf_Q_88 (C : zz_C D zz_cl (zz_ty dA) B zz_tb X p s m args meth c cc RR_Q ret nm) {a : Nat} {fs : List Value} {v : Value} (d : decode cc pc = .ok (.getfield 88, 3)) (hh : h a = some (.inr (11, fs))) (hv : fs[31]? = some v) (k9 : zz_W D zz_cl B p l e R s m args below meth c Q h n cells slots L (pc + 3) (v :: rest)) : zz_W D zz_cl B p l e R s m args below meth c Q h n cells slots L pc (.ref a :: rest) := z_get (k := 31) C rfl in_Q (by decide) wd_933 rfl d hh hv k9
theorem gf_Q_91 (C : zz_C D zz_cl (zz_ty dA) B zz_tb X p s m args meth c cc RR_Q ret nm) {a : Nat} {fs : List Value} {v : Value} (d : decode cc pc = .ok (.getfield 91, 3)) (hh : h a = some (.inr (11, fs))) (hv : fs[32]? = some v) (k9 : zz_W D zz_cl B p l e R s m args below meth c Q h n cells slots L (pc + 3) (v :: rest)) : zz_W D zz_cl B p l e R s m args below meth c Q h n cells slots L pc (.ref a :: rest) := z_get (k := 32) C rfl in_Q (by decide) wd_934 rfl d hh hv k9
theorem gf_Q_94 (C : zz_C D zz_cl (zz_ty dA) B zz_tb X p s m args meth c cc RR_Q ret nm) {a : Nat} {fs : List Value} {v : Value} (d : decode cc pc = .ok (.getfield 94, 3)) (hh : h a = some (.inr (11, fs))) (hv : fs[33]? = some v) (k9 : zz_W D zz_cl B p l e R s m args below meth c Q h n cells slots L (pc + 3) (v :: rest)) : zz_W D zz_cl B p l e R s m args below meth c Q h n cells slots L pc (.ref a :: rest) := z_get (k := 33) C rfl in_Q (by decide) wd_935 rfl d hh hv k9
theorem gf_Q_97 (C : zz_C D zz_cl (zz_ty dA) B zz_tb X p s m args meth c cc RR_Q ret nm) {a : Nat} {fs : List Value} {v : Value} (d : decode cc pc = .ok (.getfield 97, 3)) (hh : h a = some (.inr (11, fs))) (hv : fs[34]? = some v) (k9 : zz_W D zz_cl B p l e R s m args below meth c Q h n cells slots L (pc + 3) (v :: rest)) : zz_W D zz_cl B p l e R s m args below meth c Q h n cells slots L pc (.ref a :: rest) := z_get (k := 34) C rfl in_Q (by decide) wd_936 rfl d hh hv k9
theorem gf_Q_100 (C : zz_C D zz_cl (zz_ty dA) B zz_tb X p s m args meth c cc RR_Q ret nm) {a : Nat} {fs : List Value} {v : Value} (d : decode cc pc = .ok (.getfield 100, 3)) (hh : h a = some (.inr (11, fs))) (hv : fs[35]? = some v) (k9 : zz_W D zz_cl B p l e R s m args below meth c Q h n cells slots L (pc + 3) (v :: rest)) : zz_W D zz_cl B p l e R s m args below meth c Q h n cells slots L pc (.ref a :: rest) := z_get (k := 35) C rfl in_Q (by decide) wd_937 rfl d hh hv k9
theorem gf_Q_103 (C : zz_C D zz_cl (zz_ty dA) B zz_tb X p s m args meth c cc RR_Q ret nm) {a : Nat} {fs : List Value} {v : Value} (d : decode cc pc = .ok (.getfield 103, 3)) (hh : h a = some (.inr (11, fs))) (hv : fs[37]? = some v) (k9 : zz_W D zz_cl B p l e R s m args below meth c Q h n cells slots L (pc + 3) (v :: rest)) : zz_W D zz_cl B p l e R s m args below meth c Q h n cells slots L pc (.ref a :: rest) := z_get (k := 37) C rfl in_Q (by decide) wd_939 rfl d hh hv k9
theorem gf_Q_106 (C : zz_C D zz_cl (zz_ty dA) B zz_tb X p s m args meth c cc RR_Q ret nm) {a : Nat} {fs : List Value} {v : Value} (d : decode cc pc = .ok (.getfield 106, 3)) (hh : h a = some (.inr (11, fs))) (hv : fs[38]? = some v) (k9 : zz_W D zz_cl B p l e R s m args below meth c Q h n cells slots L (pc + 3) (v :: rest)) : zz_W D zz_cl B p l e R s m args below meth c Q h n cells slots L pc (.ref a :: rest) := z_get (k := 38) C rfl in_Q (by decide) wd_940 rfl d hh hv k9
theorem gf_Q_109 (C : zz_C D zz_cl (zz_ty dA) B zz_tb X p s m args meth c cc RR_Q ret nm) {a : Nat} {fs : List Value} {v : Value} (d : decode cc pc = .ok (.getfield 109, 3)) (hh : h a = some (.inr (11, fs))) (hv : fs[39]? = some v) (k9 : zz_W D zz_cl B p l e R s m args below meth c Q h n cells slots L (pc + 3) (v :: rest)) : zz_W D zz_cl B p l e R s m args below meth c Q h n cells slots L pc (.ref a :: rest) := z_get (k := 39) C rfl in_Q (by decide) wd_941 rfl d hh hv k9
theorem gf_Q_112 (C : zz_C D zz_cl (zz_ty dA) B zz_tb X p s m args meth c cc RR_Q ret nm) {a : Nat} {fs : List Value} {v : Value} (d : decode cc pc = .ok (.getfield 112, 3)) (hh : h a = some (.inr (11, fs))) (hv : fs[40]? = some v) (k9 : zz_W D zz_cl B p l e R s m args below meth c Q h n cells slots L (pc + 3) (v :: rest)) : zz_W D zz_cl B p l e R s m args below meth c Q h n cells slots L pc (.ref a :: rest) := z_get (k := 40) C rfl in_Q (by decide) wd_942 rfl d hh hv k9
theorem gf_Q_115 (C : zz_C D zz_cl (zz_ty dA) B zz_tb X p s m args meth c cc RR_Q ret nm) {a : Nat} {fs : List Value} {v : Value} (d : decode cc pc = .ok (.getfield 115, 3)) (hh : h a = some (.inr (11, fs))) (hv : fs[41]? = some v) (k9 : zz_W D zz_cl B p l e R s m args below meth c Q h n cells slots L (pc + 3) (v :: rest)) : zz_W D zz_cl B p l e R s m args below meth c Q h n cells slots L pc (.ref a :: rest) := z_get (k := 41) C rfl in_Q (by decide) wd_943 rfl d hh hv k9
theorem gf_Q_118 (C : zz_C D zz_cl (zz_ty dA) B zz_tb X p s m args meth c cc RR_Q ret nm) {a : Nat} {fs : List Value} {v : Value} (d : decode cc pc = .ok (.getfield 118, 3)) (hh : h a = some (.inr (11, fs))) (hv : fs[42]? = some v) (k9 : zz_W D zz_cl B p l e R s m args below meth c Q h n cells slots L (pc + 3) (v :: rest)) : zz_W D zz_cl B p l e R s m args below meth c Q h n cells slots L pc (.ref a :: rest) := z_get (k := 42) C rfl in_Q (by decide) wd_944 rfl d hh hv k9
theorem gf_Q_121 (C : zz_C D zz_cl (zz_ty dA) B zz_tb X p s m args meth c cc RR_Q ret nm) {a : Nat} {fs : List Value} {v : Value} (d : decode cc pc = .ok (.getfield 121, 3)) (hh : h a = some (.inr (11, fs))) (hv : fs[0]? = some v) (k9 : zz_W D zz_cl B p l e R s m args below meth c Q h n cells slots L (pc + 3) (v :: rest)) : zz_W D zz_cl B p l e R s m args below meth c Q h n cells slots L pc (.ref a :: rest) := z_get (k := 0) C rfl in_Q (by decide) wd_902 rfl d hh hv k9
theorem gf_Q_124 (C : zz_C D zz_cl (zz_ty dA) B zz_tb X p s m args meth c cc RR_Q ret nm) {a : Nat} {fs : List Value} {v : Value} (d : decode cc pc = .ok (.getfield 124, 3)) (hh : h a = some (.inr (11, fs))) (hv : fs[18]? = some v) (k9 : zz_W D zz_cl B p l e R s m args below meth c Q h n cells slots L (pc + 3) (v :: rest)) : zz_W D zz_cl B p l e R s m args below meth c Q h n cells slots L pc (.ref a :: rest) := z_get (k := 18) C rfl in_Q (by decide) wd_920 rfl d hh hv k9
theorem gf_Q_135 (C : zz_C D zz_cl (zz_ty dA) B zz_tb X p s m args meth c cc RR_Q ret nm) {a : Nat} {fs : List Value} {v : Value} (d : decode cc pc = .ok (.getfield 135, 3)) (hh : h a = some (.inr (11, fs))) (hv : fs[3]? = some v) (k9 : zz_W D zz_cl B p l e R s m args below meth c Q h n cells slots L (pc + 3) (v :: rest)) : zz_W D zz_cl B p l e R s m args below meth c Q h n cells slots L pc (.ref a :: rest) := z_get (k := 3) C rfl in_Q (by decide) wd_905 rfl d hh hv k9
theorem gf_Q_138 (C : zz_C D zz_cl (zz_ty dA) B zz_tb X p s m args meth c cc RR_Q ret nm) {a : Nat} {fs : List Value} {v : Value} (d : decode cc pc = .ok (.getfield 138, 3)) (hh : h a = some (.inr (11, fs))) (hv : fs[5]? = some v) (k9 : zz_W D zz_cl B p l e R s m args below meth c Q h n cells slots L (pc + 3) (v :: rest)) : zz_W D zz_cl B p l e R s m args below meth c Q h n cells slots L pc (.ref a :: rest) := z_get (k := 5) C rfl in_Q (by decide) wd_907 rfl d hh hv k9
theorem gf_Q_186 (C : zz_C D zz_cl (zz_ty dA) B zz_tb X p s m args meth c cc RR_Q ret nm) {a : Nat} {fs : List Value} {v : Value} (d : decode cc pc = .ok (.getfield 186, 3)) (hh : h a = some (.inr (11, fs))) (hv : fs[19]? = some v) (k9 : zz_W D zz_cl B p l e R s m args below meth c Q h n cells slots L (pc + 3) (v :: rest)) : zz_W D zz_cl B p l e R s m args below meth c Q h n cells slots L pc (.ref a :: rest) := z_get (k := 19) C rfl in_Q (by decide) wd_921 rfl d hh hv k9
theorem gf_Q_189 (C : zz_C D zz_cl (zz_ty dA) B zz_tb X p s m args meth c cc RR_Q ret nm) {a : Nat} {fs : List Value} {v : Value} (d : decode cc pc = .ok (.getfield 189, 3)) (hh : h a = some (.inr (11, fs))) (hv : fs[20]? = some v) (k9 : zz_W D zz_cl B p l e R s m args below meth c Q h n cells slots L (pc + 3) (v :: rest)) : zz_W D zz_cl B p l e R s m args below meth c Q h n cells slots L pc (.ref a :: rest) := z_get (k := 20) C rfl in_Q (by decide) wd_922 rfl d hh hv k9
theorem gf_Q_222 (C : zz_C D zz_cl (zz_ty dA) B zz_tb X p s m args meth c cc RR_Q ret nm) {a : Nat} {fs : List Value} {v : Value} (d : decode cc pc = .ok (.getfield 222, 3)) (hh : h a = some (.inr (11, fs))) (hv : fs[44]? = some v) (k9 : zz_W D zz_cl B p l e R s m args below meth c Q h n cells slots L (pc + 3) (v :: rest)) : zz_W D zz_cl B p l e R s m args below meth c Q h n cells slots L pc (.ref a :: rest) := z_get (k := 44) C rfl in_Q (by decide) wd_946 rfl d hh hv k9
theorem gf_Q_225 (C : zz_C D zz_cl (zz_ty dA) B zz_tb X p s m args meth c cc RR_Q ret nm) {a : Nat} {fs : List Value} {v : Value} (d : decode cc pc = .ok (.getfield 225, 3)) (hh : h a = some (.inr (11, fs))) (hv : fs[43]? = some v) (k9 : zz_W D zz_cl B p l e R s m args below meth c Q h n cells slots L (pc + 3) (v :: rest)) : zz_W D zz_cl B p l e R s m args below meth c Q h n cells slots L pc (.ref a :: rest) := z_get (k := 43) C rfl in_Q (by decide) wd_945 rfl d hh hv k9
theorem gf_Q_228 (C : zz_C D zz_cl (zz_ty dA) B zz_tb X p s m args meth c cc RR_Q ret nm) {a : Nat} {fs : List Value} {v : Value} (d : decode cc pc = .ok (.getfield 228, 3)) (hh : h a = some (.inr (11, fs))) (hv : fs[45]? = some v) (k9 : zz_W D zz_cl B p l e R s m args below meth c Q h n cells slots L (pc + 3) (v :: rest)) : zz_W D zz_cl B p l e R s m args below meth c Q h n cells slots L pc (.ref a :: rest) := z_get (k := 45) C rfl in_Q (by decide) wd_947 rfl d hh hv k9
theorem gf_Q_231 (C : zz_C D zz_cl (zz_ty dA) B zz_tb X p s m args meth c cc RR_Q ret nm) {a : Nat} {fs : List Value} {v : Value} (d : decode cc pc = .ok (.getfield 231, 3)) (hh : h a = some (.inr (11, fs))) (hv : fs[36]? = some v) (k9 : zz_W D zz_cl B p l e R s m args below meth c Q h n cells slots L (pc + 3) (v :: rest)) : zz_W D zz_cl B p l e R s m args below meth c Q h n cells slots L pc (.ref a :: rest) := z_get (k := 36) C rfl in_Q (by decide) wd_938 rfl d hh hv k9
theorem oi_Q_1 (C : zz_C D zz_cl (zz_ty dA) B zz_tb X p s m args meth c cc RR_Q ret nm) {a : Nat} (d : decode cc pc = .ok (.invokespecial 1, 3)) (hfr : 1 ≤ R.frames) (hlo : (rest.map fun v => v.category).sum + 12 ≤ R.locals) (k9 : zz_W D zz_cl B p l e R s m args below meth c Q h n cells slots L (pc + 3) rest) : zz_W D zz_cl B p l e R s m args below meth c Q h n cells slots L pc (.ref a :: rest) := z_objInit C wd_901 wd_29 wd_30 d hfr hlo k9
theorem is_Q_127 (F : zz_F B zz_tb X) (C : zz_C D zz_cl (zz_ty dA) B zz_tb X p s m args meth c cc RR_Q ret nm) {rm : Room} {As st0 : List Value} {sk : ρ → List Value} (d : decode cc pc = .ok (.invokestatic 127, 3)) (hM : zz_M l D zz_cl (zz_ty dA) B zz_tb X yy_Q_in (Cond.code yy_Q_in prog_14_method_3_code 3 (some FieldType.boolean)) rm As h n mk post) (hn : As.length = 3) (hst : st0 = As.reverse ++ rest) (hR : rm.frames + 1 ≤ R.frames ∧ 8 + (3 + 11) + rm.locals ≤ R.locals) (hW : (rest.map fun v => v.category).sum ≤ 8) (hf : cells + rm.cells ≤ R.cells ∧ slots + rm.slots ≤ R.slots) (hsk : ∀ r, (mk r).toList ++ rest = sk r) (kk : ∀ (r : ρ) (h' : zz_H) (n' : Nat), post r h' n' → zz_W D zz_cl B p l e R s m args below meth c Q h' n' (cells + rm.cells) (slots + rm.slots) L (pc + 3) (sk r)) : zz_W D zz_cl B p l e R s m args below meth c Q h n cells slots L pc st0 :=
  z_callS F C wd_1052 wd_6 wd_1050 wd_1051 ⟨by decide, by decide, by decide +kernel⟩ d hM hn hst hR hW hf hsk kk
theorem iv_Q_131 (F : zz_F B zz_tb X) (C : zz_C D zz_cl (zz_ty dA) B zz_tb X p s m args meth c cc RR_Q ret nm) {rm : Room} {As st0 : List Value} {sk : ρ → List Value} {b : Nat} {fs : List Value} (d : decode cc pc = .ok (.invokevirtual 131, 3)) (hM : zz_M l D zz_cl (zz_ty dA) B zz_tb X yy_Q_forget (Cond.code yy_Q_forget prog_14_method_5_code 2 none) rm (.ref b :: As) h n mk post) (hh : h b = some (.inr (11, fs))) (hn : As.length = 1) (hst : st0 = As.reverse ++ .ref b :: rest) (hR : rm.frames + 1 ≤ R.frames ∧ 8 + (2 + 11) + rm.locals ≤ R.locals) (hW : (rest.map fun v => v.category).sum ≤ 8) (hf : cells + rm.cells ≤ R.cells ∧ slots + rm.slots ≤ R.slots) (hsk : ∀ r, (mk r).toList ++ rest = sk r) (kk : ∀ (r : ρ) (h' : zz_H) (n' : Nat), post r h' n' → zz_W D zz_cl B p l e R s m args below meth c Q h' n' (cells + rm.cells) (slots + rm.slots) L (pc + 3) (sk r)) : zz_W D zz_cl B p l e R s m args below meth c Q h n cells slots L pc st0 :=
  z_callV F C wd_1056 wd_6 wd_1053 wd_1055 (zz_wp (y := yy_Q_forget) (k := 46) (by decide +kernel) (by decide +kernel)) ⟨by decide, by decide, by decide +kernel⟩ rfl rfl d hM hh hn hst hR hW hf hsk kk
theorem iv_Q_141 (F : zz_F B zz_tb X) (C : zz_C D zz_cl (zz_ty dA) B zz_tb X p s m args meth c cc RR_Q ret nm) {rm : Room} {As st0 : List Value} {sk : ρ → List Value} {b : Nat} {fs : List Value} (d : decode cc pc = .ok (.invokevirtual 141, 3)) (hM : zz_M l D zz_cl (zz_ty dA) B zz_tb X yy_Q_values (Cond.code yy_Q_values prog_14_method_11_code 1 (some FieldType.int)) rm (.ref b :: As) h n mk post) (hh : h b = some (.inr (11, fs))) (hn : As.length = 0) (hst : st0 = As.reverse ++ .ref b :: rest) (hR : rm.frames + 1 ≤ R.frames ∧ 8 + (1 + 11) + rm.locals ≤ R.locals) (hW : (rest.map fun v => v.category).sum ≤ 8) (hf : cells + rm.cells ≤ R.cells ∧ slots + rm.slots ≤ R.slots) (hsk : ∀ r, (mk r).toList ++ rest = sk r) (kk : ∀ (r : ρ) (h' : zz_H) (n' : Nat), post r h' n' → zz_W D zz_cl B p l e R s m args below meth c Q h' n' (cells + rm.cells) (slots + rm.slots) L (pc + 3) (sk r)) : zz_W D zz_cl B p l e R s m args below meth c Q h n cells slots L pc st0 :=
  z_callV F C wd_1088 wd_6 wd_1085 wd_1087 (zz_wp (y := yy_Q_values) (k := 46) (by decide +kernel) (by decide +kernel)) ⟨by decide, by decide, by decide +kernel⟩ rfl rfl d hM hh hn hst hR hW hf hsk kk
theorem iv_Q_145 (F : zz_F B zz_tb X) (C : zz_C D zz_cl (zz_ty dA) B zz_tb X p s m args meth c cc RR_Q ret nm) {rm : Room} {As st0 : List Value} {sk : ρ → List Value} {b : Nat} {fs : List Value} (d : decode cc pc = .ok (.invokevirtual 145, 3)) (hM : zz_M l D zz_cl (zz_ty dA) B zz_tb X yy_Q_isClass (Cond.code yy_Q_isClass prog_14_method_16_code 5 (some FieldType.boolean)) rm (.ref b :: As) h n mk post) (hh : h b = some (.inr (11, fs))) (hn : As.length = 2) (hst : st0 = As.reverse ++ .ref b :: rest) (hR : rm.frames + 1 ≤ R.frames ∧ 8 + (5 + 11) + rm.locals ≤ R.locals) (hW : (rest.map fun v => v.category).sum ≤ 8) (hf : cells + rm.cells ≤ R.cells ∧ slots + rm.slots ≤ R.slots) (hsk : ∀ r, (mk r).toList ++ rest = sk r) (kk : ∀ (r : ρ) (h' : zz_H) (n' : Nat), post r h' n' → zz_W D zz_cl B p l e R s m args below meth c Q h' n' (cells + rm.cells) (slots + rm.slots) L (pc + 3) (sk r)) : zz_W D zz_cl B p l e R s m args below meth c Q h n cells slots L pc st0 :=
  z_callV F C wd_1108 wd_6 wd_1105 wd_1107 (zz_wp (y := yy_Q_isClass) (k := 46) (by decide +kernel) (by decide +kernel)) ⟨by decide, by decide, by decide +kernel⟩ rfl rfl d hM hh hn hst hR hW hf hsk kk
theorem iv_Q_149 (F : zz_F B zz_tb X) (C : zz_C D zz_cl (zz_ty dA) B zz_tb X p s m args meth c cc RR_Q ret nm) {rm : Room} {As st0 : List Value} {sk : ρ → List Value} {b : Nat} {fs : List Value} (d : decode cc pc = .ok (.invokevirtual 149, 3)) (hM : zz_M l D zz_cl (zz_ty dA) B zz_tb X yy_Q_holds (Cond.code yy_Q_holds prog_14_method_17_code 8 (some FieldType.boolean)) rm (.ref b :: As) h n mk post) (hh : h b = some (.inr (11, fs))) (hn : As.length = 5) (hst : st0 = As.reverse ++ .ref b :: rest) (hR : rm.frames + 1 ≤ R.frames ∧ 8 + (8 + 11) + rm.locals ≤ R.locals) (hW : (rest.map fun v => v.category).sum ≤ 8) (hf : cells + rm.cells ≤ R.cells ∧ slots + rm.slots ≤ R.slots) (hsk : ∀ r, (mk r).toList ++ rest = sk r) (kk : ∀ (r : ρ) (h' : zz_H) (n' : Nat), post r h' n' → zz_W D zz_cl B p l e R s m args below meth c Q h' n' (cells + rm.cells) (slots + rm.slots) L (pc + 3) (sk r)) : zz_W D zz_cl B p l e R s m args below meth c Q h n cells slots L pc st0 :=
  z_callV F C wd_1104 wd_6 wd_1101 wd_1103 (zz_wp (y := yy_Q_holds) (k := 46) (by decide +kernel) (by decide +kernel)) ⟨by decide, by decide, by decide +kernel⟩ rfl rfl d hM hh hn hst hR hW hf hsk kk
theorem iv_Q_153 (F : zz_F B zz_tb X) (C : zz_C D zz_cl (zz_ty dA) B zz_tb X p s m args meth c cc RR_Q ret nm) {rm : Room} {As st0 : List Value} {sk : ρ → List Value} {b : Nat} {fs : List Value} (d : decode cc pc = .ok (.invokevirtual 153, 3)) (hM : zz_M l D zz_cl (zz_ty dA) B zz_tb X yy_Q_rows (Cond.code yy_Q_rows prog_14_method_12_code 2 (some FieldType.int)) rm (.ref b :: As) h n mk post) (hh : h b = some (.inr (11, fs))) (hn : As.length = 1) (hst : st0 = As.reverse ++ .ref b :: rest) (hR : rm.frames + 1 ≤ R.frames ∧ 8 + (2 + 11) + rm.locals ≤ R.locals) (hW : (rest.map fun v => v.category).sum ≤ 8) (hf : cells + rm.cells ≤ R.cells ∧ slots + rm.slots ≤ R.slots) (hsk : ∀ r, (mk r).toList ++ rest = sk r) (kk : ∀ (r : ρ) (h' : zz_H) (n' : Nat), post r h' n' → zz_W D zz_cl B p l e R s m args below meth c Q h' n' (cells + rm.cells) (slots + rm.slots) L (pc + 3) (sk r)) : zz_W D zz_cl B p l e R s m args below meth c Q h n cells slots L pc st0 :=
  z_callV F C wd_1084 wd_6 wd_1081 wd_1083 (zz_wp (y := yy_Q_rows) (k := 46) (by decide +kernel) (by decide +kernel)) ⟨by decide, by decide, by decide +kernel⟩ rfl rfl d hM hh hn hst hR hW hf hsk kk
theorem iv_Q_157 (F : zz_F B zz_tb X) (C : zz_C D zz_cl (zz_ty dA) B zz_tb X p s m args meth c cc RR_Q ret nm) {rm : Room} {As st0 : List Value} {sk : ρ → List Value} {b : Nat} {fs : List Value} (d : decode cc pc = .ok (.invokevirtual 157, 3)) (hM : zz_M l D zz_cl (zz_ty dA) B zz_tb X yy_Q_firstOf (Cond.code yy_Q_firstOf prog_14_method_14_code 3 (some FieldType.int)) rm (.ref b :: As) h n mk post) (hh : h b = some (.inr (11, fs))) (hn : As.length = 2) (hst : st0 = As.reverse ++ .ref b :: rest) (hR : rm.frames + 1 ≤ R.frames ∧ 8 + (3 + 11) + rm.locals ≤ R.locals) (hW : (rest.map fun v => v.category).sum ≤ 8) (hf : cells + rm.cells ≤ R.cells ∧ slots + rm.slots ≤ R.slots) (hsk : ∀ r, (mk r).toList ++ rest = sk r) (kk : ∀ (r : ρ) (h' : zz_H) (n' : Nat), post r h' n' → zz_W D zz_cl B p l e R s m args below meth c Q h' n' (cells + rm.cells) (slots + rm.slots) L (pc + 3) (sk r)) : zz_W D zz_cl B p l e R s m args below meth c Q h n cells slots L pc st0 :=
  z_callV F C wd_1092 wd_6 wd_1089 wd_1091 (zz_wp (y := yy_Q_firstOf) (k := 46) (by decide +kernel) (by decide +kernel)) ⟨by decide, by decide, by decide +kernel⟩ rfl rfl d hM hh hn hst hR hW hf hsk kk
theorem iv_Q_161 (F : zz_F B zz_tb X) (C : zz_C D zz_cl (zz_ty dA) B zz_tb X p s m args meth c cc RR_Q ret nm) {rm : Room} {As st0 : List Value} {sk : ρ → List Value} {b : Nat} {fs : List Value} (d : decode cc pc = .ok (.invokevirtual 161, 3)) (hM : zz_M l D zz_cl (zz_ty dA) B zz_tb X yy_Q_secondOf (Cond.code yy_Q_secondOf prog_14_method_15_code 3 (some FieldType.int)) rm (.ref b :: As) h n mk post) (hh : h b = some (.inr (11, fs))) (hn : As.length = 2) (hst : st0 = As.reverse ++ .ref b :: rest) (hR : rm.frames + 1 ≤ R.frames ∧ 8 + (3 + 11) + rm.locals ≤ R.locals) (hW : (rest.map fun v => v.category).sum ≤ 8) (hf : cells + rm.cells ≤ R.cells ∧ slots + rm.slots ≤ R.slots) (hsk : ∀ r, (mk r).toList ++ rest = sk r) (kk : ∀ (r : ρ) (h' : zz_H) (n' : Nat), post r h' n' → zz_W D zz_cl B p l e R s m args below meth c Q h' n' (cells + rm.cells) (slots + rm.slots) L (pc + 3) (sk r)) : zz_W D zz_cl B p l e R s m args below meth c Q h n cells slots L pc st0 :=
  z_callV F C wd_1096 wd_6 wd_1093 wd_1095 (zz_wp (y := yy_Q_secondOf) (k := 46) (by decide +kernel) (by decide +kernel)) ⟨by decide, by decide, by decide +kernel⟩ rfl rfl d hM hh hn hst hR hW hf hsk kk
theorem iv_Q_164 (F : zz_F B zz_tb X) (C : zz_C D zz_cl (zz_ty dA) B zz_tb X p s m args meth c cc RR_Q ret nm) {rm : Room} {As st0 : List Value} {sk : ρ → List Value} {b : Nat} {fs : List Value} (d : decode cc pc = .ok (.invokevirtual 164, 3)) (hM : zz_M l D zz_cl (zz_ty dA) B zz_tb X yy_Q_applies (Cond.code yy_Q_applies prog_14_method_18_code 6 (some FieldType.boolean)) rm (.ref b :: As) h n mk post) (hh : h b = some (.inr (11, fs))) (hn : As.length = 3) (hst : st0 = As.reverse ++ .ref b :: rest) (hR : rm.frames + 1 ≤ R.frames ∧ 8 + (6 + 11) + rm.locals ≤ R.locals) (hW : (rest.map fun v => v.category).sum ≤ 8) (hf : cells + rm.cells ≤ R.cells ∧ slots + rm.slots ≤ R.slots) (hsk : ∀ r, (mk r).toList ++ rest = sk r) (kk : ∀ (r : ρ) (h' : zz_H) (n' : Nat), post r h' n' → zz_W D zz_cl B p l e R s m args below meth c Q h' n' (cells + rm.cells) (slots + rm.slots) L (pc + 3) (sk r)) : zz_W D zz_cl B p l e R s m args below meth c Q h n cells slots L pc st0 :=
  z_callV F C wd_1100 wd_6 wd_1097 wd_1099 (zz_wp (y := yy_Q_applies) (k := 46) (by decide +kernel) (by decide +kernel)) ⟨by decide, by decide, by decide +kernel⟩ rfl rfl d hM hh hn hst hR hW hf hsk kk
theorem iv_Q_167 (F : zz_F B zz_tb X) (C : zz_C D zz_cl (zz_ty dA) B zz_tb X p s m args meth c cc RR_Q ret nm) {rm : Room} {As st0 : List Value} {sk : ρ → List Value} {b : Nat} {fs : List Value} (d : decode cc pc = .ok (.invokevirtual 167, 3)) (hM : zz_M l D zz_cl (zz_ty dA) B zz_tb X yy_Q_parts (Cond.code yy_Q_parts prog_14_method_19_code 6 (some FieldType.boolean)) rm (.ref b :: As) h n mk post) (hh : h b = some (.inr (11, fs))) (hn : As.length = 3) (hst : st0 = As.reverse ++ .ref b :: rest) (hR : rm.frames + 1 ≤ R.frames ∧ 8 + (6 + 11) + rm.locals ≤ R.locals) (hW : (rest.map fun v => v.category).sum ≤ 8) (hf : cells + rm.cells ≤ R.cells ∧ slots + rm.slots ≤ R.slots) (hsk : ∀ r, (mk r).toList ++ rest = sk r) (kk : ∀ (r : ρ) (h' : zz_H) (n' : Nat), post r h' n' → zz_W D zz_cl B p l e R s m args below meth c Q h' n' (cells + rm.cells) (slots + rm.slots) L (pc + 3) (sk r)) : zz_W D zz_cl B p l e R s m args below meth c Q h n cells slots L pc st0 :=
  z_callV F C wd_1112 wd_6 wd_1109 wd_1111 (zz_wp (y := yy_Q_parts) (k := 46) (by decide +kernel) (by decide +kernel)) ⟨by decide, by decide, by decide +kernel⟩ rfl rfl d hM hh hn hst hR hW hf hsk kk
theorem iv_Q_170 (F : zz_F B zz_tb X) (C : zz_C D zz_cl (zz_ty dA) B zz_tb X p s m args meth c cc RR_Q ret nm) {rm : Room} {As st0 : List Value} {sk : ρ → List Value} {b : Nat} {fs : List Value} (d : decode cc pc = .ok (.invokevirtual 170, 3)) (hM : zz_M l D zz_cl (zz_ty dA) B zz_tb X yy_Q_firstMethod (Cond.code yy_Q_firstMethod prog_14_method_21_code 5 (some FieldType.int)) rm (.ref b :: As) h n mk post) (hh : h b = some (.inr (11, fs))) (hn : As.length = 1) (hst : st0 = As.reverse ++ .ref b :: rest) (hR : rm.frames + 1 ≤ R.frames ∧ 8 + (5 + 11) + rm.locals ≤ R.locals) (hW : (rest.map fun v => v.category).sum ≤ 8) (hf : cells + rm.cells ≤ R.cells ∧ slots + rm.slots ≤ R.slots) (hsk : ∀ r, (mk r).toList ++ rest = sk r) (kk : ∀ (r : ρ) (h' : zz_H) (n' : Nat), post r h' n' → zz_W D zz_cl B p l e R s m args below meth c Q h' n' (cells + rm.cells) (slots + rm.slots) L (pc + 3) (sk r)) : zz_W D zz_cl B p l e R s m args below meth c Q h n cells slots L pc st0 :=
  z_callV F C wd_1132 wd_6 wd_1129 wd_1131 (zz_wp (y := yy_Q_firstMethod) (k := 46) (by decide +kernel) (by decide +kernel)) ⟨by decide, by decide, by decide +kernel⟩ rfl rfl d hM hh hn hst hR hW hf hsk kk
theorem iv_Q_173 (F : zz_F B zz_tb X) (C : zz_C D zz_cl (zz_ty dA) B zz_tb X p s m args meth c cc RR_Q ret nm) {rm : Room} {As st0 : List Value} {sk : ρ → List Value} {b : Nat} {fs : List Value} (d : decode cc pc = .ok (.invokevirtual 173, 3)) (hM : zz_M l D zz_cl (zz_ty dA) B zz_tb X yy_Q_know (Cond.code yy_Q_know prog_14_method_20_code 5 none) rm (.ref b :: As) h n mk post) (hh : h b = some (.inr (11, fs))) (hn : As.length = 1) (hst : st0 = As.reverse ++ .ref b :: rest) (hR : rm.frames + 1 ≤ R.frames ∧ 8 + (5 + 11) + rm.locals ≤ R.locals) (hW : (rest.map fun v => v.category).sum ≤ 8) (hf : cells + rm.cells ≤ R.cells ∧ slots + rm.slots ≤ R.slots) (hsk : ∀ r, (mk r).toList ++ rest = sk r) (kk : ∀ (r : ρ) (h' : zz_H) (n' : Nat), post r h' n' → zz_W D zz_cl B p l e R s m args below meth c Q h' n' (cells + rm.cells) (slots + rm.slots) L (pc + 3) (sk r)) : zz_W D zz_cl B p l e R s m args below meth c Q h n cells slots L pc st0 :=
  z_callV F C wd_1080 wd_6 wd_1077 wd_1079 (zz_wp (y := yy_Q_know) (k := 46) (by decide +kernel) (by decide +kernel)) ⟨by decide, by decide, by decide +kernel⟩ rfl rfl d hM hh hn hst hR hW hf hsk kk
theorem iv_Q_176 (F : zz_F B zz_tb X) (C : zz_C D zz_cl (zz_ty dA) B zz_tb X p s m args meth c cc RR_Q ret nm) {rm : Room} {As st0 : List Value} {sk : ρ → List Value} {b : Nat} {fs : List Value} (d : decode cc pc = .ok (.invokevirtual 176, 3)) (hM : zz_M l D zz_cl (zz_ty dA) B zz_tb X yy_Q_isRow (Cond.code yy_Q_isRow prog_14_method_23_code 4 (some FieldType.boolean)) rm (.ref b :: As) h n mk post) (hh : h b = some (.inr (11, fs))) (hn : As.length = 3) (hst : st0 = As.reverse ++ .ref b :: rest) (hR : rm.frames + 1 ≤ R.frames ∧ 8 + (4 + 11) + rm.locals ≤ R.locals) (hW : (rest.map fun v => v.category).sum ≤ 8) (hf : cells + rm.cells ≤ R.cells ∧ slots + rm.slots ≤ R.slots) (hsk : ∀ r, (mk r).toList ++ rest = sk r) (kk : ∀ (r : ρ) (h' : zz_H) (n' : Nat), post r h' n' → zz_W D zz_cl B p l e R s m args below meth c Q h' n' (cells + rm.cells) (slots + rm.slots) L (pc + 3) (sk r)) : zz_W D zz_cl B p l e R s m args below meth c Q h n cells slots L pc st0 :=
  z_callV F C wd_1120 wd_6 wd_1117 wd_1119 (zz_wp (y := yy_Q_isRow) (k := 46) (by decide +kernel) (by decide +kernel)) ⟨by decide, by decide, by decide +kernel⟩ rfl rfl d hM hh hn hst hR hW hf hsk kk
theorem iv_Q_179 (F : zz_F B zz_tb X) (C : zz_C D zz_cl (zz_ty dA) B zz_tb X p s m args meth c cc RR_Q ret nm) {rm : Room} {As st0 : List Value} {sk : ρ → List Value} {b : Nat} {fs : List Value} (d : decode cc pc = .ok (.invokevirtual 179, 3)) (hM : zz_M l D zz_cl (zz_ty dA) B zz_tb X yy_Q_row (Cond.code yy_Q_row prog_14_method_13_code 4 (some FieldType.int)) rm (.ref b :: As) h n mk post) (hh : h b = some (.inr (11, fs))) (hn : As.length = 3) (hst : st0 = As.reverse ++ .ref b :: rest) (hR : rm.frames + 1 ≤ R.frames ∧ 8 + (4 + 11) + rm.locals ≤ R.locals) (hW : (rest.map fun v => v.category).sum ≤ 8) (hf : cells + rm.cells ≤ R.cells ∧ slots + rm.slots ≤ R.slots) (hsk : ∀ r, (mk r).toList ++ rest = sk r) (kk : ∀ (r : ρ) (h' : zz_H) (n' : Nat), post r h' n' → zz_W D zz_cl B p l e R s m args below meth c Q h' n' (cells + rm.cells) (slots + rm.slots) L (pc + 3) (sk r)) : zz_W D zz_cl B p l e R s m args below meth c Q h n cells slots L pc st0 :=
  z_callV F C wd_1124 wd_6 wd_1121 wd_1123 (zz_wp (y := yy_Q_row) (k := 46) (by decide +kernel) (by decide +kernel)) ⟨by decide, by decide, by decide +kernel⟩ rfl rfl d hM hh hn hst hR hW hf hsk kk
theorem iv_Q_183 (F : zz_F B zz_tb X) (C : zz_C D zz_cl (zz_ty dA) B zz_tb X p s m args meth c cc RR_Q ret nm) {rm : Room} {As st0 : List Value} {sk : ρ → List Value} {b : Nat} {fs : List Value} (d : decode cc pc = .ok (.invokevirtual 183, 3)) (hM : zz_M l D zz_cl (zz_ty dA) B zz_tb X yy_Q_bestAt (Cond.code yy_Q_bestAt prog_14_method_22_code 3 (some FieldType.int)) rm (.ref b :: As) h n mk post) (hh : h b = some (.inr (11, fs))) (hn : As.length = 2) (hst : st0 = As.reverse ++ .ref b :: rest) (hR : rm.frames + 1 ≤ R.frames ∧ 8 + (3 + 11) + rm.locals ≤ R.locals) (hW : (rest.map fun v => v.category).sum ≤ 8) (hf : cells + rm.cells ≤ R.cells ∧ slots + rm.slots ≤ R.slots) (hsk : ∀ r, (mk r).toList ++ rest = sk r) (kk : ∀ (r : ρ) (h' : zz_H) (n' : Nat), post r h' n' → zz_W D zz_cl B p l e R s m args below meth c Q h' n' (cells + rm.cells) (slots + rm.slots) L (pc + 3) (sk r)) : zz_W D zz_cl B p l e R s m args below meth c Q h n cells slots L pc st0 :=
  z_callV F C wd_1128 wd_6 wd_1125 wd_1127 (zz_wp (y := yy_Q_bestAt) (k := 46) (by decide +kernel) (by decide +kernel)) ⟨by decide, by decide, by decide +kernel⟩ rfl rfl d hM hh hn hst hR hW hf hsk kk
theorem iv_Q_192 (F : zz_F B zz_tb X) (C : zz_C D zz_cl (zz_ty dA) B zz_tb X p s m args meth c cc RR_Q ret nm) {rm : Room} {As st0 : List Value} {sk : ρ → List Value} {b : Nat} {fs : List Value} (d : decode cc pc = .ok (.invokevirtual 192, 3)) (hM : zz_M l D zz_cl (zz_ty dA) B zz_tb X yy_Q_hasTest (Cond.code yy_Q_hasTest prog_14_method_28_code 4 (some FieldType.boolean)) rm (.ref b :: As) h n mk post) (hh : h b = some (.inr (11, fs))) (hn : As.length = 2) (hst : st0 = As.reverse ++ .ref b :: rest) (hR : rm.frames + 1 ≤ R.frames ∧ 8 + (4 + 11) + rm.locals ≤ R.locals) (hW : (rest.map fun v => v.category).sum ≤ 8) (hf : cells + rm.cells ≤ R.cells ∧ slots + rm.slots ≤ R.slots) (hsk : ∀ r, (mk r).toList ++ rest = sk r) (kk : ∀ (r : ρ) (h' : zz_H) (n' : Nat), post r h' n' → zz_W D zz_cl B p l e R s m args below meth c Q h' n' (cells + rm.cells) (slots + rm.slots) L (pc + 3) (sk r)) : zz_W D zz_cl B p l e R s m args below meth c Q h n cells slots L pc st0 :=
  z_callV F C wd_1152 wd_6 wd_1149 wd_1151 (zz_wp (y := yy_Q_hasTest) (k := 46) (by decide +kernel) (by decide +kernel)) ⟨by decide, by decide, by decide +kernel⟩ rfl rfl d hM hh hn hst hR hW hf hsk kk
theorem iv_Q_195 (F : zz_F B zz_tb X) (C : zz_C D zz_cl (zz_ty dA) B zz_tb X p s m args meth c cc RR_Q ret nm) {rm : Room} {As st0 : List Value} {sk : ρ → List Value} {b : Nat} {fs : List Value} (d : decode cc pc = .ok (.invokevirtual 195, 3)) (hM : zz_M l D zz_cl (zz_ty dA) B zz_tb X yy_Q_inTree (Cond.code yy_Q_inTree prog_14_method_31_code 3 (some FieldType.boolean)) rm (.ref b :: As) h n mk post) (hh : h b = some (.inr (11, fs))) (hn : As.length = 2) (hst : st0 = As.reverse ++ .ref b :: rest) (hR : rm.frames + 1 ≤ R.frames ∧ 8 + (3 + 11) + rm.locals ≤ R.locals) (hW : (rest.map fun v => v.category).sum ≤ 8) (hf : cells + rm.cells ≤ R.cells ∧ slots + rm.slots ≤ R.slots) (hsk : ∀ r, (mk r).toList ++ rest = sk r) (kk : ∀ (r : ρ) (h' : zz_H) (n' : Nat), post r h' n' → zz_W D zz_cl B p l e R s m args below meth c Q h' n' (cells + rm.cells) (slots + rm.slots) L (pc + 3) (sk r)) : zz_W D zz_cl B p l e R s m args below meth c Q h n cells slots L pc st0 :=
  z_callV F C wd_1168 wd_6 wd_1165 wd_1167 (zz_wp (y := yy_Q_inTree) (k := 46) (by decide +kernel) (by decide +kernel)) ⟨by decide, by decide, by decide +kernel⟩ rfl rfl d hM hh hn hst hR hW hf hsk kk
theorem iv_Q_198 (F : zz_F B zz_tb X) (C : zz_C D zz_cl (zz_ty dA) B zz_tb X p s m args meth c cc RR_Q ret nm) {rm : Room} {As st0 : List Value} {sk : ρ → List Value} {b : Nat} {fs : List Value} (d : decode cc pc = .ok (.invokevirtual 198, 3)) (hM : zz_M l D zz_cl (zz_ty dA) B zz_tb X yy_Q_begin (Cond.code yy_Q_begin prog_14_method_34_code 7 none) rm (.ref b :: As) h n mk post) (hh : h b = some (.inr (11, fs))) (hn : As.length = 4) (hst : st0 = As.reverse ++ .ref b :: rest) (hR : rm.frames + 1 ≤ R.frames ∧ 8 + (7 + 11) + rm.locals ≤ R.locals) (hW : (rest.map fun v => v.category).sum ≤ 8) (hf : cells + rm.cells ≤ R.cells ∧ slots + rm.slots ≤ R.slots) (hsk : ∀ r, (mk r).toList ++ rest = sk r) (kk : ∀ (r : ρ) (h' : zz_H) (n' : Nat), post r h' n' → zz_W D zz_cl B p l e R s m args below meth c Q h' n' (cells + rm.cells) (slots + rm.slots) L (pc + 3) (sk r)) : zz_W D zz_cl B p l e R s m args below meth c Q h n cells slots L pc st0 :=
  z_callV F C wd_1160 wd_6 wd_1157 wd_1159 (zz_wp (y := yy_Q_begin) (k := 46) (by decide +kernel) (by decide +kernel)) ⟨by decide, by decide, by decide +kernel⟩ rfl rfl d hM hh hn hst hR hW hf hsk kk
theorem iv_Q_202 (F : zz_F B zz_tb X) (C : zz_C D zz_cl (zz_ty dA) B zz_tb X p s m args meth c cc RR_Q ret nm) {rm : Room} {As st0 : List Value} {sk : ρ → List Value} {b : Nat} {fs : List Value} (d : decode cc pc = .ok (.invokevirtual 202, 3)) (hM : zz_M l D zz_cl (zz_ty dA) B zz_tb X yy_Q_common (Cond.code yy_Q_common prog_14_method_32_code 6 (some FieldType.int)) rm (.ref b :: As) h n mk post) (hh : h b = some (.inr (11, fs))) (hn : As.length = 2) (hst : st0 = As.reverse ++ .ref b :: rest) (hR : rm.frames + 1 ≤ R.frames ∧ 8 + (6 + 11) + rm.locals ≤ R.locals) (hW : (rest.map fun v => v.category).sum ≤ 8) (hf : cells + rm.cells ≤ R.cells ∧ slots + rm.slots ≤ R.slots) (hsk : ∀ r, (mk r).toList ++ rest = sk r) (kk : ∀ (r : ρ) (h' : zz_H) (n' : Nat), post r h' n' → zz_W D zz_cl B p l e R s m args below meth c Q h' n' (cells + rm.cells) (slots + rm.slots) L (pc + 3) (sk r)) : zz_W D zz_cl B p l e R s m args below meth c Q h n cells slots L pc st0 :=
  z_callV F C wd_1164 wd_6 wd_1161 wd_1163 (zz_wp (y := yy_Q_common) (k := 46) (by decide +kernel) (by decide +kernel)) ⟨by decide, by decide, by decide +kernel⟩ rfl rfl d hM hh hn hst hR hW hf hsk kk
theorem iv_Q_205 (F : zz_F B zz_tb X) (C : zz_C D zz_cl (zz_ty dA) B zz_tb X p s m args meth c cc RR_Q ret nm) {rm : Room} {As st0 : List Value} {sk : ρ → List Value} {b : Nat} {fs : List Value} (d : decode cc pc = .ok (.invokevirtual 205, 3)) (hM : zz_M l D zz_cl (zz_ty dA) B zz_tb X yy_Q_made (Cond.code yy_Q_made prog_14_method_30_code 6 (some FieldType.int)) rm (.ref b :: As) h n mk post) (hh : h b = some (.inr (11, fs))) (hn : As.length = 4) (hst : st0 = As.reverse ++ .ref b :: rest) (hR : rm.frames + 1 ≤ R.frames ∧ 8 + (6 + 11) + rm.locals ≤ R.locals) (hW : (rest.map fun v => v.category).sum ≤ 8) (hf : cells + rm.cells ≤ R.cells ∧ slots + rm.slots ≤ R.slots) (hsk : ∀ r, (mk r).toList ++ rest = sk r) (kk : ∀ (r : ρ) (h' : zz_H) (n' : Nat), post r h' n' → zz_W D zz_cl B p l e R s m args below meth c Q h' n' (cells + rm.cells) (slots + rm.slots) L (pc + 3) (sk r)) : zz_W D zz_cl B p l e R s m args below meth c Q h n cells slots L pc st0 :=
  z_callV F C wd_1172 wd_6 wd_1169 wd_1171 (zz_wp (y := yy_Q_made) (k := 46) (by decide +kernel) (by decide +kernel)) ⟨by decide, by decide, by decide +kernel⟩ rfl rfl d hM hh hn hst hR hW hf hsk kk
theorem iv_Q_209 (F : zz_F B zz_tb X) (C : zz_C D zz_cl (zz_ty dA) B zz_tb X p s m args meth c cc RR_Q ret nm) {rm : Room} {As st0 : List Value} {sk : ρ → List Value} {b : Nat} {fs : List Value} (d : decode cc pc = .ok (.invokevirtual 209, 3)) (hM : zz_M l D zz_cl (zz_ty dA) B zz_tb X yy_Q_partingTest (Cond.code yy_Q_partingTest prog_14_method_33_code 7 (some FieldType.int)) rm (.ref b :: As) h n mk post) (hh : h b = some (.inr (11, fs))) (hn : As.length = 2) (hst : st0 = As.reverse ++ .ref b :: rest) (hR : rm.frames + 1 ≤ R.frames ∧ 8 + (7 + 11) + rm.locals ≤ R.locals) (hW : (rest.map fun v => v.category).sum ≤ 8) (hf : cells + rm.cells ≤ R.cells ∧ slots + rm.slots ≤ R.slots) (hsk : ∀ r, (mk r).toList ++ rest = sk r) (kk : ∀ (r : ρ) (h' : zz_H) (n' : Nat), post r h' n' → zz_W D zz_cl B p l e R s m args below meth c Q h' n' (cells + rm.cells) (slots + rm.slots) L (pc + 3) (sk r)) : zz_W D zz_cl B p l e R s m args below meth c Q h n cells slots L pc st0 :=
  z_callV F C wd_1176 wd_6 wd_1173 wd_1175 (zz_wp (y := yy_Q_partingTest) (k := 46) (by decide +kernel) (by decide +kernel)) ⟨by decide, by decide, by decide +kernel⟩ rfl rfl d hM hh hn hst hR hW hf hsk kk
theorem iv_Q_212 (F : zz_F B zz_tb X) (C : zz_C D zz_cl (zz_ty dA) B zz_tb X p s m args meth c cc RR_Q ret nm) {rm : Room} {As st0 : List Value} {sk : ρ → List Value} {b : Nat} {fs : List Value} (d : decode cc pc = .ok (.invokevirtual 212, 3)) (hM : zz_M l D zz_cl (zz_ty dA) B zz_tb X yy_Q_gather (Cond.code yy_Q_gather prog_14_method_29_code 5 none) rm (.ref b :: As) h n mk post) (hh : h b = some (.inr (11, fs))) (hn : As.length = 1) (hst : st0 = As.reverse ++ .ref b :: rest) (hR : rm.frames + 1 ≤ R.frames ∧ 8 + (5 + 11) + rm.locals ≤ R.locals) (hW : (rest.map fun v => v.category).sum ≤ 8) (hf : cells + rm.cells ≤ R.cells ∧ slots + rm.slots ≤ R.slots) (hsk : ∀ r, (mk r).toList ++ rest = sk r) (kk : ∀ (r : ρ) (h' : zz_H) (n' : Nat), post r h' n' → zz_W D zz_cl B p l e R s m args below meth c Q h' n' (cells + rm.cells) (slots + rm.slots) L (pc + 3) (sk r)) : zz_W D zz_cl B p l e R s m args below meth c Q h n cells slots L pc st0 :=
  z_callV F C wd_1148 wd_6 wd_1145 wd_1147 (zz_wp (y := yy_Q_gather) (k := 46) (by decide +kernel) (by decide +kernel)) ⟨by decide, by decide, by decide +kernel⟩ rfl rfl d hM hh hn hst hR hW hf hsk kk
theorem iv_Q_215 (F : zz_F B zz_tb X) (C : zz_C D zz_cl (zz_ty dA) B zz_tb X p s m args meth c cc RR_Q ret nm) {rm : Room} {As st0 : List Value} {sk : ρ → List Value} {b : Nat} {fs : List Value} (d : decode cc pc = .ok (.invokevirtual 215, 3)) (hM : zz_M l D zz_cl (zz_ty dA) B zz_tb X yy_Q_build (Cond.code yy_Q_build prog_14_method_35_code 7 (some FieldType.boolean)) rm (.ref b :: As) h n mk post) (hh : h b = some (.inr (11, fs))) (hn : As.length = 1) (hst : st0 = As.reverse ++ .ref b :: rest) (hR : rm.frames + 1 ≤ R.frames ∧ 8 + (7 + 11) + rm.locals ≤ R.locals) (hW : (rest.map fun v => v.category).sum ≤ 8) (hf : cells + rm.cells ≤ R.cells ∧ slots + rm.slots ≤ R.slots) (hsk : ∀ r, (mk r).toList ++ rest = sk r) (kk : ∀ (r : ρ) (h' : zz_H) (n' : Nat), post r h' n' → zz_W D zz_cl B p l e R s m args below meth c Q h' n' (cells + rm.cells) (slots + rm.slots) L (pc + 3) (sk r)) : zz_W D zz_cl B p l e R s m args below meth c Q h n cells slots L pc st0 :=
  z_callV F C wd_1156 wd_6 wd_1153 wd_1155 (zz_wp (y := yy_Q_build) (k := 46) (by decide +kernel) (by decide +kernel)) ⟨by decide, by decide, by decide +kernel⟩ rfl rfl d hM hh hn hst hR hW hf hsk kk
theorem iv_Q_219 (F : zz_F B zz_tb X) (C : zz_C D zz_cl (zz_ty dA) B zz_tb X p s m args meth c cc RR_Q ret nm) {rm : Room} {As st0 : List Value} {sk : ρ → List Value} {b : Nat} {fs : List Value} (d : decode cc pc = .ok (.invokevirtual 219, 3)) (hM : zz_M l D zz_cl (zz_ty dA) B zz_tb X yy_Q_fail (Cond.code yy_Q_fail prog_14_method_4_code 2 (some FieldType.int)) rm (.ref b :: As) h n mk post) (hh : h b = some (.inr (11, fs))) (hn : As.length = 1) (hst : st0 = As.reverse ++ .ref b :: rest) (hR : rm.frames + 1 ≤ R.frames ∧ 8 + (2 + 11) + rm.locals ≤ R.locals) (hW : (rest.map fun v => v.category).sum ≤ 8) (hf : cells + rm.cells ≤ R.cells ∧ slots + rm.slots ≤ R.slots) (hsk : ∀ r, (mk r).toList ++ rest = sk r) (kk : ∀ (r : ρ) (h' : zz_H) (n' : Nat), post r h' n' → zz_W D zz_cl B p l e R s m args below meth c Q h' n' (cells + rm.cells) (slots + rm.slots) L (pc + 3) (sk r)) : zz_W D zz_cl B p l e R s m args below meth c Q h n cells slots L pc st0 :=
  z_callV F C wd_1180 wd_6 wd_1177 wd_1179 (zz_wp (y := yy_Q_fail) (k := 46) (by decide +kernel) (by decide +kernel)) ⟨by decide, by decide, by decide +kernel⟩ rfl rfl d hM hh hn hst hR hW hf hsk kk
theorem iv_Q_234 (F : zz_F B zz_tb X) (C : zz_C D zz_cl (zz_ty dA) B zz_tb X p s m args meth c cc RR_Q ret nm) {rm : Room} {As st0 : List Value} {sk : ρ → List Value} {b : Nat} {fs : List Value} (d : decode cc pc = .ok (.invokevirtual 234, 3)) (hM : zz_M l D zz_cl (zz_ty dA) B zz_tb X yy_Q_spends (Cond.code yy_Q_spends prog_14_method_40_code 1 (some FieldType.boolean)) rm (.ref b :: As) h n mk post) (hh : h b = some (.inr (11, fs))) (hn : As.length = 0) (hst : st0 = As.reverse ++ .ref b :: rest) (hR : rm.frames + 1 ≤ R.frames ∧ 8 + (1 + 11) + rm.locals ≤ R.locals) (hW : (rest.map fun v => v.category).sum ≤ 8) (hf : cells + rm.cells ≤ R.cells ∧ slots + rm.slots ≤ R.slots) (hsk : ∀ r, (mk r).toList ++ rest = sk r) (kk : ∀ (r : ρ) (h' : zz_H) (n' : Nat), post r h' n' → zz_W D zz_cl B p l e R s m args below meth c Q h' n' (cells + rm.cells) (slots + rm.slots) L (pc + 3) (sk r)) : zz_W D zz_cl B p l e R s m args below meth c Q h n cells slots L pc st0 :=
  z_callV F C wd_1200 wd_6 wd_1197 wd_1199 (zz_wp (y := yy_Q_spends) (k := 46) (by decide +kernel) (by decide +kernel)) ⟨by decide, by decide, by decide +kernel⟩ rfl rfl d hM hh hn hst hR hW hf hsk kk
theorem iv_Q_238 (F : zz_F B zz_tb X) (C : zz_C D zz_cl (zz_ty dA) B zz_tb X p s m args meth c cc RR_Q ret nm) {rm : Room} {As st0 : List Value} {sk : ρ → List Value} {b : Nat} {fs : List Value} (d : decode cc pc = .ok (.invokevirtual 238, 3)) (hM : zz_M l D zz_cl (zz_ty dA) B zz_tb X yy_Q_choose (Cond.code yy_Q_choose prog_14_method_39_code 6 (some FieldType.int)) rm (.ref b :: As) h n mk post) (hh : h b = some (.inr (11, fs))) (hn : As.length = 3) (hst : st0 = As.reverse ++ .ref b :: rest) (hR : rm.frames + 1 ≤ R.frames ∧ 8 + (6 + 11) + rm.locals ≤ R.locals) (hW : (rest.map fun v => v.category).sum ≤ 8) (hf : cells + rm.cells ≤ R.cells ∧ slots + rm.slots ≤ R.slots) (hsk : ∀ r, (mk r).toList ++ rest = sk r) (kk : ∀ (r : ρ) (h' : zz_H) (n' : Nat), post r h' n' → zz_W D zz_cl B p l e R s m args below meth c Q h' n' (cells + rm.cells) (slots + rm.slots) L (pc + 3) (sk r)) : zz_W D zz_cl B p l e R s m args below meth c Q h n cells slots L pc st0 :=
  z_callV F C wd_1204 wd_6 wd_1201 wd_1203 (zz_wp (y := yy_Q_choose) (k := 46) (by decide +kernel) (by decide +kernel)) ⟨by decide, by decide, by decide +kernel⟩ rfl rfl d hM hh hn hst hR hW hf hsk kk
theorem iv_Q_241 (F : zz_F B zz_tb X) (C : zz_C D zz_cl (zz_ty dA) B zz_tb X p s m args meth c cc RR_Q ret nm) {rm : Room} {As st0 : List Value} {sk : ρ → List Value} {b : Nat} {fs : List Value} (d : decode cc pc = .ok (.invokevirtual 241, 3)) (hM : zz_M l D zz_cl (zz_ty dA) B zz_tb X yy_Q_push (Cond.code yy_Q_push prog_14_method_42_code 3 none) rm (.ref b :: As) h n mk post) (hh : h b = some (.inr (11, fs))) (hn : As.length = 2) (hst : st0 = As.reverse ++ .ref b :: rest) (hR : rm.frames + 1 ≤ R.frames ∧ 8 + (3 + 11) + rm.locals ≤ R.locals) (hW : (rest.map fun v => v.category).sum ≤ 8) (hf : cells + rm.cells ≤ R.cells ∧ slots + rm.slots ≤ R.slots) (hsk : ∀ r, (mk r).toList ++ rest = sk r) (kk : ∀ (r : ρ) (h' : zz_H) (n' : Nat), post r h' n' → zz_W D zz_cl B p l e R s m args below meth c Q h' n' (cells + rm.cells) (slots + rm.slots) L (pc + 3) (sk r)) : zz_W D zz_cl B p l e R s m args below meth c Q h n cells slots L pc st0 :=
  z_callV F C wd_1212 wd_6 wd_1209 wd_1211 (zz_wp (y := yy_Q_push) (k := 46) (by decide +kernel) (by decide +kernel)) ⟨by decide, by decide, by decide +kernel⟩ rfl rfl d hM hh hn hst hR hW hf hsk kk
theorem iv_Q_245 (F : zz_F B zz_tb X) (C : zz_C D zz_cl (zz_ty dA) B zz_tb X p s m args meth c cc RR_Q ret nm) {rm : Room} {As st0 : List Value} {sk : ρ → List Value} {b : Nat} {fs : List Value} (d : decode cc pc = .ok (.invokevirtual 245, 3)) (hM : zz_M l D zz_cl (zz_ty dA) B zz_tb X yy_Q_call (Cond.code yy_Q_call prog_14_method_41_code 6 none) rm (.ref b :: As) h n mk post) (hh : h b = some (.inr (11, fs))) (hn : As.length = 4) (hst : st0 = As.reverse ++ .ref b :: rest) (hR : rm.frames + 1 ≤ R.frames ∧ 8 + (6 + 11) + rm.locals ≤ R.locals) (hW : (rest.map fun v => v.category).sum ≤ 8) (hf : cells + rm.cells ≤ R.cells ∧ slots + rm.slots ≤ R.slots) (hsk : ∀ r, (mk r).toList ++ rest = sk r) (kk : ∀ (r : ρ) (h' : zz_H) (n' : Nat), post r h' n' → zz_W D zz_cl B p l e R s m args below meth c Q h' n' (cells + rm.cells) (slots + rm.slots) L (pc + 3) (sk r)) : zz_W D zz_cl B p l e R s m args below meth c Q h n cells slots L pc st0 :=
  z_callV F C wd_1196 wd_6 wd_1193 wd_1195 (zz_wp (y := yy_Q_call) (k := 46) (by decide +kernel) (by decide +kernel)) ⟨by decide, by decide, by decide +kernel⟩ rfl rfl d hM hh hn hst hR hW hf hsk kk
theorem iv_Q_249 (F : zz_F B zz_tb X) (C : zz_C D zz_cl (zz_ty dA) B zz_tb X p s m args meth c cc RR_Q ret nm) {rm : Room} {As st0 : List Value} {sk : ρ → List Value} {b : Nat} {fs : List Value} (d : decode cc pc = .ok (.invokevirtual 249, 3)) (hM : zz_M l D zz_cl (zz_ty dA) B zz_tb X yy_Q_perform (Cond.code yy_Q_perform prog_14_method_43_code 9 none) rm (.ref b :: As) h n mk post) (hh : h b = some (.inr (11, fs))) (hn : As.length = 0) (hst : st0 = As.reverse ++ .ref b :: rest) (hR : rm.frames + 1 ≤ R.frames ∧ 8 + (9 + 11) + rm.locals ≤ R.locals) (hW : (rest.map fun v => v.category).sum ≤ 8) (hf : cells + rm.cells ≤ R.cells ∧ slots + rm.slots ≤ R.slots) (hsk : ∀ r, (mk r).toList ++ rest = sk r) (kk : ∀ (r : ρ) (h' : zz_H) (n' : Nat), post r h' n' → zz_W D zz_cl B p l e R s m args below meth c Q h' n' (cells + rm.cells) (slots + rm.slots) L (pc + 3) (sk r)) : zz_W D zz_cl B p l e R s m args below meth c Q h n cells slots L pc st0 :=
  z_callV F C wd_1208 wd_6 wd_1205 wd_1207 (zz_wp (y := yy_Q_perform) (k := 46) (by decide +kernel) (by decide +kernel)) ⟨by decide, by decide, by decide +kernel⟩ rfl rfl d hM hh hn hst hR hW hf hsk kk
theorem pf_Q_7 (C : zz_C D zz_cl (zz_ty dA) B zz_tb X p s m args meth c cc RR_Q ret nm) {a : Nat} {fs : List Value} {v : Value} (d : decode cc pc = .ok (.putfield 7, 3)) (hh : h a = some (.inr (11, fs))) (hl : 1 < fs.length) (hn : narrow (.int) v = v) (hf : fits (.int) v = true) (k9 : zz_W D zz_cl B p l e R s m args below meth c Q (zz_up h a (.inr (11, fs.set 1 v))) n cells slots L (pc + 3) rest) : zz_W D zz_cl B p l e R s m args below meth c Q h n cells slots L pc (v :: .ref a :: rest) := z_put (ty := .int) (k := 1) C tt_Q rfl in_Q tk_Q nn_Q (by decide) wd_903 rfl rfl (by decide +kernel) d hh hl hn hf k9
theorem pf_Q_13 (C : zz_C D zz_cl (zz_ty dA) B zz_tb X p s m args meth c cc RR_Q ret "<init>") {a : Nat} {fs : List Value} {v : Value} (d : decode cc pc = .ok (.putfield 13, 3)) (hh : h a = some (.inr (11, fs))) (hl : 2 < fs.length) (hn : narrow (.array (.int)) v = v) (hf : fits (.array (.int)) v = true) (k9 : zz_W D zz_cl B p l e R s m args below meth c Q (zz_up h a (.inr (11, fs.set 2 v))) n cells slots L (pc + 3) rest) : zz_W D zz_cl B p l e R s m args below meth c Q h n cells slots L pc (v :: .ref a :: rest) := z_putF (ty := .array (.int)) (k := 2) C tt_Q rfl in_Q tk_Q nn_Q (by decide) wd_904 rfl rfl rfl rfl (by decide +kernel) d hh hl hn hf k9
theorem pf_Q_17 (C : zz_C D zz_cl (zz_ty dA) B zz_tb X p s m args meth c cc RR_Q ret "<init>") {a : Nat} {fs : List Value} {v : Value} (d : decode cc pc = .ok (.putfield 17, 3)) (hh : h a = some (.inr (11, fs))) (hl : 4 < fs.length) (hn : narrow (.array (.int)) v = v) (hf : fits (.array (.int)) v = true) (k9 : zz_W D zz_cl B p l e R s m args below meth c Q (zz_up h a (.inr (11, fs.set 4 v))) n cells slots L (pc + 3) rest) : zz_W D zz_cl B p l e R s m args below meth c Q h n cells slots L pc (v :: .ref a :: rest) := z_putF (ty := .array (.int)) (k := 4) C tt_Q rfl in_Q tk_Q nn_Q (by decide) wd_906 rfl rfl rfl rfl (by decide +kernel) d hh hl hn hf k9
theorem pf_Q_20 (C : zz_C D zz_cl (zz_ty dA) B zz_tb X p s m args meth c cc RR_Q ret "<init>") {a : Nat} {fs : List Value} {v : Value} (d : decode cc pc = .ok (.putfield 20, 3)) (hh : h a = some (.inr (11, fs))) (hl : 6 < fs.length) (hn : narrow (.array (.int)) v = v) (hf : fits (.array (.int)) v = true) (k9 : zz_W D zz_cl B p l e R s m args below meth c Q (zz_up h a (.inr (11, fs.set 6 v))) n cells slots L (pc + 3) rest) : zz_W D zz_cl B p l e R s m args below meth c Q h n cells slots L pc (v :: .ref a :: rest) := z_putF (ty := .array (.int)) (k := 6) C tt_Q rfl in_Q tk_Q nn_Q (by decide) wd_908 rfl rfl rfl rfl (by decide +kernel) d hh hl hn hf k9
theorem pf_Q_23 (C : zz_C D zz_cl (zz_ty dA) B zz_tb X p s m args meth c cc RR_Q ret "<init>") {a : Nat} {fs : List Value} {v : Value} (d : decode cc pc = .ok (.putfield 23, 3)) (hh : h a = some (.inr (11, fs))) (hl : 7 < fs.length) (hn : narrow (.array (.int)) v = v) (hf : fits (.array (.int)) v = true) (k9 : zz_W D zz_cl B p l e R s m args below meth c Q (zz_up h a (.inr (11, fs.set 7 v))) n cells slots L (pc + 3) rest) : zz_W D zz_cl B p l e R s m args below meth c Q h n cells slots L pc (v :: .ref a :: rest) := z_putF (ty := .array (.int)) (k := 7) C tt_Q rfl in_Q tk_Q nn_Q (by decide) wd_909 rfl rfl rfl rfl (by decide +kernel) d hh hl hn hf k9
theorem pf_Q_26 (C : zz_C D zz_cl (zz_ty dA) B zz_tb X p s m args meth c cc RR_Q ret "<init>") {a : Nat} {fs : List Value} {v : Value} (d : decode cc pc = .ok (.putfield 26, 3)) (hh : h a = some (.inr (11, fs))) (hl : 8 < fs.length) (hn : narrow (.array (.int)) v = v) (hf : fits (.array (.int)) v = true) (k9 : zz_W D zz_cl B p l e R s m args below meth c Q (zz_up h a (.inr (11, fs.set 8 v))) n cells slots L (pc + 3) rest) : zz_W D zz_cl B p l e R s m args below meth c Q h n cells slots L pc (v :: .ref a :: rest) := z_putF (ty := .array (.int)) (k := 8) C tt_Q rfl in_Q tk_Q nn_Q (by decide) wd_910 rfl rfl rfl rfl (by decide +kernel) d hh hl hn hf k9
theorem pf_Q_29 (C : zz_C D zz_cl (zz_ty dA) B zz_tb X p s m args meth c cc RR_Q ret "<init>") {a : Nat} {fs : List Value} {v : Value} (d : decode cc pc = .ok (.putfield 29, 3)) (hh : h a = some (.inr (11, fs))) (hl : 9 < fs.length) (hn : narrow (.array (.int)) v = v) (hf : fits (.array (.int)) v = true) (k9 : zz_W D zz_cl B p l e R s m args below meth c Q (zz_up h a (.inr (11, fs.set 9 v))) n cells slots L (pc + 3) rest) : zz_W D zz_cl B p l e R s m args below meth c Q h n cells slots L pc (v :: .ref a :: rest) := z_putF (ty := .array (.int)) (k := 9) C tt_Q rfl in_Q tk_Q nn_Q (by decide) wd_911 rfl rfl rfl rfl (by decide +kernel) d hh hl hn hf k9
theorem pf_Q_32 (C : zz_C D zz_cl (zz_ty dA) B zz_tb X p s m args meth c cc RR_Q ret "<init>") {a : Nat} {fs : List Value} {v : Value} (d : decode cc pc = .ok (.putfield 32, 3)) (hh : h a = some (.inr (11, fs))) (hl : 10 < fs.length) (hn : narrow (.array (.int)) v = v) (hf : fits (.array (.int)) v = true) (k9 : zz_W D zz_cl B p l e R s m args below meth c Q (zz_up h a (.inr (11, fs.set 10 v))) n cells slots L (pc + 3) rest) : zz_W D zz_cl B p l e R s m args below meth c Q h n cells slots L pc (v :: .ref a :: rest) := z_putF (ty := .array (.int)) (k := 10) C tt_Q rfl in_Q tk_Q nn_Q (by decide) wd_912 rfl rfl rfl rfl (by decide +kernel) d hh hl hn hf k9
theorem pf_Q_35 (C : zz_C D zz_cl (zz_ty dA) B zz_tb X p s m args meth c cc RR_Q ret "<init>") {a : Nat} {fs : List Value} {v : Value} (d : decode cc pc = .ok (.putfield 35, 3)) (hh : h a = some (.inr (11, fs))) (hl : 11 < fs.length) (hn : narrow (.array (.boolean)) v = v) (hf : fits (.array (.boolean)) v = true) (k9 : zz_W D zz_cl B p l e R s m args below meth c Q (zz_up h a (.inr (11, fs.set 11 v))) n cells slots L (pc + 3) rest) : zz_W D zz_cl B p l e R s m args below meth c Q h n cells slots L pc (v :: .ref a :: rest) := z_putF (ty := .array (.boolean)) (k := 11) C tt_Q rfl in_Q tk_Q nn_Q (by decide) wd_913 rfl rfl rfl rfl (by decide +kernel) d hh hl hn hf k9
theorem pf_Q_39 (C : zz_C D zz_cl (zz_ty dA) B zz_tb X p s m args meth c cc RR_Q ret "<init>") {a : Nat} {fs : List Value} {v : Value} (d : decode cc pc = .ok (.putfield 39, 3)) (hh : h a = some (.inr (11, fs))) (hl : 12 < fs.length) (hn : narrow (.array (.int)) v = v) (hf : fits (.array (.int)) v = true) (k9 : zz_W D zz_cl B p l e R s m args below meth c Q (zz_up h a (.inr (11, fs.set 12 v))) n cells slots L (pc + 3) rest) : zz_W D zz_cl B p l e R s m args below meth c Q h n cells slots L pc (v :: .ref a :: rest) := z_putF (ty := .array (.int)) (k := 12) C tt_Q rfl in_Q tk_Q nn_Q (by decide) wd_914 rfl rfl rfl rfl (by decide +kernel) d hh hl hn hf k9
theorem pf_Q_42 (C : zz_C D zz_cl (zz_ty dA) B zz_tb X p s m args meth c cc RR_Q ret "<init>") {a : Nat} {fs : List Value} {v : Value} (d : decode cc pc = .ok (.putfield 42, 3)) (hh : h a = some (.inr (11, fs))) (hl : 13 < fs.length) (hn : narrow (.array (.int)) v = v) (hf : fits (.array (.int)) v = true) (k9 : zz_W D zz_cl B p l e R s m args below meth c Q (zz_up h a (.inr (11, fs.set 13 v))) n cells slots L (pc + 3) rest) : zz_W D zz_cl B p l e R s m args below meth c Q h n cells slots L pc (v :: .ref a :: rest) := z_putF (ty := .array (.int)) (k := 13) C tt_Q rfl in_Q tk_Q nn_Q (by decide) wd_915 rfl rfl rfl rfl (by decide +kernel) d hh hl hn hf k9
theorem pf_Q_45 (C : zz_C D zz_cl (zz_ty dA) B zz_tb X p s m args meth c cc RR_Q ret "<init>") {a : Nat} {fs : List Value} {v : Value} (d : decode cc pc = .ok (.putfield 45, 3)) (hh : h a = some (.inr (11, fs))) (hl : 14 < fs.length) (hn : narrow (.array (.int)) v = v) (hf : fits (.array (.int)) v = true) (k9 : zz_W D zz_cl B p l e R s m args below meth c Q (zz_up h a (.inr (11, fs.set 14 v))) n cells slots L (pc + 3) rest) : zz_W D zz_cl B p l e R s m args below meth c Q h n cells slots L pc (v :: .ref a :: rest) := z_putF (ty := .array (.int)) (k := 14) C tt_Q rfl in_Q tk_Q nn_Q (by decide) wd_916 rfl rfl rfl rfl (by decide +kernel) d hh hl hn hf k9
theorem pf_Q_48 (C : zz_C D zz_cl (zz_ty dA) B zz_tb X p s m args meth c cc RR_Q ret "<init>") {a : Nat} {fs : List Value} {v : Value} (d : decode cc pc = .ok (.putfield 48, 3)) (hh : h a = some (.inr (11, fs))) (hl : 15 < fs.length) (hn : narrow (.array (.boolean)) v = v) (hf : fits (.array (.boolean)) v = true) (k9 : zz_W D zz_cl B p l e R s m args below meth c Q (zz_up h a (.inr (11, fs.set 15 v))) n cells slots L (pc + 3) rest) : zz_W D zz_cl B p l e R s m args below meth c Q h n cells slots L pc (v :: .ref a :: rest) := z_putF (ty := .array (.boolean)) (k := 15) C tt_Q rfl in_Q tk_Q nn_Q (by decide) wd_917 rfl rfl rfl rfl (by decide +kernel) d hh hl hn hf k9
theorem pf_Q_51 (C : zz_C D zz_cl (zz_ty dA) B zz_tb X p s m args meth c cc RR_Q ret "<init>") {a : Nat} {fs : List Value} {v : Value} (d : decode cc pc = .ok (.putfield 51, 3)) (hh : h a = some (.inr (11, fs))) (hl : 16 < fs.length) (hn : narrow (.array (.int)) v = v) (hf : fits (.array (.int)) v = true) (k9 : zz_W D zz_cl B p l e R s m args below meth c Q (zz_up h a (.inr (11, fs.set 16 v))) n cells slots L (pc + 3) rest) : zz_W D zz_cl B p l e R s m args below meth c Q h n cells slots L pc (v :: .ref a :: rest) := z_putF (ty := .array (.int)) (k := 16) C tt_Q rfl in_Q tk_Q nn_Q (by decide) wd_918 rfl rfl rfl rfl (by decide +kernel) d hh hl hn hf k9
theorem pf_Q_54 (C : zz_C D zz_cl (zz_ty dA) B zz_tb X p s m args meth c cc RR_Q ret "<init>") {a : Nat} {fs : List Value} {v : Value} (d : decode cc pc = .ok (.putfield 54, 3)) (hh : h a = some (.inr (11, fs))) (hl : 17 < fs.length) (hn : narrow (.array (.int)) v = v) (hf : fits (.array (.int)) v = true) (k9 : zz_W D zz_cl B p l e R s m args below meth c Q (zz_up h a (.inr (11, fs.set 17 v))) n cells slots L (pc + 3) rest) : zz_W D zz_cl B p l e R s m args below meth c Q h n cells slots L pc (v :: .ref a :: rest) := z_putF (ty := .array (.int)) (k := 17) C tt_Q rfl in_Q tk_Q nn_Q (by decide) wd_919 rfl rfl rfl rfl (by decide +kernel) d hh hl hn hf k9
theorem pf_Q_57 (C : zz_C D zz_cl (zz_ty dA) B zz_tb X p s m args meth c cc RR_Q ret "<init>") {a : Nat} {fs : List Value} {v : Value} (d : decode cc pc = .ok (.putfield 57, 3)) (hh : h a = some (.inr (11, fs))) (hl : 21 < fs.length) (hn : narrow (.array (.int)) v = v) (hf : fits (.array (.int)) v = true) (k9 : zz_W D zz_cl B p l e R s m args below meth c Q (zz_up h a (.inr (11, fs.set 21 v))) n cells slots L (pc + 3) rest) : zz_W D zz_cl B p l e R s m args below meth c Q h n cells slots L pc (v :: .ref a :: rest) := z_putF (ty := .array (.int)) (k := 21) C tt_Q rfl in_Q tk_Q nn_Q (by decide) wd_923 rfl rfl rfl rfl (by decide +kernel) d hh hl hn hf k9
theorem pf_Q_60 (C : zz_C D zz_cl (zz_ty dA) B zz_tb X p s m args meth c cc RR_Q ret "<init>") {a : Nat} {fs : List Value} {v : Value} (d : decode cc pc = .ok (.putfield 60, 3)) (hh : h a = some (.inr (11, fs))) (hl : 22 < fs.length) (hn : narrow (.array (.int)) v = v) (hf : fits (.array (.int)) v = true) (k9 : zz_W D zz_cl B p l e R s m args below meth c Q (zz_up h a (.inr (11, fs.set 22 v))) n cells slots L (pc + 3) rest) : zz_W D zz_cl B p l e R s m args below meth c Q h n cells slots L pc (v :: .ref a :: rest) := z_putF (ty := .array (.int)) (k := 22) C tt_Q rfl in_Q tk_Q nn_Q (by decide) wd_924 rfl rfl rfl rfl (by decide +kernel) d hh hl hn hf k9
theorem pf_Q_63 (C : zz_C D zz_cl (zz_ty dA) B zz_tb X p s m args meth c cc RR_Q ret "<init>") {a : Nat} {fs : List Value} {v : Value} (d : decode cc pc = .ok (.putfield 63, 3)) (hh : h a = some (.inr (11, fs))) (hl : 23 < fs.length) (hn : narrow (.array (.int)) v = v) (hf : fits (.array (.int)) v = true) (k9 : zz_W D zz_cl B p l e R s m args below meth c Q (zz_up h a (.inr (11, fs.set 23 v))) n cells slots L (pc + 3) rest) : zz_W D zz_cl B p l e R s m args below meth c Q h n cells slots L pc (v :: .ref a :: rest) := z_putF (ty := .array (.int)) (k := 23) C tt_Q rfl in_Q tk_Q nn_Q (by decide) wd_925 rfl rfl rfl rfl (by decide +kernel) d hh hl hn hf k9
theorem pf_Q_66 (C : zz_C D zz_cl (zz_ty dA) B zz_tb X p s m args meth c cc RR_Q ret "<init>") {a : Nat} {fs : List Value} {v : Value} (d : decode cc pc = .ok (.putfield 66, 3)) (hh : h a = some (.inr (11, fs))) (hl : 24 < fs.length) (hn : narrow (.array (.int)) v = v) (hf : fits (.array (.int)) v = true) (k9 : zz_W D zz_cl B p l e R s m args below meth c Q (zz_up h a (.inr (11, fs.set 24 v))) n cells slots L (pc + 3) rest) : zz_W D zz_cl B p l e R s m args below meth c Q h n cells slots L pc (v :: .ref a :: rest) := z_putF (ty := .array (.int)) (k := 24) C tt_Q rfl in_Q tk_Q nn_Q (by decide) wd_926 rfl rfl rfl rfl (by decide +kernel) d hh hl hn hf k9
theorem pf_Q_69 (C : zz_C D zz_cl (zz_ty dA) B zz_tb X p s m args meth c cc RR_Q ret "<init>") {a : Nat} {fs : List Value} {v : Value} (d : decode cc pc = .ok (.putfield 69, 3)) (hh : h a = some (.inr (11, fs))) (hl : 25 < fs.length) (hn : narrow (.array (.int)) v = v) (hf : fits (.array (.int)) v = true) (k9 : zz_W D zz_cl B p l e R s m args below meth c Q (zz_up h a (.inr (11, fs.set 25 v))) n cells slots L (pc + 3) rest) : zz_W D zz_cl B p l e R s m args below meth c Q h n cells slots L pc (v :: .ref a :: rest) := z_putF (ty := .array (.int)) (k := 25) C tt_Q rfl in_Q tk_Q nn_Q (by decide) wd_927 rfl rfl rfl rfl (by decide +kernel) d hh hl hn hf k9
theorem pf_Q_72 (C : zz_C D zz_cl (zz_ty dA) B zz_tb X p s m args meth c cc RR_Q ret "<init>") {a : Nat} {fs : List Value} {v : Value} (d : decode cc pc = .ok (.putfield 72, 3)) (hh : h a = some (.inr (11, fs))) (hl : 26 < fs.length) (hn : narrow (.array (.int)) v = v) (hf : fits (.array (.int)) v = true) (k9 : zz_W D zz_cl B p l e R s m args below meth c Q (zz_up h a (.inr (11, fs.set 26 v))) n cells slots L (pc + 3) rest) : zz_W D zz_cl B p l e R s m args below meth c Q h n cells slots L pc (v :: .ref a :: rest) := z_putF (ty := .array (.int)) (k := 26) C tt_Q rfl in_Q tk_Q nn_Q (by decide) wd_928 rfl rfl rfl rfl (by decide +kernel) d hh hl hn hf k9
theorem pf_Q_75 (C : zz_C D zz_cl (zz_ty dA) B zz_tb X p s m args meth c cc RR_Q ret "<init>") {a : Nat} {fs : List Value} {v : Value} (d : decode cc pc = .ok (.putfield 75, 3)) (hh : h a = some (.inr (11, fs))) (hl : 27 < fs.length) (hn : narrow (.array (.int)) v = v) (hf : fits (.array (.int)) v = true) (k9 : zz_W D zz_cl B p l e R s m args below meth c Q (zz_up h a (.inr (11, fs.set 27 v))) n cells slots L (pc + 3) rest) : zz_W D zz_cl B p l e R s m args below meth c Q h n cells slots L pc (v :: .ref a :: rest) := z_putF (ty := .array (.int)) (k := 27) C tt_Q rfl in_Q tk_Q nn_Q (by decide) wd_929 rfl rfl rfl rfl (by decide +kernel) d hh hl hn hf k9
theorem pf_Q_78 (C : zz_C D zz_cl (zz_ty dA) B zz_tb X p s m args meth c cc RR_Q ret "<init>") {a : Nat} {fs : List Value} {v : Value} (d : decode cc pc = .ok (.putfield 78, 3)) (hh : h a = some (.inr (11, fs))) (hl : 28 < fs.length) (hn : narrow (.array (.int)) v = v) (hf : fits (.array (.int)) v = true) (k9 : zz_W D zz_cl B p l e R s m args below meth c Q (zz_up h a (.inr (11, fs.set 28 v))) n cells slots L (pc + 3) rest) : zz_W D zz_cl B p l e R s m args below meth c Q h n cells slots L pc (v :: .ref a :: rest) := z_putF (ty := .array (.int)) (k := 28) C tt_Q rfl in_Q tk_Q nn_Q (by decide) wd_930 rfl rfl rfl rfl (by decide +kernel) d hh hl hn hf k9
theorem pf_Q_81 (C : zz_C D zz_cl (zz_ty dA) B zz_tb X p s m args meth c cc RR_Q ret "<init>") {a : Nat} {fs : List Value} {v : Value} (d : decode cc pc = .ok (.putfield 81, 3)) (hh : h a = some (.inr (11, fs))) (hl : 29 < fs.length) (hn : narrow (.array (.long)) v = v) (hf : fits (.array (.long)) v = true) (k9 : zz_W D zz_cl B p l e R s m args below meth c Q (zz_up h a (.inr (11, fs.set 29 v))) n cells slots L (pc + 3) rest) : zz_W D zz_cl B p l e R s m args below meth c Q h n cells slots L pc (v :: .ref a :: rest) := z_putF (ty := .array (.long)) (k := 29) C tt_Q rfl in_Q tk_Q nn_Q (by decide) wd_931 rfl rfl rfl rfl (by decide +kernel) d hh hl hn hf k9
theorem pf_Q_85 (C : zz_C D zz_cl (zz_ty dA) B zz_tb X p s m args meth c cc RR_Q ret "<init>") {a : Nat} {fs : List Value} {v : Value} (d : decode cc pc = .ok (.putfield 85, 3)) (hh : h a = some (.inr (11, fs))) (hl : 30 < fs.length) (hn : narrow (.array (.long)) v = v) (hf : fits (.array (.long)) v = true) (k9 : zz_W D zz_cl B p l e R s m args below meth c Q (zz_up h a (.inr (11, fs.set 30 v))) n cells slots L (pc + 3) rest) : zz_W D zz_cl B p l e R s m args below meth c Q h n cells slots L pc (v :: .ref a :: rest) := z_putF (ty := .array (.long)) (k := 30) C tt_Q rfl in_Q tk_Q nn_Q (by decide) wd_932 rfl rfl rfl rfl (by decide +kernel) d hh hl hn hf k9
theorem pf_Q_88 (C : zz_C D zz_cl (zz_ty dA) B zz_tb X p s m args meth c cc RR_Q ret "<init>") {a : Nat} {fs : List Value} {v : Value} (d : decode cc pc = .ok (.putfield 88, 3)) (hh : h a = some (.inr (11, fs))) (hl : 31 < fs.length) (hn : narrow (.array (.long)) v = v) (hf : fits (.array (.long)) v = true) (k9 : zz_W D zz_cl B p l e R s m args below meth c Q (zz_up h a (.inr (11, fs.set 31 v))) n cells slots L (pc + 3) rest) : zz_W D zz_cl B p l e R s m args below meth c Q h n cells slots L pc (v :: .ref a :: rest) := z_putF (ty := .array (.long)) (k := 31) C tt_Q rfl in_Q tk_Q nn_Q (by decide) wd_933 rfl rfl rfl rfl (by decide +kernel) d hh hl hn hf k9
theorem pf_Q_91 (C : zz_C D zz_cl (zz_ty dA) B zz_tb X p s m args meth c cc RR_Q ret "<init>") {a : Nat} {fs : List Value} {v : Value} (d : decode cc pc = .ok (.putfield 91, 3)) (hh : h a = some (.inr (11, fs))) (hl : 32 < fs.length) (hn : narrow (.array (.int)) v = v) (hf : fits (.array (.int)) v = true) (k9 : zz_W D zz_cl B p l e R s m args below meth c Q (zz_up h a (.inr (11, fs.set 32 v))) n cells slots L (pc + 3) rest) : zz_W D zz_cl B p l e R s m args below meth c Q h n cells slots L pc (v :: .ref a :: rest) := z_putF (ty := .array (.int)) (k := 32) C tt_Q rfl in_Q tk_Q nn_Q (by decide) wd_934 rfl rfl rfl rfl (by decide +kernel) d hh hl hn hf k9
theorem pf_Q_94 (C : zz_C D zz_cl (zz_ty dA) B zz_tb X p s m args meth c cc RR_Q ret "<init>") {a : Nat} {fs : List Value} {v : Value} (d : decode cc pc = .ok (.putfield 94, 3)) (hh : h a = some (.inr (11, fs))) (hl : 33 < fs.length) (hn : narrow (.array (.int)) v = v) (hf : fits (.array (.int)) v = true) (k9 : zz_W D zz_cl B p l e R s m args below meth c Q (zz_up h a (.inr (11, fs.set 33 v))) n cells slots L (pc + 3) rest) : zz_W D zz_cl B p l e R s m args below meth c Q h n cells slots L pc (v :: .ref a :: rest) := z_putF (ty := .array (.int)) (k := 33) C tt_Q rfl in_Q tk_Q nn_Q (by decide) wd_935 rfl rfl rfl rfl (by decide +kernel) d hh hl hn hf k9
theorem pf_Q_97 (C : zz_C D zz_cl (zz_ty dA) B zz_tb X p s m args meth c cc RR_Q ret "<init>") {a : Nat} {fs : List Value} {v : Value} (d : decode cc pc = .ok (.putfield 97, 3)) (hh : h a = some (.inr (11, fs))) (hl : 34 < fs.length) (hn : narrow (.array (.int)) v = v) (hf : fits (.array (.int)) v = true) (k9 : zz_W D zz_cl B p l e R s m args below meth c Q (zz_up h a (.inr (11, fs.set 34 v))) n cells slots L (pc + 3) rest) : zz_W D zz_cl B p l e R s m args below meth c Q h n cells slots L pc (v :: .ref a :: rest) := z_putF (ty := .array (.int)) (k := 34) C tt_Q rfl in_Q tk_Q nn_Q (by decide) wd_936 rfl rfl rfl rfl (by decide +kernel) d hh hl hn hf k9
theorem pf_Q_100 (C : zz_C D zz_cl (zz_ty dA) B zz_tb X p s m args meth c cc RR_Q ret "<init>") {a : Nat} {fs : List Value} {v : Value} (d : decode cc pc = .ok (.putfield 100, 3)) (hh : h a = some (.inr (11, fs))) (hl : 35 < fs.length) (hn : narrow (.array (.int)) v = v) (hf : fits (.array (.int)) v = true) (k9 : zz_W D zz_cl B p l e R s m args below meth c Q (zz_up h a (.inr (11, fs.set 35 v))) n cells slots L (pc + 3) rest) : zz_W D zz_cl B p l e R s m args below meth c Q h n cells slots L pc (v :: .ref a :: rest) := z_putF (ty := .array (.int)) (k := 35) C tt_Q rfl in_Q tk_Q nn_Q (by decide) wd_937 rfl rfl rfl rfl (by decide +kernel) d hh hl hn hf k9
theorem pf_Q_103 (C : zz_C D zz_cl (zz_ty dA) B zz_tb X p s m args meth c cc RR_Q ret "<init>") {a : Nat} {fs : List Value} {v : Value} (d : decode cc pc = .ok (.putfield 103, 3)) (hh : h a = some (.inr (11, fs))) (hl : 37 < fs.length) (hn : narrow (.array (.int)) v = v) (hf : fits (.array (.int)) v = true) (k9 : zz_W D zz_cl B p l e R s m args below meth c Q (zz_up h a (.inr (11, fs.set 37 v))) n cells slots L (pc + 3) rest) : zz_W D zz_cl B p l e R s m args below meth c Q h n cells slots L pc (v :: .ref a :: rest) := z_putF (ty := .array (.int)) (k := 37) C tt_Q rfl in_Q tk_Q nn_Q (by decide) wd_939 rfl rfl rfl rfl (by decide +kernel) d hh hl hn hf k9
theorem pf_Q_106 (C : zz_C D zz_cl (zz_ty dA) B zz_tb X p s m args meth c cc RR_Q ret "<init>") {a : Nat} {fs : List Value} {v : Value} (d : decode cc pc = .ok (.putfield 106, 3)) (hh : h a = some (.inr (11, fs))) (hl : 38 < fs.length) (hn : narrow (.array (.int)) v = v) (hf : fits (.array (.int)) v = true) (k9 : zz_W D zz_cl B p l e R s m args below meth c Q (zz_up h a (.inr (11, fs.set 38 v))) n cells slots L (pc + 3) rest) : zz_W D zz_cl B p l e R s m args below meth c Q h n cells slots L pc (v :: .ref a :: rest) := z_putF (ty := .array (.int)) (k := 38) C tt_Q rfl in_Q tk_Q nn_Q (by decide) wd_940 rfl rfl rfl rfl (by decide +kernel) d hh hl hn hf k9
theorem pf_Q_109 (C : zz_C D zz_cl (zz_ty dA) B zz_tb X p s m args meth c cc RR_Q ret "<init>") {a : Nat} {fs : List Value} {v : Value} (d : decode cc pc = .ok (.putfield 109, 3)) (hh : h a = some (.inr (11, fs))) (hl : 39 < fs.length) (hn : narrow (.array (.int)) v = v) (hf : fits (.array (.int)) v = true) (k9 : zz_W D zz_cl B p l e R s m args below meth c Q (zz_up h a (.inr (11, fs.set 39 v))) n cells slots L (pc + 3) rest) : zz_W D zz_cl B p l e R s m args below meth c Q h n cells slots L pc (v :: .ref a :: rest) := z_putF (ty := .array (.int)) (k := 39) C tt_Q rfl in_Q tk_Q nn_Q (by decide) wd_941 rfl rfl rfl rfl (by decide +kernel) d hh hl hn hf k9
theorem pf_Q_112 (C : zz_C D zz_cl (zz_ty dA) B zz_tb X p s m args meth c cc RR_Q ret "<init>") {a : Nat} {fs : List Value} {v : Value} (d : decode cc pc = .ok (.putfield 112, 3)) (hh : h a = some (.inr (11, fs))) (hl : 40 < fs.length) (hn : narrow (.array (.int)) v = v) (hf : fits (.array (.int)) v = true) (k9 : zz_W D zz_cl B p l e R s m args below meth c Q (zz_up h a (.inr (11, fs.set 40 v))) n cells slots L (pc + 3) rest) : zz_W D zz_cl B p l e R s m args below meth c Q h n cells slots L pc (v :: .ref a :: rest) := z_putF (ty := .array (.int)) (k := 40) C tt_Q rfl in_Q tk_Q nn_Q (by decide) wd_942 rfl rfl rfl rfl (by decide +kernel) d hh hl hn hf k9
theorem pf_Q_115 (C : zz_C D zz_cl (zz_ty dA) B zz_tb X p s m args meth c cc RR_Q ret "<init>") {a : Nat} {fs : List Value} {v : Value} (d : decode cc pc = .ok (.putfield 115, 3)) (hh : h a = some (.inr (11, fs))) (hl : 41 < fs.length) (hn : narrow (.array (.int)) v = v) (hf : fits (.array (.int)) v = true) (k9 : zz_W D zz_cl B p l e R s m args below meth c Q (zz_up h a (.inr (11, fs.set 41 v))) n cells slots L (pc + 3) rest) : zz_W D zz_cl B p l e R s m args below meth c Q h n cells slots L pc (v :: .ref a :: rest) := z_putF (ty := .array (.int)) (k := 41) C tt_Q rfl in_Q tk_Q nn_Q (by decide) wd_943 rfl rfl rfl rfl (by decide +kernel) d hh hl hn hf k9
theorem pf_Q_118 (C : zz_C D zz_cl (zz_ty dA) B zz_tb X p s m args meth c cc RR_Q ret "<init>") {a : Nat} {fs : List Value} {v : Value} (d : decode cc pc = .ok (.putfield 118, 3)) (hh : h a = some (.inr (11, fs))) (hl : 42 < fs.length) (hn : narrow (.array (.int)) v = v) (hf : fits (.array (.int)) v = true) (k9 : zz_W D zz_cl B p l e R s m args below meth c Q (zz_up h a (.inr (11, fs.set 42 v))) n cells slots L (pc + 3) rest) : zz_W D zz_cl B p l e R s m args below meth c Q h n cells slots L pc (v :: .ref a :: rest) := z_putF (ty := .array (.int)) (k := 42) C tt_Q rfl in_Q tk_Q nn_Q (by decide) wd_944 rfl rfl rfl rfl (by decide +kernel) d hh hl hn hf k9
theorem pf_Q_121 (C : zz_C D zz_cl (zz_ty dA) B zz_tb X p s m args meth c cc RR_Q ret nm) {a : Nat} {fs : List Value} {v : Value} (d : decode cc pc = .ok (.putfield 121, 3)) (hh : h a = some (.inr (11, fs))) (hl : 0 < fs.length) (hn : narrow (.int) v = v) (hf : fits (.int) v = true) (k9 : zz_W D zz_cl B p l e R s m args below meth c Q (zz_up h a (.inr (11, fs.set 0 v))) n cells slots L (pc + 3) rest) : zz_W D zz_cl B p l e R s m args below meth c Q h n cells slots L pc (v :: .ref a :: rest) := z_put (ty := .int) (k := 0) C tt_Q rfl in_Q tk_Q nn_Q (by decide) wd_902 rfl rfl (by decide +kernel) d hh hl hn hf k9
theorem pf_Q_124 (C : zz_C D zz_cl (zz_ty dA) B zz_tb X p s m args meth c cc RR_Q ret nm) {a : Nat} {fs : List Value} {v : Value} (d : decode cc pc = .ok (.putfield 124, 3)) (hh : h a = some (.inr (11, fs))) (hl : 18 < fs.length) (hn : narrow (.int) v = v) (hf : fits (.int) v = true) (k9 : zz_W D zz_cl B p l e R s m args below meth c Q (zz_up h a (.inr (11, fs.set 18 v))) n cells slots L (pc + 3) rest) : zz_W D zz_cl B p l e R s m args below meth c Q h n cells slots L pc (v :: .ref a :: rest) := z_put (ty := .int) (k := 18) C tt_Q rfl in_Q tk_Q nn_Q (by decide) wd_920 rfl rfl (by decide +kernel) d hh hl hn hf k9
theorem pf_Q_135 (C : zz_C D zz_cl (zz_ty dA) B zz_tb X p s m args meth c cc RR_Q ret nm) {a : Nat} {fs : List Value} {v : Value} (d : decode cc pc = .ok (.putfield 135, 3)) (hh : h a = some (.inr (11, fs))) (hl : 3 < fs.length) (hn : narrow (.int) v = v) (hf : fits (.int) v = true) (k9 : zz_W D zz_cl B p l e R s m args below meth c Q (zz_up h a (.inr (11, fs.set 3 v))) n cells slots L (pc + 3) rest) : zz_W D zz_cl B p l e R s m args below meth c Q h n cells slots L pc (v :: .ref a :: rest) := z_put (ty := .int) (k := 3) C tt_Q rfl in_Q tk_Q nn_Q (by decide) wd_905 rfl rfl (by decide +kernel) d hh hl hn hf k9
theorem pf_Q_138 (C : zz_C D zz_cl (zz_ty dA) B zz_tb X p s m args meth c cc RR_Q ret nm) {a : Nat} {fs : List Value} {v : Value} (d : decode cc pc = .ok (.putfield 138, 3)) (hh : h a = some (.inr (11, fs))) (hl : 5 < fs.length) (hn : narrow (.int) v = v) (hf : fits (.int) v = true) (k9 : zz_W D zz_cl B p l e R s m args below meth c Q (zz_up h a (.inr (11, fs.set 5 v))) n cells slots L (pc + 3) rest) : zz_W D zz_cl B p l e R s m args below meth c Q h n cells slots L pc (v :: .ref a :: rest) := z_put (ty := .int) (k := 5) C tt_Q rfl in_Q tk_Q nn_Q (by decide) wd_907 rfl rfl (by decide +kernel) d hh hl hn hf k9
theorem pf_Q_186 (C : zz_C D zz_cl (zz_ty dA) B zz_tb X p s m args meth c cc RR_Q ret nm) {a : Nat} {fs : List Value} {v : Value} (d : decode cc pc = .ok (.putfield 186, 3)) (hh : h a = some (.inr (11, fs))) (hl : 19 < fs.length) (hn : narrow (.int) v = v) (hf : fits (.int) v = true) (k9 : zz_W D zz_cl B p l e R s m args below meth c Q (zz_up h a (.inr (11, fs.set 19 v))) n cells slots L (pc + 3) rest) : zz_W D zz_cl B p l e R s m args below meth c Q h n cells slots L pc (v :: .ref a :: rest) := z_put (ty := .int) (k := 19) C tt_Q rfl in_Q tk_Q nn_Q (by decide) wd_921 rfl rfl (by decide +kernel) d hh hl hn hf k9
theorem pf_Q_189 (C : zz_C D zz_cl (zz_ty dA) B zz_tb X p s m args meth c cc RR_Q ret nm) {a : Nat} {fs : List Value} {v : Value} (d : decode cc pc = .ok (.putfield 189, 3)) (hh : h a = some (.inr (11, fs))) (hl : 20 < fs.length) (hn : narrow (.int) v = v) (hf : fits (.int) v = true) (k9 : zz_W D zz_cl B p l e R s m args below meth c Q (zz_up h a (.inr (11, fs.set 20 v))) n cells slots L (pc + 3) rest) : zz_W D zz_cl B p l e R s m args below meth c Q h n cells slots L pc (v :: .ref a :: rest) := z_put (ty := .int) (k := 20) C tt_Q rfl in_Q tk_Q nn_Q (by decide) wd_922 rfl rfl (by decide +kernel) d hh hl hn hf k9
theorem pf_Q_222 (C : zz_C D zz_cl (zz_ty dA) B zz_tb X p s m args meth c cc RR_Q ret nm) {a : Nat} {fs : List Value} {v : Value} (d : decode cc pc = .ok (.putfield 222, 3)) (hh : h a = some (.inr (11, fs))) (hl : 44 < fs.length) (hn : narrow (.int) v = v) (hf : fits (.int) v = true) (k9 : zz_W D zz_cl B p l e R s m args below meth c Q (zz_up h a (.inr (11, fs.set 44 v))) n cells slots L (pc + 3) rest) : zz_W D zz_cl B p l e R s m args below meth c Q h n cells slots L pc (v :: .ref a :: rest) := z_put (ty := .int) (k := 44) C tt_Q rfl in_Q tk_Q nn_Q (by decide) wd_946 rfl rfl (by decide +kernel) d hh hl hn hf k9
theorem pf_Q_225 (C : zz_C D zz_cl (zz_ty dA) B zz_tb X p s m args meth c cc RR_Q ret nm) {a : Nat} {fs : List Value} {v : Value} (d : decode cc pc = .ok (.putfield 225, 3)) (hh : h a = some (.inr (11, fs))) (hl : 43 < fs.length) (hn : narrow (.int) v = v) (hf : fits (.int) v = true) (k9 : zz_W D zz_cl B p l e R s m args below meth c Q (zz_up h a (.inr (11, fs.set 43 v))) n cells slots L (pc + 3) rest) : zz_W D zz_cl B p l e R s m args below meth c Q h n cells slots L pc (v :: .ref a :: rest) := z_put (ty := .int) (k := 43) C tt_Q rfl in_Q tk_Q nn_Q (by decide) wd_945 rfl rfl (by decide +kernel) d hh hl hn hf k9
theorem pf_Q_228 (C : zz_C D zz_cl (zz_ty dA) B zz_tb X p s m args meth c cc RR_Q ret nm) {a : Nat} {fs : List Value} {v : Value} (d : decode cc pc = .ok (.putfield 228, 3)) (hh : h a = some (.inr (11, fs))) (hl : 45 < fs.length) (hn : narrow (.int) v = v) (hf : fits (.int) v = true) (k9 : zz_W D zz_cl B p l e R s m args below meth c Q (zz_up h a (.inr (11, fs.set 45 v))) n cells slots L (pc + 3) rest) : zz_W D zz_cl B p l e R s m args below meth c Q h n cells slots L pc (v :: .ref a :: rest) := z_put (ty := .int) (k := 45) C tt_Q rfl in_Q tk_Q nn_Q (by decide) wd_947 rfl rfl (by decide +kernel) d hh hl hn hf k9
theorem pf_Q_231 (C : zz_C D zz_cl (zz_ty dA) B zz_tb X p s m args meth c cc RR_Q ret nm) {a : Nat} {fs : List Value} {v : Value} (d : decode cc pc = .ok (.putfield 231, 3)) (hh : h a = some (.inr (11, fs))) (hl : 36 < fs.length) (hn : narrow (.int) v = v) (hf : fits (.int) v = true) (k9 : zz_W D zz_cl B p l e R s m args below meth c Q (zz_up h a (.inr (11, fs.set 36 v))) n cells slots L (pc + 3) rest) : zz_W D zz_cl B p l e R s m args below meth c Q h n cells slots L pc (v :: .ref a :: rest) := z_put (ty := .int) (k := 36) C tt_Q rfl in_Q tk_Q nn_Q (by decide) wd_938 rfl rfl (by decide +kernel) d hh hl hn hf k9
theorem gf_R_9 (C : zz_C D zz_cl (zz_ty dA) B zz_tb X p s m args meth c cc RR_R ret nm) {a : Nat} {fs : List Value} {v : Value} (d : decode cc pc = .ok (.getfield 9, 3)) (hh : h a = some (.inr (7, fs))) (hv : fs[0]? = some v) (k9 : zz_W D zz_cl B p l e R s m args below meth c Q h n cells slots L (pc + 3) (v :: rest)) : zz_W D zz_cl B p l e R s m args below meth c Q h n cells slots L pc (.ref a :: rest) := z_get (k := 0) C rfl in_R (by decide) wd_282 rfl d hh hv k9
theorem gf_R_13 (C : zz_C D zz_cl (zz_ty dA) B zz_tb X p s m args meth c cc RR_R ret nm) {a : Nat} {fs : List Value} {v : Value} (d : decode cc pc = .ok (.getfield 13, 3)) (hh : h a = some (.inr (7, fs))) (hv : fs[1]? = some v) (k9 : zz_W D zz_cl B p l e R s m args below meth c Q h n cells slots L (pc + 3) (v :: rest)) : zz_W D zz_cl B p l e R s m args below meth c Q h n cells slots L pc (.ref a :: rest) := z_get (k := 1) C rfl in_R (by decide) wd_283 rfl d hh hv k9
theorem gf_R_16 (C : zz_C D zz_cl (zz_ty dA) B zz_tb X p s m args meth c cc RR_R ret nm) {a : Nat} {fs : List Value} {v : Value} (d : decode cc pc = .ok (.getfield 16, 3)) (hh : h a = some (.inr (7, fs))) (hv : fs[2]? = some v) (k9 : zz_W D zz_cl B p l e R s m args below meth c Q h n cells slots L (pc + 3) (v :: rest)) : zz_W D zz_cl B p l e R s m args below meth c Q h n cells slots L pc (.ref a :: rest) := z_get (k := 2) C rfl in_R (by decide) wd_284 rfl d hh hv k9
theorem gf_R_19 (C : zz_C D zz_cl (zz_ty dA) B zz_tb X p s m args meth c cc RR_R ret nm) {a : Nat} {fs : List Value} {v : Value} (d : decode cc pc = .ok (.getfield 19, 3)) (hh : h a = some (.inr (7, fs))) (hv : fs[3]? = some v) (k9 : zz_W D zz_cl B p l e R s m args below meth c Q h n cells slots L (pc + 3) (v :: rest)) : zz_W D zz_cl B p l e R s m args below meth c Q h n cells slots L pc (.ref a :: rest) := z_get (k := 3) C rfl in_R (by decide) wd_285 rfl d hh hv k9
theorem oi_R_1 (C : zz_C D zz_cl (zz_ty dA) B zz_tb X p s m args meth c cc RR_R ret nm) {a : Nat} (d : decode cc pc = .ok (.invokespecial 1, 3)) (hfr : 1 ≤ R.frames) (hlo : (rest.map fun v => v.category).sum + 12 ≤ R.locals) (k9 : zz_W D zz_cl B p l e R s m args below meth c Q h n cells slots L (pc + 3) rest) : zz_W D zz_cl B p l e R s m args below meth c Q h n cells slots L pc (.ref a :: rest) := z_objInit C wd_281 wd_29 wd_30 d hfr hlo k9
theorem iv_R_23 (F : zz_F B zz_tb X) (C : zz_C D zz_cl (zz_ty dA) B zz_tb X p s m args meth c cc RR_R ret nm) {rm : Room} {As st0 : List Value} {sk : ρ → List Value} {b : Nat} {fs : List Value} (d : decode cc pc = .ok (.invokevirtual 23, 3)) (hM : zz_M l D zz_cl (zz_ty dA) B zz_tb X yy_R_nodeFor (Cond.code yy_R_nodeFor prog_6_method_7_code 5 (some FieldType.int)) rm (.ref b :: As) h n mk post) (hh : h b = some (.inr (7, fs))) (hn : As.length = 3) (hst : st0 = As.reverse ++ .ref b :: rest) (hR : rm.frames + 1 ≤ R.frames ∧ 8 + (5 + 11) + rm.locals ≤ R.locals) (hW : (rest.map fun v => v.category).sum ≤ 8) (hf : cells + rm.cells ≤ R.cells ∧ slots + rm.slots ≤ R.slots) (hsk : ∀ r, (mk r).toList ++ rest = sk r) (kk : ∀ (r : ρ) (h' : zz_H) (n' : Nat), post r h' n' → zz_W D zz_cl B p l e R s m args below meth c Q h' n' (cells + rm.cells) (slots + rm.slots) L (pc + 3) (sk r)) : zz_W D zz_cl B p l e R s m args below meth c Q h n cells slots L pc st0 :=
  z_callV F C wd_726 wd_13 wd_723 wd_724 wd_725 ⟨by decide, by decide, by decide +kernel⟩ rfl rfl d hM hh hn hst hR hW hf hsk kk
theorem pf_R_9 (C : zz_C D zz_cl (zz_ty dA) B zz_tb X p s m args meth c cc RR_R ret "<init>") {a : Nat} {fs : List Value} {v : Value} (d : decode cc pc = .ok (.putfield 9, 3)) (hh : h a = some (.inr (7, fs))) (hl : 0 < fs.length) (hn : narrow (.array (.int)) v = v) (hf : fits (.array (.int)) v = true) (k9 : zz_W D zz_cl B p l e R s m args below meth c Q (zz_up h a (.inr (7, fs.set 0 v))) n cells slots L (pc + 3) rest) : zz_W D zz_cl B p l e R s m args below meth c Q h n cells slots L pc (v :: .ref a :: rest) := z_putF (ty := .array (.int)) (k := 0) C tt_R rfl in_R tk_R nn_R (by decide) wd_282 rfl rfl rfl rfl (by decide +kernel) d hh hl hn hf k9
theorem pf_R_13 (C : zz_C D zz_cl (zz_ty dA) B zz_tb X p s m args meth c cc RR_R ret "<init>") {a : Nat} {fs : List Value} {v : Value} (d : decode cc pc = .ok (.putfield 13, 3)) (hh : h a = some (.inr (7, fs))) (hl : 1 < fs.length) (hn : narrow (.array (.int)) v = v) (hf : fits (.array (.int)) v = true) (k9 : zz_W D zz_cl B p l e R s m args below meth c Q (zz_up h a (.inr (7, fs.set 1 v))) n cells slots L (pc + 3) rest) : zz_W D zz_cl B p l e R s m args below meth c Q h n cells slots L pc (v :: .ref a :: rest) := z_putF (ty := .array (.int)) (k := 1) C tt_R rfl in_R tk_R nn_R (by decide) wd_283 rfl rfl rfl rfl (by decide +kernel) d hh hl hn hf k9
theorem pf_R_16 (C : zz_C D zz_cl (zz_ty dA) B zz_tb X p s m args meth c cc RR_R ret "<init>") {a : Nat} {fs : List Value} {v : Value} (d : decode cc pc = .ok (.putfield 16, 3)) (hh : h a = some (.inr (7, fs))) (hl : 2 < fs.length) (hn : narrow (.array (.int)) v = v) (hf : fits (.array (.int)) v = true) (k9 : zz_W D zz_cl B p l e R s m args below meth c Q (zz_up h a (.inr (7, fs.set 2 v))) n cells slots L (pc + 3) rest) : zz_W D zz_cl B p l e R s m args below meth c Q h n cells slots L pc (v :: .ref a :: rest) := z_putF (ty := .array (.int)) (k := 2) C tt_R rfl in_R tk_R nn_R (by decide) wd_284 rfl rfl rfl rfl (by decide +kernel) d hh hl hn hf k9
theorem pf_R_19 (C : zz_C D zz_cl (zz_ty dA) B zz_tb X p s m args meth c cc RR_R ret nm) {a : Nat} {fs : List Value} {v : Value} (d : decode cc pc = .ok (.putfield 19, 3)) (hh : h a = some (.inr (7, fs))) (hl : 3 < fs.length) (hn : narrow (.int) v = v) (hf : fits (.int) v = true) (k9 : zz_W D zz_cl B p l e R s m args below meth c Q (zz_up h a (.inr (7, fs.set 3 v))) n cells slots L (pc + 3) rest) : zz_W D zz_cl B p l e R s m args below meth c Q h n cells slots L pc (v :: .ref a :: rest) := z_put (ty := .int) (k := 3) C tt_R rfl in_R tk_R nn_R (by decide) wd_285 rfl rfl (by decide +kernel) d hh hl hn hf k9
theorem na_int {own : String} (C : zz_C D zz_cl (zz_ty dA) B zz_tb X p s m args meth c cc own ret nm) {N : Nat} {x : Int32} (d : decode cc pc = .ok (.newarray .int, 2)) (hx : ¬ x < 0) (hN : x.toNatClampNeg = N) (hby : N * componentBytes .int ≤ 536870912) (hcl : cells + 1 ≤ R.cells) (hsl : slots + N ≤ R.slots) (k9 : zz_W D zz_cl B p l e R s m args below meth c Q (zz_up h n (.inl (dA 0, N, .inl (fun _ => 0)))) (n + 1) (cells + 1) (slots + N) L (pc + 2) (.ref n :: rest)) : zz_W D zz_cl B p l e R s m args below meth c Q h n cells slots L pc (.int x :: rest) := z_newa (t0 := 0) (a9 := (N, .inl (fun _ => 0))) C wd_44 rfl rfl (fun U hU => hU) d (fun cA => rfl) hx hN hby hcl hsl k9
theorem na_long {own : String} (C : zz_C D zz_cl (zz_ty dA) B zz_tb X p s m args meth c cc own ret nm) {N : Nat} {x : Int32} (d : decode cc pc = .ok (.newarray .long, 2)) (hx : ¬ x < 0) (hN : x.toNatClampNeg = N) (hby : N * componentBytes .long ≤ 536870912) (hcl : cells + 1 ≤ R.cells) (hsl : slots + N ≤ R.slots) (k9 : zz_W D zz_cl B p l e R s m args below meth c Q (zz_up h n (.inl (dA 1, N, .inr (.inl (fun _ => 0))))) (n + 1) (cells + 1) (slots + N) L (pc + 2) (.ref n :: rest)) : zz_W D zz_cl B p l e R s m args below meth c Q h n cells slots L pc (.int x :: rest) := z_newa (t0 := 1) (a9 := (N, .inr (.inl (fun _ => 0)))) C wd_59 rfl rfl (fun U hU => hU) d (fun cA => rfl) hx hN hby hcl hsl k9
theorem na_boolean {own : String} (C : zz_C D zz_cl (zz_ty dA) B zz_tb X p s m args meth c cc own ret nm) {N : Nat} {x : Int32} (d : decode cc pc = .ok (.newarray .boolean, 2)) (hx : ¬ x < 0) (hN : x.toNatClampNeg = N) (hby : N * componentBytes .boolean ≤ 536870912) (hcl : cells + 1 ≤ R.cells) (hsl : slots + N ≤ R.slots) (k9 : zz_W D zz_cl B p l e R s m args below meth c Q (zz_up h n (.inl (dA 2, N, .inl (fun _ => 0)))) (n + 1) (cells + 1) (slots + N) L (pc + 2) (.ref n :: rest)) : zz_W D zz_cl B p l e R s m args below meth c Q h n cells slots L pc (.int x :: rest) := z_newa (t0 := 2) (a9 := (N, .inl (fun _ => 0))) C wd_1041 rfl rfl (fun U hU => hU) d (fun cA => rfl) hx hN hby hcl hsl k9
end AC
end
