-- ===== PART A: goes FIRST, ahead of the names: the tables' words, and 'selects' of the private methods out of them =====
/-- a private method of a class that the tables say can be made, by its rows of tables_1 -/
def lw_okq (q : MethodName × Nat) : Prop := (q.1.cls ≠ "java/lang/invoke/MethodHandle" ∧ q.1.cls ≠ "java/lang/invoke/VarHandle") ∧ Cond.instantiable q.1.cls q.2 ∈ tables_1 ∧ Cond.privateMethod q.1 ∈ tables_1 ∧ Cond.instanceMethod q.1 ∈ tables_1
theorem lw_p0 : lw_okq (⟨"SplitClocks", "plant", "()V"⟩, 11) := ⟨⟨by decide +kernel, by decide +kernel⟩, List.mem_of_getElem? (i := 22) (by decide +kernel), List.mem_of_getElem? (i := 177) (by decide +kernel), List.mem_of_getElem? (i := 178) (by decide +kernel)⟩
theorem lw_p1 : lw_okq (⟨"SplitClocks$Numbers", "widen", "(I)V"⟩, 2) := ⟨⟨by decide +kernel, by decide +kernel⟩, List.mem_of_getElem? (i := 42) (by decide +kernel), List.mem_of_getElem? (i := 197) (by decide +kernel), List.mem_of_getElem? (i := 198) (by decide +kernel)⟩
theorem lw_p2 : lw_okq (⟨"SplitClocks", "settle", "(IIII)Z"⟩, 11) := ⟨⟨by decide +kernel, by decide +kernel⟩, List.mem_of_getElem? (i := 22) (by decide +kernel), List.mem_of_getElem? (i := 369) (by decide +kernel), List.mem_of_getElem? (i := 370) (by decide +kernel)⟩
theorem lw_p3 : lw_okq (⟨"SplitClocks", "makeEvent", "(I)I"⟩, 11) := ⟨⟨by decide +kernel, by decide +kernel⟩, List.mem_of_getElem? (i := 22) (by decide +kernel), List.mem_of_getElem? (i := 399) (by decide +kernel), List.mem_of_getElem? (i := 400) (by decide +kernel)⟩
theorem lw_p4 : lw_okq (⟨"SplitClocks", "canMelt", "(II)Z"⟩, 11) := ⟨⟨by decide +kernel, by decide +kernel⟩, List.mem_of_getElem? (i := 22) (by decide +kernel), List.mem_of_getElem? (i := 448) (by decide +kernel), List.mem_of_getElem? (i := 449) (by decide +kernel)⟩
theorem lw_p5 : lw_okq (⟨"SplitClocks", "makeJoin", "(III)I"⟩, 11) := ⟨⟨by decide +kernel, by decide +kernel⟩, List.mem_of_getElem? (i := 22) (by decide +kernel), List.mem_of_getElem? (i := 453) (by decide +kernel), List.mem_of_getElem? (i := 454) (by decide +kernel)⟩
theorem lw_p6 : lw_okq (⟨"SplitClocks", "makePeek", "(I)I"⟩, 11) := ⟨⟨by decide +kernel, by decide +kernel⟩, List.mem_of_getElem? (i := 22) (by decide +kernel), List.mem_of_getElem? (i := 467) (by decide +kernel), List.mem_of_getElem? (i := 468) (by decide +kernel)⟩
theorem lw_p7 : lw_okq (⟨"SplitClocks", "leads", "(II)Z"⟩, 11) := ⟨⟨by decide +kernel, by decide +kernel⟩, List.mem_of_getElem? (i := 22) (by decide +kernel), List.mem_of_getElem? (i := 492) (by decide +kernel), List.mem_of_getElem? (i := 493) (by decide +kernel)⟩
theorem lw_p8 : lw_okq (⟨"SplitClocks", "draftOf", "(I)I"⟩, 11) := ⟨⟨by decide +kernel, by decide +kernel⟩, List.mem_of_getElem? (i := 22) (by decide +kernel), List.mem_of_getElem? (i := 570) (by decide +kernel), List.mem_of_getElem? (i := 571) (by decide +kernel)⟩
theorem lw_p9 : lw_okq (⟨"SplitClocks", "isAboveAt", "(IIJI)Z"⟩, 11) := ⟨⟨by decide +kernel, by decide +kernel⟩, List.mem_of_getElem? (i := 22) (by decide +kernel), List.mem_of_getElem? (i := 633) (by decide +kernel), List.mem_of_getElem? (i := 634) (by decide +kernel)⟩
theorem lw_p10 : lw_okq (⟨"SplitClocks$Reader", "blame", "(I)V"⟩, 3) := ⟨⟨by decide +kernel, by decide +kernel⟩, List.mem_of_getElem? (i := 161) (by decide +kernel), List.mem_of_getElem? (i := 684) (by decide +kernel), List.mem_of_getElem? (i := 685) (by decide +kernel)⟩
theorem lw_p11 : lw_okq (⟨"SplitClocks$Reader", "isFaulty", "()Z"⟩, 3) := ⟨⟨by decide +kernel, by decide +kernel⟩, List.mem_of_getElem? (i := 161) (by decide +kernel), List.mem_of_getElem? (i := 688) (by decide +kernel), List.mem_of_getElem? (i := 689) (by decide +kernel)⟩
theorem lw_p12 : lw_okq (⟨"SplitClocks$Reader", "twoBits", "()I"⟩, 3) := ⟨⟨by decide +kernel, by decide +kernel⟩, List.mem_of_getElem? (i := 161) (by decide +kernel), List.mem_of_getElem? (i := 692) (by decide +kernel), List.mem_of_getElem? (i := 693) (by decide +kernel)⟩
theorem lw_p13 : lw_okq (⟨"SplitClocks$Reader", "oneBit", "()I"⟩, 3) := ⟨⟨by decide +kernel, by decide +kernel⟩, List.mem_of_getElem? (i := 161) (by decide +kernel), List.mem_of_getElem? (i := 696) (by decide +kernel), List.mem_of_getElem? (i := 697) (by decide +kernel)⟩
theorem lw_p14 : lw_okq (⟨"SplitClocks$Reader", "numberHere", "()I"⟩, 3) := ⟨⟨by decide +kernel, by decide +kernel⟩, List.mem_of_getElem? (i := 161) (by decide +kernel), List.mem_of_getElem? (i := 705) (by decide +kernel), List.mem_of_getElem? (i := 706) (by decide +kernel)⟩
theorem lw_p15 : lw_okq (⟨"java/lang/Throwable", "fillInStackTrace", "(I)Ljava/lang/Throwable;"⟩, 6) := ⟨⟨by decide +kernel, by decide +kernel⟩, List.mem_of_getElem? (i := 813) (by decide +kernel), List.mem_of_getElem? (i := 811) (by decide +kernel), List.mem_of_getElem? (i := 812) (by decide +kernel)⟩
def lw_privs_1 : List (MethodName × Nat) := [(⟨"SplitClocks", "plant", "()V"⟩, 11), (⟨"SplitClocks$Numbers", "widen", "(I)V"⟩, 2), (⟨"SplitClocks", "settle", "(IIII)Z"⟩, 11), (⟨"SplitClocks", "makeEvent", "(I)I"⟩, 11), (⟨"SplitClocks", "canMelt", "(II)Z"⟩, 11), (⟨"SplitClocks", "makeJoin", "(III)I"⟩, 11), (⟨"SplitClocks", "makePeek", "(I)I"⟩, 11), (⟨"SplitClocks", "leads", "(II)Z"⟩, 11), (⟨"SplitClocks", "draftOf", "(I)I"⟩, 11), (⟨"SplitClocks", "isAboveAt", "(IIJI)Z"⟩, 11), (⟨"SplitClocks$Reader", "blame", "(I)V"⟩, 3), (⟨"SplitClocks$Reader", "isFaulty", "()Z"⟩, 3), (⟨"SplitClocks$Reader", "twoBits", "()I"⟩, 3), (⟨"SplitClocks$Reader", "oneBit", "()I"⟩, 3), (⟨"SplitClocks$Reader", "numberHere", "()I"⟩, 3), (⟨"java/lang/Throwable", "fillInStackTrace", "(I)Ljava/lang/Throwable;"⟩, 6)]
theorem lw_r1 : ∀ q ∈ lw_privs_1, lw_okq q := List.forall_mem_cons.mpr ⟨lw_p0, List.forall_mem_cons.mpr ⟨lw_p1, List.forall_mem_cons.mpr ⟨lw_p2, List.forall_mem_cons.mpr ⟨lw_p3, List.forall_mem_cons.mpr ⟨lw_p4, List.forall_mem_cons.mpr ⟨lw_p5, List.forall_mem_cons.mpr ⟨lw_p6, List.forall_mem_cons.mpr ⟨lw_p7, List.forall_mem_cons.mpr ⟨lw_p8, List.forall_mem_cons.mpr ⟨lw_p9, List.forall_mem_cons.mpr ⟨lw_p10, List.forall_mem_cons.mpr ⟨lw_p11, List.forall_mem_cons.mpr ⟨lw_p12, List.forall_mem_cons.mpr ⟨lw_p13, List.forall_mem_cons.mpr ⟨lw_p14, List.forall_mem_cons.mpr ⟨lw_p15, fun _ h => absurd h List.not_mem_nil⟩⟩⟩⟩⟩⟩⟩⟩⟩⟩⟩⟩⟩⟩⟩⟩
theorem lw_p16 : lw_okq (⟨"SplitClocksModel", "make", "(III)I"⟩, 68) := ⟨⟨by decide +kernel, by decide +kernel⟩, List.mem_of_getElem? (i := 850) (by decide +kernel), List.mem_of_getElem? (i := 861) (by decide +kernel), List.mem_of_getElem? (i := 862) (by decide +kernel)⟩
theorem lw_p17 : lw_okq (⟨"SplitClocksModel", "shareNodes", "(JJ)I"⟩, 68) := ⟨⟨by decide +kernel, by decide +kernel⟩, List.mem_of_getElem? (i := 850) (by decide +kernel), List.mem_of_getElem? (i := 865) (by decide +kernel), List.mem_of_getElem? (i := 866) (by decide +kernel)⟩
theorem lw_p18 : lw_okq (⟨"SplitClocksModel", "part", "(JJ)I"⟩, 68) := ⟨⟨by decide +kernel, by decide +kernel⟩, List.mem_of_getElem? (i := 850) (by decide +kernel), List.mem_of_getElem? (i := 869) (by decide +kernel), List.mem_of_getElem? (i := 870) (by decide +kernel)⟩
theorem lw_p19 : lw_okq (⟨"SplitClocksModel", "heightNodes", "(JJ)I"⟩, 68) := ⟨⟨by decide +kernel, by decide +kernel⟩, List.mem_of_getElem? (i := 850) (by decide +kernel), List.mem_of_getElem? (i := 874) (by decide +kernel), List.mem_of_getElem? (i := 875) (by decide +kernel)⟩
theorem lw_p20 : lw_okq (⟨"SplitClocksModel", "isFlat", "(JJ)Z"⟩, 68) := ⟨⟨by decide +kernel, by decide +kernel⟩, List.mem_of_getElem? (i := 850) (by decide +kernel), List.mem_of_getElem? (i := 878) (by decide +kernel), List.mem_of_getElem? (i := 879) (by decide +kernel)⟩
theorem lw_p21 : lw_okq (⟨"SplitClocksModel", "at", "(J)I"⟩, 68) := ⟨⟨by decide +kernel, by decide +kernel⟩, List.mem_of_getElem? (i := 850) (by decide +kernel), List.mem_of_getElem? (i := 882) (by decide +kernel), List.mem_of_getElem? (i := 883) (by decide +kernel)⟩
theorem lw_p22 : lw_okq (⟨"SplitClocksModel", "behind", "(I)J"⟩, 68) := ⟨⟨by decide +kernel, by decide +kernel⟩, List.mem_of_getElem? (i := 850) (by decide +kernel), List.mem_of_getElem? (i := 886) (by decide +kernel), List.mem_of_getElem? (i := 887) (by decide +kernel)⟩
theorem lw_p23 : lw_okq (⟨"SplitClocksModel", "isAlive", "(I)Z"⟩, 68) := ⟨⟨by decide +kernel, by decide +kernel⟩, List.mem_of_getElem? (i := 850) (by decide +kernel), List.mem_of_getElem? (i := 1103) (by decide +kernel), List.mem_of_getElem? (i := 1104) (by decide +kernel)⟩
theorem lw_p24 : lw_okq (⟨"SplitClocksModel", "is", "(I)Z"⟩, 68) := ⟨⟨by decide +kernel, by decide +kernel⟩, List.mem_of_getElem? (i := 850) (by decide +kernel), List.mem_of_getElem? (i := 1107) (by decide +kernel), List.mem_of_getElem? (i := 1108) (by decide +kernel)⟩
theorem lw_p25 : lw_okq (⟨"SplitClocksModel", "owns", "(I)Z"⟩, 68) := ⟨⟨by decide +kernel, by decide +kernel⟩, List.mem_of_getElem? (i := 850) (by decide +kernel), List.mem_of_getElem? (i := 1111) (by decide +kernel), List.mem_of_getElem? (i := 1112) (by decide +kernel)⟩
theorem lw_p26 : lw_okq (⟨"SplitClocksModel", "takeOwn", "(I)V"⟩, 68) := ⟨⟨by decide +kernel, by decide +kernel⟩, List.mem_of_getElem? (i := 850) (by decide +kernel), List.mem_of_getElem? (i := 1115) (by decide +kernel), List.mem_of_getElem? (i := 1116) (by decide +kernel)⟩
theorem lw_p27 : lw_okq (⟨"SplitClocksModel", "cut", "(IJJ)V"⟩, 68) := ⟨⟨by decide +kernel, by decide +kernel⟩, List.mem_of_getElem? (i := 850) (by decide +kernel), List.mem_of_getElem? (i := 1119) (by decide +kernel), List.mem_of_getElem? (i := 1120) (by decide +kernel)⟩
theorem lw_p28 : lw_okq (⟨"SplitClocksModel", "hasRoom", "(II)Z"⟩, 68) := ⟨⟨by decide +kernel, by decide +kernel⟩, List.mem_of_getElem? (i := 850) (by decide +kernel), List.mem_of_getElem? (i := 1123) (by decide +kernel), List.mem_of_getElem? (i := 1124) (by decide +kernel)⟩
theorem lw_p29 : lw_okq (⟨"SplitClocksModel", "note", "(II)V"⟩, 68) := ⟨⟨by decide +kernel, by decide +kernel⟩, List.mem_of_getElem? (i := 850) (by decide +kernel), List.mem_of_getElem? (i := 1127) (by decide +kernel), List.mem_of_getElem? (i := 1128) (by decide +kernel)⟩
theorem lw_p30 : lw_okq (⟨"SplitClocksModel", "takeKnown", "(I)V"⟩, 68) := ⟨⟨by decide +kernel, by decide +kernel⟩, List.mem_of_getElem? (i := 850) (by decide +kernel), List.mem_of_getElem? (i := 1131) (by decide +kernel), List.mem_of_getElem? (i := 1132) (by decide +kernel)⟩
theorem lw_p31 : lw_okq (⟨"SplitClocksModel", "spend", "(I)V"⟩, 68) := ⟨⟨by decide +kernel, by decide +kernel⟩, List.mem_of_getElem? (i := 850) (by decide +kernel), List.mem_of_getElem? (i := 1135) (by decide +kernel), List.mem_of_getElem? (i := 1136) (by decide +kernel)⟩
def lw_privs_2 : List (MethodName × Nat) := [(⟨"SplitClocksModel", "make", "(III)I"⟩, 68), (⟨"SplitClocksModel", "shareNodes", "(JJ)I"⟩, 68), (⟨"SplitClocksModel", "part", "(JJ)I"⟩, 68), (⟨"SplitClocksModel", "heightNodes", "(JJ)I"⟩, 68), (⟨"SplitClocksModel", "isFlat", "(JJ)Z"⟩, 68), (⟨"SplitClocksModel", "at", "(J)I"⟩, 68), (⟨"SplitClocksModel", "behind", "(I)J"⟩, 68), (⟨"SplitClocksModel", "isAlive", "(I)Z"⟩, 68), (⟨"SplitClocksModel", "is", "(I)Z"⟩, 68), (⟨"SplitClocksModel", "owns", "(I)Z"⟩, 68), (⟨"SplitClocksModel", "takeOwn", "(I)V"⟩, 68), (⟨"SplitClocksModel", "cut", "(IJJ)V"⟩, 68), (⟨"SplitClocksModel", "hasRoom", "(II)Z"⟩, 68), (⟨"SplitClocksModel", "note", "(II)V"⟩, 68), (⟨"SplitClocksModel", "takeKnown", "(I)V"⟩, 68), (⟨"SplitClocksModel", "spend", "(I)V"⟩, 68)]
theorem lw_r2 : ∀ q ∈ lw_privs_2, lw_okq q := List.forall_mem_cons.mpr ⟨lw_p16, List.forall_mem_cons.mpr ⟨lw_p17, List.forall_mem_cons.mpr ⟨lw_p18, List.forall_mem_cons.mpr ⟨lw_p19, List.forall_mem_cons.mpr ⟨lw_p20, List.forall_mem_cons.mpr ⟨lw_p21, List.forall_mem_cons.mpr ⟨lw_p22, List.forall_mem_cons.mpr ⟨lw_p23, List.forall_mem_cons.mpr ⟨lw_p24, List.forall_mem_cons.mpr ⟨lw_p25, List.forall_mem_cons.mpr ⟨lw_p26, List.forall_mem_cons.mpr ⟨lw_p27, List.forall_mem_cons.mpr ⟨lw_p28, List.forall_mem_cons.mpr ⟨lw_p29, List.forall_mem_cons.mpr ⟨lw_p30, List.forall_mem_cons.mpr ⟨lw_p31, fun _ h => absurd h List.not_mem_nil⟩⟩⟩⟩⟩⟩⟩⟩⟩⟩⟩⟩⟩⟩⟩⟩
theorem lw_p32 : lw_okq (⟨"SplitClocksModel", "happen", "()V"⟩, 68) := ⟨⟨by decide +kernel, by decide +kernel⟩, List.mem_of_getElem? (i := 850) (by decide +kernel), List.mem_of_getElem? (i := 1143) (by decide +kernel), List.mem_of_getElem? (i := 1144) (by decide +kernel)⟩
theorem lw_p33 : lw_okq (⟨"SplitClocksModel", "fill", "(JJ)V"⟩, 68) := ⟨⟨by decide +kernel, by decide +kernel⟩, List.mem_of_getElem? (i := 850) (by decide +kernel), List.mem_of_getElem? (i := 1147) (by decide +kernel), List.mem_of_getElem? (i := 1148) (by decide +kernel)⟩
theorem lw_p34 : lw_okq (⟨"SplitClocksModel", "most", "(JJ)I"⟩, 68) := ⟨⟨by decide +kernel, by decide +kernel⟩, List.mem_of_getElem? (i := 850) (by decide +kernel), List.mem_of_getElem? (i := 1151) (by decide +kernel), List.mem_of_getElem? (i := 1152) (by decide +kernel)⟩
theorem lw_p35 : lw_okq (⟨"SplitClocksModel", "set", "(JJIZ)V"⟩, 68) := ⟨⟨by decide +kernel, by decide +kernel⟩, List.mem_of_getElem? (i := 850) (by decide +kernel), List.mem_of_getElem? (i := 1155) (by decide +kernel), List.mem_of_getElem? (i := 1156) (by decide +kernel)⟩
theorem lw_p36 : lw_okq (⟨"SplitClocksModel", "lay", "(IJI)I"⟩, 68) := ⟨⟨by decide +kernel, by decide +kernel⟩, List.mem_of_getElem? (i := 850) (by decide +kernel), List.mem_of_getElem? (i := 1159) (by decide +kernel), List.mem_of_getElem? (i := 1160) (by decide +kernel)⟩
theorem lw_p37 : lw_okq (⟨"SplitClocksModel", "become", "(I)V"⟩, 68) := ⟨⟨by decide +kernel, by decide +kernel⟩, List.mem_of_getElem? (i := 850) (by decide +kernel), List.mem_of_getElem? (i := 1163) (by decide +kernel), List.mem_of_getElem? (i := 1164) (by decide +kernel)⟩
theorem lw_p38 : lw_okq (⟨"SplitClocksModel", "least", "(JJ)I"⟩, 68) := ⟨⟨by decide +kernel, by decide +kernel⟩, List.mem_of_getElem? (i := 850) (by decide +kernel), List.mem_of_getElem? (i := 1167) (by decide +kernel), List.mem_of_getElem? (i := 1168) (by decide +kernel)⟩
theorem lw_p39 : lw_okq (⟨"SplitClocksModel", "grow", "(JJ)I"⟩, 68) := ⟨⟨by decide +kernel, by decide +kernel⟩, List.mem_of_getElem? (i := 850) (by decide +kernel), List.mem_of_getElem? (i := 1172) (by decide +kernel), List.mem_of_getElem? (i := 1173) (by decide +kernel)⟩
theorem lw_p40 : lw_okq (⟨"SplitClocksModel", "mark", "(I)V"⟩, 68) := ⟨⟨by decide +kernel, by decide +kernel⟩, List.mem_of_getElem? (i := 850) (by decide +kernel), List.mem_of_getElem? (i := 1176) (by decide +kernel), List.mem_of_getElem? (i := 1177) (by decide +kernel)⟩
theorem lw_p41 : lw_okq (⟨"SplitClocksModel", "joined", "(III)I"⟩, 68) := ⟨⟨by decide +kernel, by decide +kernel⟩, List.mem_of_getElem? (i := 850) (by decide +kernel), List.mem_of_getElem? (i := 1184) (by decide +kernel), List.mem_of_getElem? (i := 1185) (by decide +kernel)⟩
theorem lw_p42 : lw_okq (⟨"SplitClocksModel", "together", "(II)V"⟩, 68) := ⟨⟨by decide +kernel, by decide +kernel⟩, List.mem_of_getElem? (i := 850) (by decide +kernel), List.mem_of_getElem? (i := 1188) (by decide +kernel), List.mem_of_getElem? (i := 1189) (by decide +kernel)⟩
theorem lw_p43 : lw_okq (⟨"SplitClocksModel", "share", "(II)V"⟩, 68) := ⟨⟨by decide +kernel, by decide +kernel⟩, List.mem_of_getElem? (i := 850) (by decide +kernel), List.mem_of_getElem? (i := 1192) (by decide +kernel), List.mem_of_getElem? (i := 1193) (by decide +kernel)⟩
theorem lw_p44 : lw_okq (⟨"SplitClocksModel", "leads", "(II)Z"⟩, 68) := ⟨⟨by decide +kernel, by decide +kernel⟩, List.mem_of_getElem? (i := 850) (by decide +kernel), List.mem_of_getElem? (i := 1216) (by decide +kernel), List.mem_of_getElem? (i := 1217) (by decide +kernel)⟩
theorem lw_p45 : lw_okq (⟨"SplitClocksModel", "heightAt", "(IJ)I"⟩, 68) := ⟨⟨by decide +kernel, by decide +kernel⟩, List.mem_of_getElem? (i := 850) (by decide +kernel), List.mem_of_getElem? (i := 1250) (by decide +kernel), List.mem_of_getElem? (i := 1251) (by decide +kernel)⟩
theorem lw_p46 : lw_okq (⟨"SplitClocksModel", "written", "(Z)I"⟩, 68) := ⟨⟨by decide +kernel, by decide +kernel⟩, List.mem_of_getElem? (i := 850) (by decide +kernel), List.mem_of_getElem? (i := 1262) (by decide +kernel), List.mem_of_getElem? (i := 1263) (by decide +kernel)⟩
theorem lw_p47 : lw_okq (⟨"SplitClocksModel", "writeShare", "(JJ)V"⟩, 68) := ⟨⟨by decide +kernel, by decide +kernel⟩, List.mem_of_getElem? (i := 850) (by decide +kernel), List.mem_of_getElem? (i := 1266) (by decide +kernel), List.mem_of_getElem? (i := 1267) (by decide +kernel)⟩
def lw_privs_3 : List (MethodName × Nat) := [(⟨"SplitClocksModel", "happen", "()V"⟩, 68), (⟨"SplitClocksModel", "fill", "(JJ)V"⟩, 68), (⟨"SplitClocksModel", "most", "(JJ)I"⟩, 68), (⟨"SplitClocksModel", "set", "(JJIZ)V"⟩, 68), (⟨"SplitClocksModel", "lay", "(IJI)I"⟩, 68), (⟨"SplitClocksModel", "become", "(I)V"⟩, 68), (⟨"SplitClocksModel", "least", "(JJ)I"⟩, 68), (⟨"SplitClocksModel", "grow", "(JJ)I"⟩, 68), (⟨"SplitClocksModel", "mark", "(I)V"⟩, 68), (⟨"SplitClocksModel", "joined", "(III)I"⟩, 68), (⟨"SplitClocksModel", "together", "(II)V"⟩, 68), (⟨"SplitClocksModel", "share", "(II)V"⟩, 68), (⟨"SplitClocksModel", "leads", "(II)Z"⟩, 68), (⟨"SplitClocksModel", "heightAt", "(IJ)I"⟩, 68), (⟨"SplitClocksModel", "written", "(Z)I"⟩, 68), (⟨"SplitClocksModel", "writeShare", "(JJ)V"⟩, 68)]
theorem lw_r3 : ∀ q ∈ lw_privs_3, lw_okq q := List.forall_mem_cons.mpr ⟨lw_p32, List.forall_mem_cons.mpr ⟨lw_p33, List.forall_mem_cons.mpr ⟨lw_p34, List.forall_mem_cons.mpr ⟨lw_p35, List.forall_mem_cons.mpr ⟨lw_p36, List.forall_mem_cons.mpr ⟨lw_p37, List.forall_mem_cons.mpr ⟨lw_p38, List.forall_mem_cons.mpr ⟨lw_p39, List.forall_mem_cons.mpr ⟨lw_p40, List.forall_mem_cons.mpr ⟨lw_p41, List.forall_mem_cons.mpr ⟨lw_p42, List.forall_mem_cons.mpr ⟨lw_p43, List.forall_mem_cons.mpr ⟨lw_p44, List.forall_mem_cons.mpr ⟨lw_p45, List.forall_mem_cons.mpr ⟨lw_p46, List.forall_mem_cons.mpr ⟨lw_p47, fun _ h => absurd h List.not_mem_nil⟩⟩⟩⟩⟩⟩⟩⟩⟩⟩⟩⟩⟩⟩⟩⟩
theorem lw_p48 : lw_okq (⟨"SplitClocksModel", "bit", "(Z)V"⟩, 68) := ⟨⟨by decide +kernel, by decide +kernel⟩, List.mem_of_getElem? (i := 850) (by decide +kernel), List.mem_of_getElem? (i := 1270) (by decide +kernel), List.mem_of_getElem? (i := 1271) (by decide +kernel)⟩
theorem lw_p49 : lw_okq (⟨"SplitClocksModel", "writeHeight", "(JJI)V"⟩, 68) := ⟨⟨by decide +kernel, by decide +kernel⟩, List.mem_of_getElem? (i := 850) (by decide +kernel), List.mem_of_getElem? (i := 1274) (by decide +kernel), List.mem_of_getElem? (i := 1275) (by decide +kernel)⟩
theorem lw_p50 : lw_okq (⟨"SplitClocksModel", "number", "(I)V"⟩, 68) := ⟨⟨by decide +kernel, by decide +kernel⟩, List.mem_of_getElem? (i := 850) (by decide +kernel), List.mem_of_getElem? (i := 1278) (by decide +kernel), List.mem_of_getElem? (i := 1279) (by decide +kernel)⟩
theorem lw_p51 : lw_okq (⟨"SplitClocksModel", "history", "(I)I"⟩, 68) := ⟨⟨by decide +kernel, by decide +kernel⟩, List.mem_of_getElem? (i := 850) (by decide +kernel), List.mem_of_getElem? (i := 1283) (by decide +kernel), List.mem_of_getElem? (i := 1284) (by decide +kernel)⟩
theorem lw_p52 : lw_okq (⟨"SplitClocksModel", "turn", "(IIJZ)J"⟩, 68) := ⟨⟨by decide +kernel, by decide +kernel⟩, List.mem_of_getElem? (i := 850) (by decide +kernel), List.mem_of_getElem? (i := 1291) (by decide +kernel), List.mem_of_getElem? (i := 1292) (by decide +kernel)⟩
theorem lw_p53 : lw_okq (⟨"SplitClocksModel", "readShare", "(I)I"⟩, 68) := ⟨⟨by decide +kernel, by decide +kernel⟩, List.mem_of_getElem? (i := 850) (by decide +kernel), List.mem_of_getElem? (i := 1327) (by decide +kernel), List.mem_of_getElem? (i := 1328) (by decide +kernel)⟩
theorem lw_p54 : lw_okq (⟨"SplitClocksModel", "fails", "(I)V"⟩, 68) := ⟨⟨by decide +kernel, by decide +kernel⟩, List.mem_of_getElem? (i := 850) (by decide +kernel), List.mem_of_getElem? (i := 1331) (by decide +kernel), List.mem_of_getElem? (i := 1332) (by decide +kernel)⟩
theorem lw_p55 : lw_okq (⟨"SplitClocksModel", "next", "()I"⟩, 68) := ⟨⟨by decide +kernel, by decide +kernel⟩, List.mem_of_getElem? (i := 850) (by decide +kernel), List.mem_of_getElem? (i := 1335) (by decide +kernel), List.mem_of_getElem? (i := 1336) (by decide +kernel)⟩
theorem lw_p56 : lw_okq (⟨"SplitClocksModel", "readHeight", "(IJI)I"⟩, 68) := ⟨⟨by decide +kernel, by decide +kernel⟩, List.mem_of_getElem? (i := 850) (by decide +kernel), List.mem_of_getElem? (i := 1339) (by decide +kernel), List.mem_of_getElem? (i := 1340) (by decide +kernel)⟩
theorem lw_p57 : lw_okq (⟨"SplitClocksModel", "readNumber", "()I"⟩, 68) := ⟨⟨by decide +kernel, by decide +kernel⟩, List.mem_of_getElem? (i := 850) (by decide +kernel), List.mem_of_getElem? (i := 1343) (by decide +kernel), List.mem_of_getElem? (i := 1344) (by decide +kernel)⟩
theorem lw_p58 : lw_okq (⟨"SplitClocksModel", "step", "(JI)I"⟩, 68) := ⟨⟨by decide +kernel, by decide +kernel⟩, List.mem_of_getElem? (i := 850) (by decide +kernel), List.mem_of_getElem? (i := 1347) (by decide +kernel), List.mem_of_getElem? (i := 1348) (by decide +kernel)⟩
def lw_privs_4 : List (MethodName × Nat) := [(⟨"SplitClocksModel", "bit", "(Z)V"⟩, 68), (⟨"SplitClocksModel", "writeHeight", "(JJI)V"⟩, 68), (⟨"SplitClocksModel", "number", "(I)V"⟩, 68), (⟨"SplitClocksModel", "history", "(I)I"⟩, 68), (⟨"SplitClocksModel", "turn", "(IIJZ)J"⟩, 68), (⟨"SplitClocksModel", "readShare", "(I)I"⟩, 68), (⟨"SplitClocksModel", "fails", "(I)V"⟩, 68), (⟨"SplitClocksModel", "next", "()I"⟩, 68), (⟨"SplitClocksModel", "readHeight", "(IJI)I"⟩, 68), (⟨"SplitClocksModel", "readNumber", "()I"⟩, 68), (⟨"SplitClocksModel", "step", "(JI)I"⟩, 68)]
theorem lw_r4 : ∀ q ∈ lw_privs_4, lw_okq q := List.forall_mem_cons.mpr ⟨lw_p48, List.forall_mem_cons.mpr ⟨lw_p49, List.forall_mem_cons.mpr ⟨lw_p50, List.forall_mem_cons.mpr ⟨lw_p51, List.forall_mem_cons.mpr ⟨lw_p52, List.forall_mem_cons.mpr ⟨lw_p53, List.forall_mem_cons.mpr ⟨lw_p54, List.forall_mem_cons.mpr ⟨lw_p55, List.forall_mem_cons.mpr ⟨lw_p56, List.forall_mem_cons.mpr ⟨lw_p57, List.forall_mem_cons.mpr ⟨lw_p58, fun _ h => absurd h List.not_mem_nil⟩⟩⟩⟩⟩⟩⟩⟩⟩⟩⟩
def lw_privs : List (MethodName × Nat) := lw_privs_1 ++ (lw_privs_2 ++ (lw_privs_3 ++ (lw_privs_4)))
def lw_tbl : List Cond := k2_sels lw_privs ++ tables_1
theorem lw_privs_ok : ∀ q ∈ lw_privs, lw_okq q := by
  show ∀ q ∈ lw_privs_1 ++ (lw_privs_2 ++ (lw_privs_3 ++ (lw_privs_4))), lw_okq q
  exact List.forall_mem_append.mpr ⟨lw_r1, List.forall_mem_append.mpr ⟨lw_r2, List.forall_mem_append.mpr ⟨lw_r3, lw_r4⟩⟩⟩
-- ===== end of PART A; then your names; then what follows =====
def RX0 : String := "SplitClocks$Acts"
def TX0 : u_T := fun k => match k with
  | 0 => ("SplitClocks$Acts", "stamps", "LSplitClocks$Numbers;", true)
  | 1 => ("SplitClocks$Acts", "one", "LSplitClocks$Numbers;", true)
  | 2 => ("SplitClocks$Acts", "stateOfOne", "LSplitClocks$Numbers;", true)
  | 3 => ("SplitClocks$Acts", "other", "LSplitClocks$Numbers;", true)
  | 4 => ("SplitClocks$Acts", "stateOfOther", "LSplitClocks$Numbers;", true)
  | _ => ("SplitClocks$Acts", "size", "I", false)
def tyX0 : Nat → FieldType := fun k => match k with
  | 0 => .object "SplitClocks$Numbers"
  | 1 => .object "SplitClocks$Numbers"
  | 2 => .object "SplitClocks$Numbers"
  | 3 => .object "SplitClocks$Numbers"
  | 4 => .object "SplitClocks$Numbers"
  | _ => .int
abbrev wsX00 : List Cond := u_ws RX0 TX0 6
theorem nmX0 : ∀ a, a < 6 → ∀ b, b < 6 → a ≠ b → (TX0 a).2.1 ≠ (TX0 b).2.1 := by decide +kernel
theorem tyX0_ok : ∀ k, k < 6 → parseFieldDescriptor (TX0 k).2.2.1 = some (tyX0 k) := by decide +kernel
abbrev cX0_init : ByteArray := prog_2_method_1_code
def yX0_init : MethodName := ⟨RX0, "<init>", "()V"⟩
abbrev cX0_clear : ByteArray := prog_2_method_2_code
def yX0_clear : MethodName := ⟨RX0, "clear", "()V"⟩
abbrev cX0_size : ByteArray := prog_2_method_3_code
def yX0_size : MethodName := ⟨RX0, "size", "()I"⟩
abbrev cX0_note : ByteArray := prog_2_method_4_code
def yX0_note : MethodName := ⟨RX0, "note", "(LSplitClocks$Book;III)V"⟩
abbrev cX0_takeBack : ByteArray := prog_2_method_5_code
def yX0_takeBack : MethodName := ⟨RX0, "takeBack", "(LSplitClocks$Book;)Z"⟩
def RX1 : String := "SplitClocks$Bits"
def TX1 : u_T := fun k => match k with
  | 0 => ("SplitClocks$Bits", "cells", "LSplitClocks$Numbers;", true)
  | _ => ("SplitClocks$Bits", "size", "I", false)
def tyX1 : Nat → FieldType := fun k => match k with
  | 0 => .object "SplitClocks$Numbers"
  | _ => .int
abbrev wsX10 : List Cond := u_ws RX1 TX1 2
theorem nmX1 : ∀ a, a < 2 → ∀ b, b < 2 → a ≠ b → (TX1 a).2.1 ≠ (TX1 b).2.1 := by decide +kernel
theorem tyX1_ok : ∀ k, k < 2 → parseFieldDescriptor (TX1 k).2.2.1 = some (tyX1 k) := by decide +kernel
abbrev cX1_init : ByteArray := prog_3_method_1_code
def yX1_init : MethodName := ⟨RX1, "<init>", "()V"⟩
abbrev cX1_size : ByteArray := prog_3_method_2_code
def yX1_size : MethodName := ⟨RX1, "size", "()I"⟩
abbrev cX1_bitAt : ByteArray := prog_3_method_3_code
def yX1_bitAt : MethodName := ⟨RX1, "bitAt", "(I)I"⟩
abbrev cX1_push : ByteArray := prog_3_method_4_code
def yX1_push : MethodName := ⟨RX1, "push", "(JI)V"⟩
abbrev cX1_cut : ByteArray := prog_3_method_5_code
def yX1_cut : MethodName := ⟨RX1, "cut", "(I)Z"⟩
abbrev cX1_copyFrom : ByteArray := prog_3_method_6_code
def yX1_copyFrom : MethodName := ⟨RX1, "copyFrom", "(LSplitClocks$Bits;)V"⟩
def RX2 : String := "SplitClocks$Book"
def TX2 : u_T := fun k => match k with
  | 0 => ("SplitClocks$Book", "trees", "LSplitClocks$Trees;", true)
  | 1 => ("SplitClocks$Book", "own", "LSplitClocks$Numbers;", true)
  | 2 => ("SplitClocks$Book", "known", "LSplitClocks$Numbers;", true)
  | 3 => ("SplitClocks$Book", "how", "LSplitClocks$Numbers;", true)
  | 4 => ("SplitClocks$Book", "first", "LSplitClocks$Numbers;", true)
  | 5 => ("SplitClocks$Book", "second", "LSplitClocks$Numbers;", true)
  | 6 => ("SplitClocks$Book", "state", "LSplitClocks$Numbers;", true)
  | 7 => ("SplitClocks$Book", "nodesTill", "LSplitClocks$Numbers;", true)
  | 8 => ("SplitClocks$Book", "topTill", "LSplitClocks$Numbers;", true)
  | _ => ("SplitClocks$Book", "size", "I", false)
def tyX2 : Nat → FieldType := fun k => match k with
  | 0 => .object "SplitClocks$Trees"
  | 1 => .object "SplitClocks$Numbers"
  | 2 => .object "SplitClocks$Numbers"
  | 3 => .object "SplitClocks$Numbers"
  | 4 => .object "SplitClocks$Numbers"
  | 5 => .object "SplitClocks$Numbers"
  | 6 => .object "SplitClocks$Numbers"
  | 7 => .object "SplitClocks$Numbers"
  | 8 => .object "SplitClocks$Numbers"
  | _ => .int
abbrev wsX20 : List Cond := u_ws RX2 TX2 10
theorem nmX2 : ∀ a, a < 10 → ∀ b, b < 10 → a ≠ b → (TX2 a).2.1 ≠ (TX2 b).2.1 := by decide +kernel
theorem tyX2_ok : ∀ k, k < 10 → parseFieldDescriptor (TX2 k).2.2.1 = some (tyX2 k) := by decide +kernel
abbrev cX2_init : ByteArray := prog_4_method_1_code
def yX2_init : MethodName := ⟨RX2, "<init>", "()V"⟩
abbrev cX2_clear : ByteArray := prog_4_method_2_code
def yX2_clear : MethodName := ⟨RX2, "clear", "()V"⟩
abbrev cX2_size : ByteArray := prog_4_method_3_code
def yX2_size : MethodName := ⟨RX2, "size", "()I"⟩
abbrev cX2_nodes : ByteArray := prog_4_method_4_code
def yX2_nodes : MethodName := ⟨RX2, "nodes", "()I"⟩
abbrev cX2_make : ByteArray := prog_4_method_5_code
def yX2_make : MethodName := ⟨RX2, "make", "(IIIII)I"⟩
abbrev cX2_cut : ByteArray := prog_4_method_6_code
def yX2_cut : MethodName := ⟨RX2, "cut", "(I)V"⟩
abbrev cX2_has : ByteArray := prog_4_method_7_code
def yX2_has : MethodName := ⟨RX2, "has", "(I)Z"⟩
abbrev cX2_ownOf : ByteArray := prog_4_method_8_code
def yX2_ownOf : MethodName := ⟨RX2, "ownOf", "(I)I"⟩
abbrev cX2_knownOf : ByteArray := prog_4_method_9_code
def yX2_knownOf : MethodName := ⟨RX2, "knownOf", "(I)I"⟩
abbrev cX2_howOf : ByteArray := prog_4_method_10_code
def yX2_howOf : MethodName := ⟨RX2, "howOf", "(I)I"⟩
abbrev cX2_firstOf : ByteArray := prog_4_method_11_code
def yX2_firstOf : MethodName := ⟨RX2, "firstOf", "(I)I"⟩
abbrev cX2_secondOf : ByteArray := prog_4_method_12_code
def yX2_secondOf : MethodName := ⟨RX2, "secondOf", "(I)I"⟩
abbrev cX2_stateOf : ByteArray := prog_4_method_13_code
def yX2_stateOf : MethodName := ⟨RX2, "stateOf", "(I)I"⟩
abbrev cX2_setState : ByteArray := prog_4_method_14_code
def yX2_setState : MethodName := ⟨RX2, "setState", "(II)V"⟩
abbrev cX2_ownsNothing : ByteArray := prog_4_method_15_code
def yX2_ownsNothing : MethodName := ⟨RX2, "ownsNothing", "(I)Z"⟩
abbrev cX2_isLiving : ByteArray := prog_4_method_16_code
def yX2_isLiving : MethodName := ⟨RX2, "isLiving", "(I)Z"⟩
abbrev cX2_isOwner : ByteArray := prog_4_method_17_code
def yX2_isOwner : MethodName := ⟨RX2, "isOwner", "(I)Z"⟩
abbrev cX2_isLost : ByteArray := prog_4_method_18_code
def yX2_isLost : MethodName := ⟨RX2, "isLost", "(I)Z"⟩
abbrev cX2_spend : ByteArray := prog_4_method_19_code
def yX2_spend : MethodName := ⟨RX2, "spend", "(I)V"⟩
abbrev cX2_owners : ByteArray := prog_4_method_20_code
def yX2_owners : MethodName := ⟨RX2, "owners", "()I"⟩
abbrev cX2_lostOnes : ByteArray := prog_4_method_21_code
def yX2_lostOnes : MethodName := ⟨RX2, "lostOnes", "()I"⟩
abbrev cX2_events : ByteArray := prog_4_method_22_code
def yX2_events : MethodName := ⟨RX2, "events", "()I"⟩
abbrev cX2_copyFrom : ByteArray := prog_4_method_23_code
def yX2_copyFrom : MethodName := ⟨RX2, "copyFrom", "(LSplitClocks$Book;)V"⟩
def RX3 : String := "SplitClocks$Growth"
def TX3 : u_T := fun k => match k with
  | _ => ("", "", "", false)
def tyX3 : Nat → FieldType := fun k => match k with
  | _ => .int
abbrev wsX30 : List Cond := u_ws RX3 TX3 0
theorem nmX3 : ∀ a, a < 0 → ∀ b, b < 0 → a ≠ b → (TX3 a).2.1 ≠ (TX3 b).2.1 := by decide +kernel
theorem tyX3_ok : ∀ k, k < 0 → parseFieldDescriptor (TX3 k).2.2.1 = some (tyX3 k) := by decide +kernel
abbrev cX3_canPart : ByteArray := prog_5_method_2_code
def yX3_canPart : MethodName := ⟨RX3, "canPart", "(LSplitClocks$Trees;I)Z"⟩
abbrev cX3_hasOneSide : ByteArray := prog_5_method_3_code
def yX3_hasOneSide : MethodName := ⟨RX3, "hasOneSide", "(LSplitClocks$Trees;I)Z"⟩
abbrev cX3_part : ByteArray := prog_5_method_4_code
def yX3_part : MethodName := ⟨RX3, "part", "(LSplitClocks$Trees;IZ)I"⟩
abbrev cX3_partFrom : ByteArray := prog_5_method_5_code
def yX3_partFrom : MethodName := ⟨RX3, "partFrom", "(LSplitClocks$Trees;IZI)V"⟩
abbrev cX3_higher : ByteArray := prog_5_method_6_code
def yX3_higher : MethodName := ⟨RX3, "higher", "(LSplitClocks$Trees;II)I"⟩
abbrev cX3_higherFrom : ByteArray := prog_5_method_7_code
def yX3_higherFrom : MethodName := ⟨RX3, "higherFrom", "(LSplitClocks$Trees;IIIII)V"⟩
abbrev cX3_after : ByteArray := prog_5_method_8_code
def yX3_after : MethodName := ⟨RX3, "after", "(LSplitClocks$Trees;II)I"⟩
abbrev cX3_fillFrom : ByteArray := prog_5_method_9_code
def yX3_fillFrom : MethodName := ⟨RX3, "fillFrom", "(LSplitClocks$Trees;III)V"⟩
abbrev cX3_growFrom : ByteArray := prog_5_method_10_code
def yX3_growFrom : MethodName := ⟨RX3, "growFrom", "(LSplitClocks$Trees;III)V"⟩
abbrev cX3_cost : ByteArray := prog_5_method_11_code
def yX3_cost : MethodName := ⟨RX3, "cost", "(LSplitClocks$Trees;III)I"⟩
def RX4 : String := "SplitClocks$Numbers"
def TX4 : u_T := fun k => match k with
  | 0 => ("SplitClocks$Numbers", "most", "I", true)
  | _ => ("SplitClocks$Numbers", "cells", "[I", false)
def tyX4 : Nat → FieldType := fun k => match k with
  | 0 => .int
  | _ => .array .int
abbrev wsX40 : List Cond := u_ws RX4 TX4 2
theorem nmX4 : ∀ a, a < 2 → ∀ b, b < 2 → a ≠ b → (TX4 a).2.1 ≠ (TX4 b).2.1 := by decide +kernel
theorem tyX4_ok : ∀ k, k < 2 → parseFieldDescriptor (TX4 k).2.2.1 = some (tyX4 k) := by decide +kernel
abbrev cX4_init : ByteArray := prog_6_method_1_code
def yX4_init : MethodName := ⟨RX4, "<init>", "(I)V"⟩
abbrev cX4_at : ByteArray := prog_6_method_2_code
def yX4_at : MethodName := ⟨RX4, "at", "(I)I"⟩
abbrev cX4_put : ByteArray := prog_6_method_3_code
def yX4_put : MethodName := ⟨RX4, "put", "(II)V"⟩
abbrev cX4_copyFrom : ByteArray := prog_6_method_4_code
def yX4_copyFrom : MethodName := ⟨RX4, "copyFrom", "(LSplitClocks$Numbers;I)V"⟩
abbrev cX4_widen : ByteArray := prog_6_method_5_code
def yX4_widen : MethodName := ⟨RX4, "widen", "(I)V"⟩
def RX5 : String := "SplitClocks$Past"
def TX5 : u_T := fun k => match k with
  | 0 => ("SplitClocks$Past", "mine", "LSplitClocks$Numbers;", true)
  | _ => ("SplitClocks$Past", "others", "LSplitClocks$Numbers;", true)
def tyX5 : Nat → FieldType := fun k => match k with
  | 0 => .object "SplitClocks$Numbers"
  | _ => .object "SplitClocks$Numbers"
abbrev wsX50 : List Cond := u_ws RX5 TX5 2
theorem nmX5 : ∀ a, a < 2 → ∀ b, b < 2 → a ≠ b → (TX5 a).2.1 ≠ (TX5 b).2.1 := by decide +kernel
theorem tyX5_ok : ∀ k, k < 2 → parseFieldDescriptor (TX5 k).2.2.1 = some (tyX5 k) := by decide +kernel
abbrev cX5_init : ByteArray := prog_7_method_1_code
def yX5_init : MethodName := ⟨RX5, "<init>", "()V"⟩
abbrev cX5_seen : ByteArray := prog_7_method_2_code
def yX5_seen : MethodName := ⟨RX5, "seen", "(LSplitClocks$Book;I)I"⟩
abbrev cX5_missing : ByteArray := prog_7_method_3_code
def yX5_missing : MethodName := ⟨RX5, "missing", "(LSplitClocks$Book;II)I"⟩
abbrev cX5_eventsIn : ByteArray := prog_7_method_4_code
def yX5_eventsIn : MethodName := ⟨RX5, "eventsIn", "(LSplitClocks$Book;LSplitClocks$Numbers;)I"⟩
abbrev cX5_trace : ByteArray := prog_7_method_5_code
def yX5_trace : MethodName := ⟨RX5, "trace", "(LSplitClocks$Book;ILSplitClocks$Numbers;)Z"⟩
def RX6 : String := "SplitClocks$Reader"
def TX6 : u_T := fun k => match k with
  | 0 => ("SplitClocks$Reader", "from", "LSplitClocks$Bits;", true)
  | 1 => ("SplitClocks$Reader", "next", "I", false)
  | _ => ("SplitClocks$Reader", "faultAt", "I", false)
def tyX6 : Nat → FieldType := fun k => match k with
  | 0 => .object "SplitClocks$Bits"
  | 1 => .int
  | _ => .int
abbrev wsX60 : List Cond := u_ws RX6 TX6 3
theorem nmX6 : ∀ a, a < 3 → ∀ b, b < 3 → a ≠ b → (TX6 a).2.1 ≠ (TX6 b).2.1 := by decide +kernel
theorem tyX6_ok : ∀ k, k < 3 → parseFieldDescriptor (TX6 k).2.2.1 = some (tyX6 k) := by decide +kernel
abbrev cX6_init : ByteArray := prog_8_method_1_code
def yX6_init : MethodName := ⟨RX6, "<init>", "(LSplitClocks$Bits;)V"⟩
abbrev cX6_firstFault : ByteArray := prog_8_method_2_code
def yX6_firstFault : MethodName := ⟨RX6, "firstFault", "()I"⟩
abbrev cX6_scan : ByteArray := prog_8_method_3_code
def yX6_scan : MethodName := ⟨RX6, "scan", "(LSplitClocks$Trees;)I"⟩
abbrev cX6_isFaulty : ByteArray := prog_8_method_4_code
def yX6_isFaulty : MethodName := ⟨RX6, "isFaulty", "()Z"⟩
abbrev cX6_blame : ByteArray := prog_8_method_5_code
def yX6_blame : MethodName := ⟨RX6, "blame", "(I)V"⟩
abbrev cX6_oneBit : ByteArray := prog_8_method_6_code
def yX6_oneBit : MethodName := ⟨RX6, "oneBit", "()I"⟩
abbrev cX6_twoBits : ByteArray := prog_8_method_7_code
def yX6_twoBits : MethodName := ⟨RX6, "twoBits", "()I"⟩
abbrev cX6_numberHere : ByteArray := prog_8_method_8_code
def yX6_numberHere : MethodName := ⟨RX6, "numberHere", "()I"⟩
abbrev cX6_shareFrom : ByteArray := prog_8_method_9_code
def yX6_shareFrom : MethodName := ⟨RX6, "shareFrom", "(LSplitClocks$Reader;I)I"⟩
abbrev cX6_heightFrom : ByteArray := prog_8_method_10_code
def yX6_heightFrom : MethodName := ⟨RX6, "heightFrom", "(LSplitClocks$Reader;LSplitClocks$Trees;I)V"⟩
abbrev cX6_isWellTold : ByteArray := prog_8_method_11_code
def yX6_isWellTold : MethodName := ⟨RX6, "isWellTold", "(LSplitClocks$Trees;II)Z"⟩
def RX7 : String := "SplitClocks$Sight"
def TX7 : u_T := fun k => match k with
  | _ => ("", "", "", false)
def tyX7 : Nat → FieldType := fun k => match k with
  | _ => .int
abbrev wsX70 : List Cond := u_ws RX7 TX7 0
theorem nmX7 : ∀ a, a < 0 → ∀ b, b < 0 → a ≠ b → (TX7 a).2.1 ≠ (TX7 b).2.1 := by decide +kernel
theorem tyX7_ok : ∀ k, k < 0 → parseFieldDescriptor (TX7 k).2.2.1 = some (tyX7 k) := by decide +kernel
abbrev cX7_above : ByteArray := prog_9_method_2_code
def yX7_above : MethodName := ⟨RX7, "above", "(LSplitClocks$Trees;II)Z"⟩
abbrev cX7_aboveFrom : ByteArray := prog_9_method_3_code
def yX7_aboveFrom : MethodName := ⟨RX7, "aboveFrom", "(LSplitClocks$Trees;IIII)Z"⟩
abbrev cX7_firstAbove : ByteArray := prog_9_method_4_code
def yX7_firstAbove : MethodName := ⟨RX7, "firstAbove", "(LSplitClocks$Trees;II)J"⟩
abbrev cX7_seek : ByteArray := prog_9_method_5_code
def yX7_seek : MethodName := ⟨RX7, "seek", "(LSplitClocks$Trees;IIIJI)J"⟩
abbrev cX7_overlap : ByteArray := prog_9_method_6_code
def yX7_overlap : MethodName := ⟨RX7, "overlap", "(LSplitClocks$Trees;II)Z"⟩
abbrev cX7_overlapFrom : ByteArray := prog_9_method_7_code
def yX7_overlapFrom : MethodName := ⟨RX7, "overlapFrom", "(LSplitClocks$Trees;III)Z"⟩
def RX8 : String := "SplitClocks$Trees"
def TX8 : u_T := fun k => match k with
  | 0 => ("SplitClocks$Trees", "number", "LSplitClocks$Numbers;", true)
  | 1 => ("SplitClocks$Trees", "far", "LSplitClocks$Numbers;", true)
  | _ => ("SplitClocks$Trees", "top", "I", false)
def tyX8 : Nat → FieldType := fun k => match k with
  | 0 => .object "SplitClocks$Numbers"
  | 1 => .object "SplitClocks$Numbers"
  | _ => .int
abbrev wsX80 : List Cond := u_ws RX8 TX8 3
theorem nmX8 : ∀ a, a < 3 → ∀ b, b < 3 → a ≠ b → (TX8 a).2.1 ≠ (TX8 b).2.1 := by decide +kernel
theorem tyX8_ok : ∀ k, k < 3 → parseFieldDescriptor (TX8 k).2.2.1 = some (tyX8 k) := by decide +kernel
abbrev cX8_init : ByteArray := prog_10_method_1_code
def yX8_init : MethodName := ⟨RX8, "<init>", "()V"⟩
abbrev cX8_clear : ByteArray := prog_10_method_2_code
def yX8_clear : MethodName := ⟨RX8, "clear", "()V"⟩
abbrev cX8_top : ByteArray := prog_10_method_3_code
def yX8_top : MethodName := ⟨RX8, "top", "()I"⟩
abbrev cX8_cut : ByteArray := prog_10_method_4_code
def yX8_cut : MethodName := ⟨RX8, "cut", "(I)V"⟩
abbrev cX8_numberOf : ByteArray := prog_10_method_5_code
def yX8_numberOf : MethodName := ⟨RX8, "numberOf", "(I)I"⟩
abbrev cX8_setNumber : ByteArray := prog_10_method_6_code
def yX8_setNumber : MethodName := ⟨RX8, "setNumber", "(II)V"⟩
abbrev cX8_isNumber : ByteArray := prog_10_method_7_code
def yX8_isNumber : MethodName := ⟨RX8, "isNumber", "(I)Z"⟩
abbrev cX8_isJust : ByteArray := prog_10_method_8_code
def yX8_isJust : MethodName := ⟨RX8, "isJust", "(II)Z"⟩
abbrev cX8_leftOf : ByteArray := prog_10_method_9_code
def yX8_leftOf : MethodName := ⟨RX8, "leftOf", "(I)I"⟩
abbrev cX8_rightOf : ByteArray := prog_10_method_10_code
def yX8_rightOf : MethodName := ⟨RX8, "rightOf", "(I)I"⟩
abbrev cX8_grow : ByteArray := prog_10_method_11_code
def yX8_grow : MethodName := ⟨RX8, "grow", "(I)I"⟩
abbrev cX8_turn : ByteArray := prog_10_method_12_code
def yX8_turn : MethodName := ⟨RX8, "turn", "(I)V"⟩
abbrev cX8_close : ByteArray := prog_10_method_13_code
def yX8_close : MethodName := ⟨RX8, "close", "(I)V"⟩
abbrev cX8_nodesOf : ByteArray := prog_10_method_14_code
def yX8_nodesOf : MethodName := ⟨RX8, "nodesOf", "(I)I"⟩
abbrev cX8_copy : ByteArray := prog_10_method_15_code
def yX8_copy : MethodName := ⟨RX8, "copy", "(I)V"⟩
abbrev cX8_same : ByteArray := prog_10_method_16_code
def yX8_same : MethodName := ⟨RX8, "same", "(II)Z"⟩
abbrev cX8_numberAt : ByteArray := prog_10_method_17_code
def yX8_numberAt : MethodName := ⟨RX8, "numberAt", "(IJI)I"⟩
abbrev cX8_greatestOf : ByteArray := prog_10_method_18_code
def yX8_greatestOf : MethodName := ⟨RX8, "greatestOf", "(I)I"⟩
abbrev cX8_greatest : ByteArray := prog_10_method_19_code
def yX8_greatest : MethodName := ⟨RX8, "greatest", "(LSplitClocks$Trees;II)I"⟩
abbrev cX8_copyFrom : ByteArray := prog_10_method_20_code
def yX8_copyFrom : MethodName := ⟨RX8, "copyFrom", "(LSplitClocks$Trees;)V"⟩
def RX9 : String := "SplitClocks$Writer"
def TX9 : u_T := fun k => match k with
  | _ => ("", "", "", false)
def tyX9 : Nat → FieldType := fun k => match k with
  | _ => .int
abbrev wsX90 : List Cond := u_ws RX9 TX9 0
theorem nmX9 : ∀ a, a < 0 → ∀ b, b < 0 → a ≠ b → (TX9 a).2.1 ≠ (TX9 b).2.1 := by decide +kernel
theorem tyX9_ok : ∀ k, k < 0 → parseFieldDescriptor (TX9 k).2.2.1 = some (tyX9 k) := by decide +kernel
abbrev cX9_shareFrom : ByteArray := prog_11_method_2_code
def yX9_shareFrom : MethodName := ⟨RX9, "shareFrom", "(LSplitClocks$Trees;ILSplitClocks$Bits;I)V"⟩
abbrev cX9_heightFrom : ByteArray := prog_11_method_3_code
def yX9_heightFrom : MethodName := ⟨RX9, "heightFrom", "(LSplitClocks$Trees;ILSplitClocks$Bits;I)V"⟩
abbrev cX9_pushNumber : ByteArray := prog_11_method_4_code
def yX9_pushNumber : MethodName := ⟨RX9, "pushNumber", "(ILSplitClocks$Bits;)V"⟩
def RX10 : String := "SplitClocks"
def TX10 : u_T := fun k => match k with
  | 0 => ("SplitClocks", "book", "LSplitClocks$Book;", true)
  | 1 => ("SplitClocks", "kept", "LSplitClocks$Book;", true)
  | 2 => ("SplitClocks", "acts", "LSplitClocks$Acts;", true)
  | 3 => ("SplitClocks", "past", "LSplitClocks$Past;", true)
  | 4 => ("SplitClocks", "row", "LSplitClocks$Bits;", true)
  | 5 => ("SplitClocks", "draft", "LSplitClocks$Bits;", true)
  | 6 => ("SplitClocks", "reader", "LSplitClocks$Reader;", true)
  | 7 => ("SplitClocks", "imageStands", "Z", false)
  | 8 => ("SplitClocks", "lastFault", "I", false)
  | 9 => ("SplitClocks", "toldPlace", "J", false)
  | _ => ("SplitClocks", "toldDigits", "I", false)
def tyX10 : Nat → FieldType := fun k => match k with
  | 0 => .object "SplitClocks$Book"
  | 1 => .object "SplitClocks$Book"
  | 2 => .object "SplitClocks$Acts"
  | 3 => .object "SplitClocks$Past"
  | 4 => .object "SplitClocks$Bits"
  | 5 => .object "SplitClocks$Bits"
  | 6 => .object "SplitClocks$Reader"
  | 7 => .boolean
  | 8 => .int
  | 9 => .long
  | _ => .int
abbrev wsX100 : List Cond := u_ws RX10 TX10 11
theorem nmX10 : ∀ a, a < 11 → ∀ b, b < 11 → a ≠ b → (TX10 a).2.1 ≠ (TX10 b).2.1 := by decide +kernel
theorem tyX10_ok : ∀ k, k < 11 → parseFieldDescriptor (TX10 k).2.2.1 = some (tyX10 k) := by decide +kernel
abbrev cX10_init : ByteArray := prog_1_method_1_code
def yX10_init : MethodName := ⟨RX10, "<init>", "()V"⟩
abbrev cX10_seed : ByteArray := prog_1_method_2_code
def yX10_seed : MethodName := ⟨RX10, "seed", "()V"⟩
abbrev cX10_fork : ByteArray := prog_1_method_3_code
def yX10_fork : MethodName := ⟨RX10, "fork", "(I)I"⟩
abbrev cX10_event : ByteArray := prog_1_method_4_code
def yX10_event : MethodName := ⟨RX10, "event", "(I)I"⟩
abbrev cX10_join : ByteArray := prog_1_method_5_code
def yX10_join : MethodName := ⟨RX10, "join", "(II)I"⟩
abbrev cX10_peek : ByteArray := prog_1_method_6_code
def yX10_peek : MethodName := ⟨RX10, "peek", "(I)I"⟩
abbrev cX10_send : ByteArray := prog_1_method_7_code
def yX10_send : MethodName := ⟨RX10, "send", "(I)I"⟩
abbrev cX10_take : ByteArray := prog_1_method_8_code
def yX10_take : MethodName := ⟨RX10, "take", "(II)I"⟩
abbrev cX10_lose : ByteArray := prog_1_method_9_code
def yX10_lose : MethodName := ⟨RX10, "lose", "(I)Z"⟩
abbrev cX10_home : ByteArray := prog_1_method_10_code
def yX10_home : MethodName := ⟨RX10, "home", "(II)I"⟩
abbrev cX10_undo : ByteArray := prog_1_method_11_code
def yX10_undo : MethodName := ⟨RX10, "undo", "()Z"⟩
abbrev cX10_relation : ByteArray := prog_1_method_12_code
def yX10_relation : MethodName := ⟨RX10, "relation", "(II)I"⟩
abbrev cX10_unseen : ByteArray := prog_1_method_13_code
def yX10_unseen : MethodName := ⟨RX10, "unseen", "(II)I"⟩
abbrev cX10_meets : ByteArray := prog_1_method_14_code
def yX10_meets : MethodName := ⟨RX10, "meets", "(II)Z"⟩
abbrev cX10_height : ByteArray := prog_1_method_15_code
def yX10_height : MethodName := ⟨RX10, "height", "(IJI)I"⟩
abbrev cX10_owns : ByteArray := prog_1_method_16_code
def yX10_owns : MethodName := ⟨RX10, "owns", "(IJI)Z"⟩
abbrev cX10_stamp : ByteArray := prog_1_method_17_code
def yX10_stamp : MethodName := ⟨RX10, "stamp", "(II)I"⟩
abbrev cX10_witness : ByteArray := prog_1_method_18_code
def yX10_witness : MethodName := ⟨RX10, "witness", "(III)Z"⟩
abbrev cX10_place : ByteArray := prog_1_method_19_code
def yX10_place : MethodName := ⟨RX10, "place", "()J"⟩
abbrev cX10_digits : ByteArray := prog_1_method_20_code
def yX10_digits : MethodName := ⟨RX10, "digits", "()I"⟩
abbrev cX10_check : ByteArray := prog_1_method_21_code
def yX10_check : MethodName := ⟨RX10, "check", "(IIJIJI)I"⟩
abbrev cX10_pack : ByteArray := prog_1_method_22_code
def yX10_pack : MethodName := ⟨RX10, "pack", "(I)I"⟩
abbrev cX10_bit : ByteArray := prog_1_method_23_code
def yX10_bit : MethodName := ⟨RX10, "bit", "(I)I"⟩
abbrev cX10_add : ByteArray := prog_1_method_24_code
def yX10_add : MethodName := ⟨RX10, "add", "(JI)I"⟩
abbrev cX10_end : ByteArray := prog_1_method_25_code
def yX10_end : MethodName := ⟨RX10, "end", "(I)Z"⟩
abbrev cX10_read : ByteArray := prog_1_method_26_code
def yX10_read : MethodName := ⟨RX10, "read", "()I"⟩
abbrev cX10_fault : ByteArray := prog_1_method_27_code
def yX10_fault : MethodName := ⟨RX10, "fault", "()I"⟩
abbrev cX10_image : ByteArray := prog_1_method_28_code
def yX10_image : MethodName := ⟨RX10, "image", "()Z"⟩
abbrev cX10_back : ByteArray := prog_1_method_29_code
def yX10_back : MethodName := ⟨RX10, "back", "()Z"⟩
abbrev cX10_count : ByteArray := prog_1_method_30_code
def yX10_count : MethodName := ⟨RX10, "count", "(I)I"⟩
abbrev cX10_plant : ByteArray := prog_1_method_31_code
def yX10_plant : MethodName := ⟨RX10, "plant", "()V"⟩
abbrev cX10_settle : ByteArray := prog_1_method_32_code
def yX10_settle : MethodName := ⟨RX10, "settle", "(IIII)Z"⟩
abbrev cX10_canMelt : ByteArray := prog_1_method_33_code
def yX10_canMelt : MethodName := ⟨RX10, "canMelt", "(II)Z"⟩
abbrev cX10_leads : ByteArray := prog_1_method_34_code
def yX10_leads : MethodName := ⟨RX10, "leads", "(II)Z"⟩
abbrev cX10_makeEvent : ByteArray := prog_1_method_35_code
def yX10_makeEvent : MethodName := ⟨RX10, "makeEvent", "(I)I"⟩
abbrev cX10_makeJoin : ByteArray := prog_1_method_36_code
def yX10_makeJoin : MethodName := ⟨RX10, "makeJoin", "(III)I"⟩
abbrev cX10_makePeek : ByteArray := prog_1_method_37_code
def yX10_makePeek : MethodName := ⟨RX10, "makePeek", "(I)I"⟩
abbrev cX10_isAboveAt : ByteArray := prog_1_method_38_code
def yX10_isAboveAt : MethodName := ⟨RX10, "isAboveAt", "(IIJI)Z"⟩
abbrev cX10_draftOf : ByteArray := prog_1_method_39_code
def yX10_draftOf : MethodName := ⟨RX10, "draftOf", "(I)I"⟩
abbrev cX10_isPlace : ByteArray := prog_1_method_40_code
def yX10_isPlace : MethodName := ⟨RX10, "isPlace", "(JI)Z"⟩
def RX11 : String := "SplitClocksModel"
def TX11 : u_T := fun k => match k with
  | 0 => ("SplitClocksModel", "steps", "[J", true)
  | 1 => ("SplitClocksModel", "heights", "[I", true)
  | 2 => ("SplitClocksModel", "froms", "[J", true)
  | 3 => ("SplitClocksModel", "tos", "[J", true)
  | 4 => ("SplitClocksModel", "stepFrom", "[I", true)
  | 5 => ("SplitClocksModel", "spanFrom", "[I", true)
  | 6 => ("SplitClocksModel", "lives", "[Z", true)
  | 7 => ("SplitClocksModel", "lost", "[Z", true)
  | 8 => ("SplitClocksModel", "strange", "[Z", true)
  | 9 => ("SplitClocksModel", "how", "[B", true)
  | 10 => ("SplitClocksModel", "first", "[S", true)
  | 11 => ("SplitClocksModel", "second", "[S", true)
  | 12 => ("SplitClocksModel", "ownNodes", "[I", true)
  | 13 => ("SplitClocksModel", "knownNodes", "[I", true)
  | 14 => ("SplitClocksModel", "seen", "[J", true)
  | 15 => ("SplitClocksModel", "many", "I", false)
  | 16 => ("SplitClocksModel", "events", "I", false)
  | 17 => ("SplitClocksModel", "nodes", "I", false)
  | 18 => ("SplitClocksModel", "actMany", "[S", true)
  | 19 => ("SplitClocksModel", "actEvents", "[S", true)
  | 20 => ("SplitClocksModel", "actOne", "[S", true)
  | 21 => ("SplitClocksModel", "actTwo", "[S", true)
  | 22 => ("SplitClocksModel", "actOneLived", "[Z", true)
  | 23 => ("SplitClocksModel", "actTwoLived", "[Z", true)
  | 24 => ("SplitClocksModel", "actLost", "[S", true)
  | 25 => ("SplitClocksModel", "actHome", "[S", true)
  | 26 => ("SplitClocksModel", "acts", "I", false)
  | 27 => ("SplitClocksModel", "w", "[J", true)
  | 28 => ("SplitClocksModel", "wh", "[I", true)
  | 29 => ("SplitClocksModel", "wMany", "I", false)
  | 30 => ("SplitClocksModel", "x", "[J", true)
  | 31 => ("SplitClocksModel", "xh", "[I", true)
  | 32 => ("SplitClocksModel", "of", "[J", true)
  | 33 => ("SplitClocksModel", "ot", "[J", true)
  | 34 => ("SplitClocksModel", "oMany", "I", false)
  | 35 => ("SplitClocksModel", "row", "[Z", true)
  | 36 => ("SplitClocksModel", "bits", "I", false)
  | 37 => ("SplitClocksModel", "fault", "I", false)
  | 38 => ("SplitClocksModel", "witnessPlace", "J", false)
  | 39 => ("SplitClocksModel", "witnessDigits", "I", false)
  | 40 => ("SplitClocksModel", "thrown", "I", false)
  | 41 => ("SplitClocksModel", "hasImage", "Z", false)
  | 42 => ("SplitClocksModel", "kSteps", "[J", true)
  | 43 => ("SplitClocksModel", "kHeights", "[I", true)
  | 44 => ("SplitClocksModel", "kFroms", "[J", true)
  | 45 => ("SplitClocksModel", "kTos", "[J", true)
  | 46 => ("SplitClocksModel", "kStepFrom", "[I", true)
  | 47 => ("SplitClocksModel", "kSpanFrom", "[I", true)
  | 48 => ("SplitClocksModel", "kLives", "[Z", true)
  | 49 => ("SplitClocksModel", "kLost", "[Z", true)
  | 50 => ("SplitClocksModel", "kStrange", "[Z", true)
  | 51 => ("SplitClocksModel", "kHow", "[B", true)
  | 52 => ("SplitClocksModel", "kFirst", "[S", true)
  | 53 => ("SplitClocksModel", "kSecond", "[S", true)
  | 54 => ("SplitClocksModel", "kOwnNodes", "[I", true)
  | 55 => ("SplitClocksModel", "kKnownNodes", "[I", true)
  | 56 => ("SplitClocksModel", "kSeen", "[J", true)
  | 57 => ("SplitClocksModel", "kMany", "I", false)
  | 58 => ("SplitClocksModel", "kEvents", "I", false)
  | 59 => ("SplitClocksModel", "kNodes", "I", false)
  | 60 => ("SplitClocksModel", "growFrom", "J", false)
  | 61 => ("SplitClocksModel", "growSize", "J", false)
  | 62 => ("SplitClocksModel", "oldSteps", "[J", true)
  | 63 => ("SplitClocksModel", "oldHeights", "[I", true)
  | 64 => ("SplitClocksModel", "writes", "Z", false)
  | 65 => ("SplitClocksModel", "at", "I", false)
  | 66 => ("SplitClocksModel", "wrong", "I", false)
  | _ => ("SplitClocksModel", "isNumber", "Z", false)
def tyX11 : Nat → FieldType := fun k => match k with
  | 0 => .array .long
  | 1 => .array .int
  | 2 => .array .long
  | 3 => .array .long
  | 4 => .array .int
  | 5 => .array .int
  | 6 => .array .boolean
  | 7 => .array .boolean
  | 8 => .array .boolean
  | 9 => .array .byte
  | 10 => .array .short
  | 11 => .array .short
  | 12 => .array .int
  | 13 => .array .int
  | 14 => .array .long
  | 15 => .int
  | 16 => .int
  | 17 => .int
  | 18 => .array .short
  | 19 => .array .short
  | 20 => .array .short
  | 21 => .array .short
  | 22 => .array .boolean
  | 23 => .array .boolean
  | 24 => .array .short
  | 25 => .array .short
  | 26 => .int
  | 27 => .array .long
  | 28 => .array .int
  | 29 => .int
  | 30 => .array .long
  | 31 => .array .int
  | 32 => .array .long
  | 33 => .array .long
  | 34 => .int
  | 35 => .array .boolean
  | 36 => .int
  | 37 => .int
  | 38 => .long
  | 39 => .int
  | 40 => .int
  | 41 => .boolean
  | 42 => .array .long
  | 43 => .array .int
  | 44 => .array .long
  | 45 => .array .long
  | 46 => .array .int
  | 47 => .array .int
  | 48 => .array .boolean
  | 49 => .array .boolean
  | 50 => .array .boolean
  | 51 => .array .byte
  | 52 => .array .short
  | 53 => .array .short
  | 54 => .array .int
  | 55 => .array .int
  | 56 => .array .long
  | 57 => .int
  | 58 => .int
  | 59 => .int
  | 60 => .long
  | 61 => .long
  | 62 => .array .long
  | 63 => .array .int
  | 64 => .boolean
  | 65 => .int
  | 66 => .int
  | _ => .boolean
abbrev wsX110 : List Cond := u_ws RX11 TX11 68
theorem nmX11 : ∀ a, a < 68 → ∀ b, b < 68 → a ≠ b → (TX11 a).2.1 ≠ (TX11 b).2.1 := by decide +kernel
theorem tyX11_ok : ∀ k, k < 68 → parseFieldDescriptor (TX11 k).2.2.1 = some (tyX11 k) := by decide +kernel
abbrev cX11_init : ByteArray := prog_13_method_1_code
def yX11_init : MethodName := ⟨RX11, "<init>", "()V"⟩
abbrev cX11_seed : ByteArray := prog_13_method_3_code
def yX11_seed : MethodName := ⟨RX11, "seed", "()V"⟩
abbrev cX11_is : ByteArray := prog_13_method_4_code
def yX11_is : MethodName := ⟨RX11, "is", "(I)Z"⟩
abbrev cX11_isAlive : ByteArray := prog_13_method_5_code
def yX11_isAlive : MethodName := ⟨RX11, "isAlive", "(I)Z"⟩
abbrev cX11_owns : ByteArray := prog_13_method_6_code
def yX11_owns : MethodName := ⟨RX11, "owns", "(I)Z"⟩
abbrev cX11_hasRoom : ByteArray := prog_13_method_7_code
def yX11_hasRoom : MethodName := ⟨RX11, "hasRoom", "(II)Z"⟩
abbrev cX11_make : ByteArray := prog_13_method_8_code
def yX11_make : MethodName := ⟨RX11, "make", "(III)I"⟩
abbrev cX11_takeKnown : ByteArray := prog_13_method_9_code
def yX11_takeKnown : MethodName := ⟨RX11, "takeKnown", "(I)V"⟩
abbrev cX11_takeOwn : ByteArray := prog_13_method_10_code
def yX11_takeOwn : MethodName := ⟨RX11, "takeOwn", "(I)V"⟩
abbrev cX11_at : ByteArray := prog_13_method_11_code
def yX11_at : MethodName := ⟨RX11, "at", "(J)I"⟩
abbrev cX11_behind : ByteArray := prog_13_method_12_code
def yX11_behind : MethodName := ⟨RX11, "behind", "(I)J"⟩
abbrev cX11_isFlat : ByteArray := prog_13_method_13_code
def yX11_isFlat : MethodName := ⟨RX11, "isFlat", "(JJ)Z"⟩
abbrev cX11_most : ByteArray := prog_13_method_14_code
def yX11_most : MethodName := ⟨RX11, "most", "(JJ)I"⟩
abbrev cX11_least : ByteArray := prog_13_method_15_code
def yX11_least : MethodName := ⟨RX11, "least", "(JJ)I"⟩
abbrev cX11_lay : ByteArray := prog_13_method_16_code
def yX11_lay : MethodName := ⟨RX11, "lay", "(IJI)I"⟩
abbrev cX11_become : ByteArray := prog_13_method_17_code
def yX11_become : MethodName := ⟨RX11, "become", "(I)V"⟩
abbrev cX11_set : ByteArray := prog_13_method_18_code
def yX11_set : MethodName := ⟨RX11, "set", "(JJIZ)V"⟩
abbrev cX11_heightNodes : ByteArray := prog_13_method_19_code
def yX11_heightNodes : MethodName := ⟨RX11, "heightNodes", "(JJ)I"⟩
abbrev cX11_part : ByteArray := prog_13_method_20_code
def yX11_part : MethodName := ⟨RX11, "part", "(JJ)I"⟩
abbrev cX11_shareNodes : ByteArray := prog_13_method_21_code
def yX11_shareNodes : MethodName := ⟨RX11, "shareNodes", "(JJ)I"⟩
abbrev cX11_cut : ByteArray := prog_13_method_22_code
def yX11_cut : MethodName := ⟨RX11, "cut", "(IJJ)V"⟩
abbrev cX11_note : ByteArray := prog_13_method_23_code
def yX11_note : MethodName := ⟨RX11, "note", "(II)V"⟩
abbrev cX11_spend : ByteArray := prog_13_method_24_code
def yX11_spend : MethodName := ⟨RX11, "spend", "(I)V"⟩
abbrev cX11_fork : ByteArray := prog_13_method_25_code
def yX11_fork : MethodName := ⟨RX11, "fork", "(I)I"⟩
abbrev cX11_fill : ByteArray := prog_13_method_26_code
def yX11_fill : MethodName := ⟨RX11, "fill", "(JJ)V"⟩
abbrev cX11_grow : ByteArray := prog_13_method_27_code
def yX11_grow : MethodName := ⟨RX11, "grow", "(JJ)I"⟩
abbrev cX11_happen : ByteArray := prog_13_method_28_code
def yX11_happen : MethodName := ⟨RX11, "happen", "()V"⟩
abbrev cX11_mark : ByteArray := prog_13_method_29_code
def yX11_mark : MethodName := ⟨RX11, "mark", "(I)V"⟩
abbrev cX11_event : ByteArray := prog_13_method_30_code
def yX11_event : MethodName := ⟨RX11, "event", "(I)I"⟩
abbrev cX11_together : ByteArray := prog_13_method_31_code
def yX11_together : MethodName := ⟨RX11, "together", "(II)V"⟩
abbrev cX11_share : ByteArray := prog_13_method_32_code
def yX11_share : MethodName := ⟨RX11, "share", "(II)V"⟩
abbrev cX11_joined : ByteArray := prog_13_method_33_code
def yX11_joined : MethodName := ⟨RX11, "joined", "(III)I"⟩
abbrev cX11_join : ByteArray := prog_13_method_34_code
def yX11_join : MethodName := ⟨RX11, "join", "(II)I"⟩
abbrev cX11_peek : ByteArray := prog_13_method_35_code
def yX11_peek : MethodName := ⟨RX11, "peek", "(I)I"⟩
abbrev cX11_send : ByteArray := prog_13_method_36_code
def yX11_send : MethodName := ⟨RX11, "send", "(I)I"⟩
abbrev cX11_take : ByteArray := prog_13_method_37_code
def yX11_take : MethodName := ⟨RX11, "take", "(II)I"⟩
abbrev cX11_lose : ByteArray := prog_13_method_38_code
def yX11_lose : MethodName := ⟨RX11, "lose", "(I)Z"⟩
abbrev cX11_home : ByteArray := prog_13_method_39_code
def yX11_home : MethodName := ⟨RX11, "home", "(II)I"⟩
abbrev cX11_undo : ByteArray := prog_13_method_40_code
def yX11_undo : MethodName := ⟨RX11, "undo", "()Z"⟩
abbrev cX11_leads : ByteArray := prog_13_method_41_code
def yX11_leads : MethodName := ⟨RX11, "leads", "(II)Z"⟩
abbrev cX11_relation : ByteArray := prog_13_method_42_code
def yX11_relation : MethodName := ⟨RX11, "relation", "(II)I"⟩
abbrev cX11_unseen : ByteArray := prog_13_method_43_code
def yX11_unseen : MethodName := ⟨RX11, "unseen", "(II)I"⟩
abbrev cX11_meets : ByteArray := prog_13_method_44_code
def yX11_meets : MethodName := ⟨RX11, "meets", "(II)Z"⟩
abbrev cX11_isPlace : ByteArray := prog_13_method_45_code
def yX11_isPlace : MethodName := ⟨RX11, "isPlace", "(JI)Z"⟩
abbrev cX11_heightAt : ByteArray := prog_13_method_46_code
def yX11_heightAt : MethodName := ⟨RX11, "heightAt", "(IJ)I"⟩
abbrev cX11_height : ByteArray := prog_13_method_47_code
def yX11_height : MethodName := ⟨RX11, "height", "(IJI)I"⟩
abbrev cX11_owns_ : ByteArray := prog_13_method_48_code
def yX11_owns_ : MethodName := ⟨RX11, "owns", "(IJI)Z"⟩
abbrev cX11_stamp : ByteArray := prog_13_method_49_code
def yX11_stamp : MethodName := ⟨RX11, "stamp", "(II)I"⟩
abbrev cX11_history : ByteArray := prog_13_method_50_code
def yX11_history : MethodName := ⟨RX11, "history", "(I)I"⟩
abbrev cX11_turn : ByteArray := prog_13_method_51_code
def yX11_turn : MethodName := ⟨RX11, "turn", "(IIJZ)J"⟩
abbrev cX11_witness : ByteArray := prog_13_method_52_code
def yX11_witness : MethodName := ⟨RX11, "witness", "(III)Z"⟩
abbrev cX11_place : ByteArray := prog_13_method_53_code
def yX11_place : MethodName := ⟨RX11, "place", "()J"⟩
abbrev cX11_digits : ByteArray := prog_13_method_54_code
def yX11_digits : MethodName := ⟨RX11, "digits", "()I"⟩
abbrev cX11_check : ByteArray := prog_13_method_55_code
def yX11_check : MethodName := ⟨RX11, "check", "(IIJIJI)I"⟩
abbrev cX11_bit : ByteArray := prog_13_method_56_code
def yX11_bit : MethodName := ⟨RX11, "bit", "(Z)V"⟩
abbrev cX11_number : ByteArray := prog_13_method_57_code
def yX11_number : MethodName := ⟨RX11, "number", "(I)V"⟩
abbrev cX11_writeShare : ByteArray := prog_13_method_58_code
def yX11_writeShare : MethodName := ⟨RX11, "writeShare", "(JJ)V"⟩
abbrev cX11_writeHeight : ByteArray := prog_13_method_59_code
def yX11_writeHeight : MethodName := ⟨RX11, "writeHeight", "(JJI)V"⟩
abbrev cX11_written : ByteArray := prog_13_method_60_code
def yX11_written : MethodName := ⟨RX11, "written", "(Z)I"⟩
abbrev cX11_pack : ByteArray := prog_13_method_61_code
def yX11_pack : MethodName := ⟨RX11, "pack", "(I)I"⟩
abbrev cX11_bit_ : ByteArray := prog_13_method_62_code
def yX11_bit_ : MethodName := ⟨RX11, "bit", "(I)I"⟩
abbrev cX11_add : ByteArray := prog_13_method_63_code
def yX11_add : MethodName := ⟨RX11, "add", "(JI)I"⟩
abbrev cX11_end : ByteArray := prog_13_method_64_code
def yX11_end : MethodName := ⟨RX11, "end", "(I)Z"⟩
abbrev cX11_fails : ByteArray := prog_13_method_65_code
def yX11_fails : MethodName := ⟨RX11, "fails", "(I)V"⟩
abbrev cX11_next : ByteArray := prog_13_method_66_code
def yX11_next : MethodName := ⟨RX11, "next", "()I"⟩
abbrev cX11_readNumber : ByteArray := prog_13_method_67_code
def yX11_readNumber : MethodName := ⟨RX11, "readNumber", "()I"⟩
abbrev cX11_readShare : ByteArray := prog_13_method_68_code
def yX11_readShare : MethodName := ⟨RX11, "readShare", "(I)I"⟩
abbrev cX11_readHeight : ByteArray := prog_13_method_69_code
def yX11_readHeight : MethodName := ⟨RX11, "readHeight", "(IJI)I"⟩
abbrev cX11_step : ByteArray := prog_13_method_70_code
def yX11_step : MethodName := ⟨RX11, "step", "(JI)I"⟩
abbrev cX11_read : ByteArray := prog_13_method_71_code
def yX11_read : MethodName := ⟨RX11, "read", "()I"⟩
abbrev cX11_fault : ByteArray := prog_13_method_72_code
def yX11_fault : MethodName := ⟨RX11, "fault", "()I"⟩
abbrev cX11_image : ByteArray := prog_13_method_73_code
def yX11_image : MethodName := ⟨RX11, "image", "()Z"⟩
abbrev cX11_back : ByteArray := prog_13_method_74_code
def yX11_back : MethodName := ⟨RX11, "back", "()Z"⟩
abbrev cX11_count : ByteArray := prog_13_method_75_code
def yX11_count : MethodName := ⟨RX11, "count", "(I)I"⟩
def RJx8e188 : String := "java/lang/Cloneable"
def TJx8e188 : u_T := fun k => match k with
  | _ => ("", "", "", false)
def tyJx8e188 : Nat → FieldType := fun k => match k with
  | _ => .int
abbrev wsJx8e1880 : List Cond := u_ws RJx8e188 TJx8e188 0
theorem nmJx8e188 : ∀ a, a < 0 → ∀ b, b < 0 → a ≠ b → (TJx8e188 a).2.1 ≠ (TJx8e188 b).2.1 := by decide +kernel
theorem tyJx8e188_ok : ∀ k, k < 0 → parseFieldDescriptor (TJx8e188 k).2.2.1 = some (tyJx8e188 k) := by decide +kernel
def RJ13 : String := "java/lang/Long"
def TJ13 : u_T := fun k => match k with
  | _ => ("", "", "", false)
def tyJ13 : Nat → FieldType := fun k => match k with
  | _ => .int
abbrev wsJ130 : List Cond := u_ws RJ13 TJ13 0
theorem nmJ13 : ∀ a, a < 0 → ∀ b, b < 0 → a ≠ b → (TJ13 a).2.1 ≠ (TJ13 b).2.1 := by decide +kernel
theorem tyJ13_ok : ∀ k, k < 0 → parseFieldDescriptor (TJ13 k).2.2.1 = some (tyJ13 k) := by decide +kernel
abbrev cJ13_bitCount_95d88 : ByteArray := prog_16_method_50_code
def yJ13_bitCount_95d88 : MethodName := ⟨RJ13, "bitCount", "(J)I"⟩
def RJ9 : String := "java/lang/Math"
def TJ9 : u_T := fun k => match k with
  | _ => ("", "", "", false)
def tyJ9 : Nat → FieldType := fun k => match k with
  | _ => .int
abbrev wsJ90 : List Cond := u_ws RJ9 TJ9 0
theorem nmJ9 : ∀ a, a < 0 → ∀ b, b < 0 → a ≠ b → (TJ9 a).2.1 ≠ (TJ9 b).2.1 := by decide +kernel
theorem tyJ9_ok : ∀ k, k < 0 → parseFieldDescriptor (TJ9 k).2.2.1 = some (tyJ9 k) := by decide +kernel
abbrev cJ9_max_7cf53 : ByteArray := prog_17_method_65_code
def yJ9_max_7cf53 : MethodName := ⟨RJ9, "max", "(II)I"⟩
abbrev cJ9_min_7cf53 : ByteArray := prog_17_method_69_code
def yJ9_min_7cf53 : MethodName := ⟨RJ9, "min", "(II)I"⟩
def RJ0 : String := "java/lang/String"
def TJ0 : u_T := fun k => match k with
  | _ => ("", "", "", false)
def tyJ0 : Nat → FieldType := fun k => match k with
  | _ => .int
abbrev wsJ00 : List Cond := u_ws RJ0 TJ0 0
theorem nmJ0 : ∀ a, a < 0 → ∀ b, b < 0 → a ≠ b → (TJ0 a).2.1 ≠ (TJ0 b).2.1 := by decide +kernel
theorem tyJ0_ok : ∀ k, k < 0 → parseFieldDescriptor (TJ0 k).2.2.1 = some (tyJ0 k) := by decide +kernel
def RJ10 : String := "java/lang/System"
def TJ10 : u_T := fun k => match k with
  | _ => ("", "", "", false)
def tyJ10 : Nat → FieldType := fun k => match k with
  | _ => .int
abbrev wsJ100 : List Cond := u_ws RJ10 TJ10 0
theorem nmJ10 : ∀ a, a < 0 → ∀ b, b < 0 → a ≠ b → (TJ10 a).2.1 ≠ (TJ10 b).2.1 := by decide +kernel
theorem tyJ10_ok : ∀ k, k < 0 → parseFieldDescriptor (TJ10 k).2.2.1 = some (tyJ10 k) := by decide +kernel
def RJ7 : String := "java/util/Arrays"
def TJ7 : u_T := fun k => match k with
  | _ => ("", "", "", false)
def tyJ7 : Nat → FieldType := fun k => match k with
  | _ => .int
abbrev wsJ70 : List Cond := u_ws RJ7 TJ7 0
theorem nmJ7 : ∀ a, a < 0 → ∀ b, b < 0 → a ≠ b → (TJ7 a).2.1 ≠ (TJ7 b).2.1 := by decide +kernel
theorem tyJ7_ok : ∀ k, k < 0 → parseFieldDescriptor (TJ7 k).2.2.1 = some (tyJ7 k) := by decide +kernel
abbrev cJ7_copyOf_59c91 : ByteArray := prog_22_method_123_code
def yJ7_copyOf_59c91 : MethodName := ⟨RJ7, "copyOf", "([II)[I"⟩
def RL : String := "SplitClocksLaw"
abbrev cL_height : ByteArray := method_3_code
def yL_height : MethodName := ⟨RL, "height", "(LSplitClocks;IJI[J)I"⟩
abbrev cL_owns : ByteArray := method_4_code
def yL_owns : MethodName := ⟨RL, "owns", "(LSplitClocks;IJI[J)I"⟩
abbrev cL_law : ByteArray := code
def yL_law : MethodName := ⟨RL, "law", "([I)Z"⟩
def RNse : String := "java/util/NoSuchElementException"
def TNse : u_T := fun _ => ("", "", "", false)
abbrev vwCl : List vw_C := [(RX0, TX0, 6), (RX1, TX1, 2), (RX2, TX2, 10), (RX4, TX4, 2), (RX5, TX5, 2), (RX6, TX6, 3), (RX8, TX8, 3), (RX10, TX10, 11), (RX11, TX11, 68), (RNse, TNse, 0)]
