section
-- ===== PART A: goes FIRST, ahead of the names: the tables' words, and 'selects' of the private methods out of them =====
/-- a private method of a class that the tables say can be made, by its rows of tables_1 -/
def lw_okq (q : MethodName × Nat) : Prop := (q.1.cls ≠ "java/lang/invoke/MethodHandle" ∧ q.1.cls ≠ "java/lang/invoke/VarHandle") ∧ Cond.instantiable q.1.cls q.2 ∈ tables_1 ∧ Cond.privateMethod q.1 ∈ tables_1 ∧ Cond.instanceMethod q.1 ∈ tables_1
theorem lw_p0 : lw_okq (⟨"SplitClocks", "plant", "()V"⟩, 11) := ⟨⟨by decide +kernel, by decide +kernel⟩, List.mem_of_getElem? (i := 22) (by decide +kernel), List.mem_of_getElem? (i := 177) (by decide +kernel), List.mem_of_getElem? (i := 178) (by decide +kernel)⟩
theorem lw_p1 : lw_okq (⟨"SplitClocks$Numbers", "widen", "(I)V"⟩, 2) := ⟨⟨by decide +kernel, by decide +kernel⟩, List.mem_of_getElem? (i := 42) (by decide +kernel), List.mem_of_getElem? (i := 197) (by decide +kernel), List.mem_of_getElem? (i := 198) (by decide +kernel)⟩
theorem lw_p2 : lw_okq (⟨"SplitClocks", "settle", "(IIII)Z"⟩, 11) := ⟨⟨by decide +kernel, by decide +kernel⟩, List.mem_of_getElem? (i := 22) (by decide +kernel), List.mem_of_getElem? (i := 369) (by decide +kernel), List.mem_of_getElem? (i := 370) (by decide +kernel)⟩
theorem lw_p3 : lw_okq (⟨"SplitClocks", "makeEvent", "(I)I"⟩, 11) := ⟨⟨by decide +kernel, by decide +kernel⟩, List.mem_of_getElem? (i := 22) (by decide +kernel), List.mem_of_getElem? (i := 399) (by decide +kernel), List.mem_of_getElem? (i := 400) (by decide +kernel)⟩
theorem lw_p4 : lw_okq (⟨"SplitClocks", "canMelt", "(II)Z"⟩, 11) := ⟨⟨by decide +kernel, by decide +kernel⟩, List.mem_of_getElem? (i := 22) (by decide +kernel), List.mem_of_getElem? (i := 448) (by decide +kernel), List.mem_of_getElem? (i := 449) (by decide +kernel)⟩
theorem lw_p5 : lw_okq (⟨"SplitClocks", "makeJoin", "(III)I"⟩, 11) := ⟨⟨by decide +kernel, by decide +kernel⟩, List.mem_of_getElem? (i := 22) (by decide +kernel), List.mem_of_getElem? (i := 453) (by decide +kernel), List.mem_of_getElem? (i := 454) (by decide +kernel)⟩
theorem lw_p6 : lw_okq (⟨"SplitClocks", "makePeek", "(I)I"⟩, 11) := ⟨⟨by decide +kernel, by decide +kernel⟩, List.mem_of_getElem? (i := 22) (by decide +kernel), List.mem_of_getElem? (i := 467) (by decide +kernel), List.mem_of_getElem? (i := 468) (by decide +kernel)⟩
theorem lw_p7 : lw_okq (⟨"SplitClocks", "leads", "(II)Z"⟩, 11) := ⟨⟨by decide +kernel, by decide +kernel⟩, List.mem_of_getElem? (i := 22) (by decide +kernel), List.mem_of_getElem? (i := 492) (by decide +kernel), List.mem_of_getElem? (i := 493) (by decide +kernel)⟩
theorem lw_p8 : lw_okq (⟨"SplitClocks", "draftOf", "(I)I"⟩, 11) := ⟨⟨by decide +kernel, by decide +kernel⟩, List.mem_of_getElem? (i := 22) (by decide +kernel), List.mem_of_getElem? (i := 570) (by decide +kernel), List.mem_of_getElem? (i := 571) (by decide +kernel)⟩
theorem lw_p9 : lw_okq (⟨"SplitClocks", "isAboveAt", "(IIJI)Z"⟩, 11) := ⟨⟨by decide +kernel, by decide +kernel⟩, List.mem_of_getElem? (i := 22) (by decide +kernel), List.mem_of_getElem? (i := 633) (by decide +kernel), List.mem_of_getElem? (i := 634) (by decide +kernel)⟩
theorem lw_p10 : lw_okq (⟨"SplitClocks$Reader", "blame", "(I)V"⟩, 3) := ⟨⟨by decide +kernel, by decide +kernel⟩, List.mem_of_getElem? (i := 161) (by decide +kernel), List.mem_of_getElem? (i := 684) (by decide +kernel), List.mem_of_getElem? (i := 685) (by decide +kernel)⟩
theorem lw_p11 : lw_okq (⟨"SplitClocks$Reader", "isFaulty", "()Z"⟩, 3) := ⟨⟨by decide +kernel, by decide +kernel⟩, List.mem_of_getElem? (i := 161) (by decide +kernel), List.mem_of_getElem? (i := 688) (by decide +kernel), List.mem_of_getElem? (i := 689) (by decide +kernel)⟩
theorem lw_p12 : lw_okq (⟨"SplitClocks$Reader", "twoBits", "()I"⟩, 3) := ⟨⟨by decide +kernel, by decide +kernel⟩, List.mem_of_getElem? (i := 161) (by decide +kernel), List.mem_of_getElem? (i := 692) (by decide +kernel), List.mem_of_getElem? (i := 693) (by decide +kernel)⟩
theorem lw_p13 : lw_okq (⟨"SplitClocks$Reader", "oneBit", "()I"⟩, 3) := ⟨⟨by decide +kernel, by decide +kernel⟩, List.mem_of_getElem? (i := 161) (by decide +kernel), List.mem_of_getElem? (i := 696) (by decide +kernel), List.mem_of_getElem? (i := 697) (by decide +kernel)⟩
theorem lw_p14 : lw_okq (⟨"SplitClocks$Reader", "numberHere", "()I"⟩, 3) := ⟨⟨by decide +kernel, by decide +kernel⟩, List.mem_of_getElem? (i := 161) (by decide +kernel), List.mem_of_getElem? (i := 705) (by decide +kernel), List.mem_of_getElem? (i := 706) (by decide +kernel)⟩
theorem lw_p15 : lw_okq (⟨"java/lang/Throwable", "fillInStackTrace", "(I)Ljava/lang/Throwable;"⟩, 6) := ⟨⟨by decide +kernel, by decide +kernel⟩, List.mem_of_getElem? (i := 813) (by decide +kernel), List.mem_of_getElem? (i := 811) (by decide +kernel), List.mem_of_getElem? (i := 812) (by decide +kernel)⟩
def lw_privs_1 : List (MethodName × Nat) := [(⟨"SplitClocks", "plant", "()V"⟩, 11), (⟨"SplitClocks$Numbers", "widen", "(I)V"⟩, 2), (⟨"SplitClocks", "settle", "(IIII)Z"⟩, 11), (⟨"SplitClocks", "makeEvent", "(I)I"⟩, 11), (⟨"SplitClocks", "canMelt", "(II)Z"⟩, 11), (⟨"SplitClocks", "makeJoin", "(III)I"⟩, 11), (⟨"SplitClocks", "makePeek", "(I)I"⟩, 11), (⟨"SplitClocks", "leads", "(II)Z"⟩, 11), (⟨"SplitClocks", "draftOf", "(I)I"⟩, 11), (⟨"SplitClocks", "isAboveAt", "(IIJI)Z"⟩, 11), (⟨"SplitClocks$Reader", "blame", "(I)V"⟩, 3), (⟨"SplitClocks$Reader", "isFaulty", "()Z"⟩, 3), (⟨"SplitClocks$Reader", "twoBits", "()I"⟩, 3), (⟨"SplitClocks$Reader", "oneBit", "()I"⟩, 3), (⟨"SplitClocks$Reader", "numberHere", "()I"⟩, 3), (⟨"java/lang/Throwable", "fillInStackTrace", "(I)Ljava/lang/Throwable;"⟩, 6)]
theorem lw_r1 : ∀ q ∈ lw_privs_1, lw_okq q := List.forall_mem_cons.mpr ⟨lw_p0, List.forall_mem_cons.mpr ⟨lw_p1, List.forall_mem_cons.mpr ⟨lw_p2, List.forall_mem_cons.mpr ⟨lw_p3, List.forall_mem_cons.mpr ⟨lw_p4, List.forall_mem_cons.mpr ⟨lw_p5, List.forall_mem_cons.mpr ⟨lw_p6, List.forall_mem_cons.mpr ⟨lw_p7, List.forall_mem_cons.mpr ⟨lw_p8, List.forall_mem_cons.mpr ⟨lw_p9, List.forall_mem_cons.mpr ⟨lw_p10, List.forall_mem_cons.mpr ⟨lw_p11, List.forall_mem_cons.mpr ⟨lw_p12, List.forall_mem_cons.mpr ⟨lw_p13, List.forall_mem_cons.mpr ⟨lw_p14, List.forall_mem_cons.mpr ⟨lw_p15, fun _ h => absurd h List.not_mem_nil⟩⟩⟩⟩⟩⟩⟩⟩⟩⟩⟩⟩⟩⟩⟩⟩
theorem lw_p16 : lw_okq (⟨"SplitClocksModel", "make", "(III)I"⟩, 68) := ⟨⟨by decide +kernel, by decide +kernel⟩, List.mem_of_getElem? (i := 850) (by decide +kernel), List.mem_of_getElem? (i := 861) (by decide +kernel), List.mem_of_getElem? (i := 862) (by decide +kernel)⟩
theorem lw_p17 : lw_okq (⟨"SplitClocksModel", "shareNodes", "(JJ)I"⟩, 68) := ⟨⟨by decide +kernel, by decide +kernel⟩, List.mem_of_getElem? (i := 850) (by decide +kernel), List.mem_of_getElem? (i := 865) (by decide +kernel), List.mem_of_getElem? (i := 866) (by decide +kernel)⟩
theorem lw_p18 : lw_okq (⟨"SplitClocksModel", "part", "(JJ)I"⟩, 68) := ⟨⟨by decide +kernel, by decide +kernel⟩, List.mem_of_getElem? (i := 850) (by decide +kernel), List.mem_of_getElem? (i := 869) (by decide +kernel), List.mem_of_getElem? (i := 870) (by decide +kernel)⟩
theorem lw_p19 : lw_okq (⟨"SplitClocksModel", "heightNodes", "(JJ)I"⟩, 68) := ⟨⟨by decide +kernel, by decide +kernel⟩, List.mem_of_getElem? (i := 850) (by decide +kernel), List.mem_of_getElem? (i := 874) (by decide +kernel), List.mem_of_getElem? (i := 875) (by decide +kernel)⟩
theorem lw_p20 : lw_okq (⟨"SplitClocksModel", "isFlat", "(JJ)Z"⟩, 68) := ⟨⟨by decide +kernel, by decide +kernel⟩, List.mem_of_getElem? (i := 850) (by decide +kernel), List.mem_of_getElem? (i := 878) (by decide +kernel), List.mem_of_getElem? (i := 879) (by decide +kernel)⟩
theorem lw_p21 : lw_okq (⟨"SplitClocksModel", "at", "(J)I"⟩, 68) := ⟨⟨by decide +kernel, by decide +kernel⟩, List.mem_of_getElem? (i := 850) (by decide +kernel), List.mem_of_getElem? (i := 882) (by decide +kernel), List.mem_of_getElem? (i := 883) (by decide +kernel)⟩
theorem lw_p22 : lw_okq (⟨"SplitClocksModel", "behind", "(I)J"⟩, 68) := ⟨⟨by decide +kernel, by decide +kernel⟩, List.mem_of_getElem? (i := 850) (by decide +kernel), List.mem_of_getElem? (i := 886) (by decide +kernel), List.mem_of_getElem? (i := 887) (by decide +kernel)⟩
theorem lw_p23 : lw_okq (⟨"SplitClocksModel", "isAlive", "(I)Z"⟩, 68) := ⟨⟨by decide +kernel, by decide +kernel⟩, List.mem_of_getElem? (i := 850) (by decide +kernel), List.mem_of_getElem? (i := 1107) (by decide +kernel), List.mem_of_getElem? (i := 1108) (by decide +kernel)⟩
theorem lw_p24 : lw_okq (⟨"SplitClocksModel", "is", "(I)Z"⟩, 68) := ⟨⟨by decide +kernel, by decide +kernel⟩, List.mem_of_getElem? (i := 850) (by decide +kernel), List.mem_of_getElem? (i := 1111) (by decide +kernel), List.mem_of_getElem? (i := 1112) (by decide +kernel)⟩
theorem lw_p25 : lw_okq (⟨"SplitClocksModel", "owns", "(I)Z"⟩, 68) := ⟨⟨by decide +kernel, by decide +kernel⟩, List.mem_of_getElem? (i := 850) (by decide +kernel), List.mem_of_getElem? (i := 1115) (by decide +kernel), List.mem_of_getElem? (i := 1116) (by decide +kernel)⟩
theorem lw_p26 : lw_okq (⟨"SplitClocksModel", "takeOwn", "(I)V"⟩, 68) := ⟨⟨by decide +kernel, by decide +kernel⟩, List.mem_of_getElem? (i := 850) (by decide +kernel), List.mem_of_getElem? (i := 1119) (by decide +kernel), List.mem_of_getElem? (i := 1120) (by decide +kernel)⟩
theorem lw_p27 : lw_okq (⟨"SplitClocksModel", "cut", "(IJJ)V"⟩, 68) := ⟨⟨by decide +kernel, by decide +kernel⟩, List.mem_of_getElem? (i := 850) (by decide +kernel), List.mem_of_getElem? (i := 1123) (by decide +kernel), List.mem_of_getElem? (i := 1124) (by decide +kernel)⟩
theorem lw_p28 : lw_okq (⟨"SplitClocksModel", "hasRoom", "(II)Z"⟩, 68) := ⟨⟨by decide +kernel, by decide +kernel⟩, List.mem_of_getElem? (i := 850) (by decide +kernel), List.mem_of_getElem? (i := 1127) (by decide +kernel), List.mem_of_getElem? (i := 1128) (by decide +kernel)⟩
theorem lw_p29 : lw_okq (⟨"SplitClocksModel", "note", "(II)V"⟩, 68) := ⟨⟨by decide +kernel, by decide +kernel⟩, List.mem_of_getElem? (i := 850) (by decide +kernel), List.mem_of_getElem? (i := 1131) (by decide +kernel), List.mem_of_getElem? (i := 1132) (by decide +kernel)⟩
theorem lw_p30 : lw_okq (⟨"SplitClocksModel", "takeKnown", "(I)V"⟩, 68) := ⟨⟨by decide +kernel, by decide +kernel⟩, List.mem_of_getElem? (i := 850) (by decide +kernel), List.mem_of_getElem? (i := 1135) (by decide +kernel), List.mem_of_getElem? (i := 1136) (by decide +kernel)⟩
theorem lw_p31 : lw_okq (⟨"SplitClocksModel", "spend", "(I)V"⟩, 68) := ⟨⟨by decide +kernel, by decide +kernel⟩, List.mem_of_getElem? (i := 850) (by decide +kernel), List.mem_of_getElem? (i := 1139) (by decide +kernel), List.mem_of_getElem? (i := 1140) (by decide +kernel)⟩
def lw_privs_2 : List (MethodName × Nat) := [(⟨"SplitClocksModel", "make", "(III)I"⟩, 68), (⟨"SplitClocksModel", "shareNodes", "(JJ)I"⟩, 68), (⟨"SplitClocksModel", "part", "(JJ)I"⟩, 68), (⟨"SplitClocksModel", "heightNodes", "(JJ)I"⟩, 68), (⟨"SplitClocksModel", "isFlat", "(JJ)Z"⟩, 68), (⟨"SplitClocksModel", "at", "(J)I"⟩, 68), (⟨"SplitClocksModel", "behind", "(I)J"⟩, 68), (⟨"SplitClocksModel", "isAlive", "(I)Z"⟩, 68), (⟨"SplitClocksModel", "is", "(I)Z"⟩, 68), (⟨"SplitClocksModel", "owns", "(I)Z"⟩, 68), (⟨"SplitClocksModel", "takeOwn", "(I)V"⟩, 68), (⟨"SplitClocksModel", "cut", "(IJJ)V"⟩, 68), (⟨"SplitClocksModel", "hasRoom", "(II)Z"⟩, 68), (⟨"SplitClocksModel", "note", "(II)V"⟩, 68), (⟨"SplitClocksModel", "takeKnown", "(I)V"⟩, 68), (⟨"SplitClocksModel", "spend", "(I)V"⟩, 68)]
theorem lw_r2 : ∀ q ∈ lw_privs_2, lw_okq q := List.forall_mem_cons.mpr ⟨lw_p16, List.forall_mem_cons.mpr ⟨lw_p17, List.forall_mem_cons.mpr ⟨lw_p18, List.forall_mem_cons.mpr ⟨lw_p19, List.forall_mem_cons.mpr ⟨lw_p20, List.forall_mem_cons.mpr ⟨lw_p21, List.forall_mem_cons.mpr ⟨lw_p22, List.forall_mem_cons.mpr ⟨lw_p23, List.forall_mem_cons.mpr ⟨lw_p24, List.forall_mem_cons.mpr ⟨lw_p25, List.forall_mem_cons.mpr ⟨lw_p26, List.forall_mem_cons.mpr ⟨lw_p27, List.forall_mem_cons.mpr ⟨lw_p28, List.forall_mem_cons.mpr ⟨lw_p29, List.forall_mem_cons.mpr ⟨lw_p30, List.forall_mem_cons.mpr ⟨lw_p31, fun _ h => absurd h List.not_mem_nil⟩⟩⟩⟩⟩⟩⟩⟩⟩⟩⟩⟩⟩⟩⟩⟩
theorem lw_p32 : lw_okq (⟨"SplitClocksModel", "happen", "()V"⟩, 68) := ⟨⟨by decide +kernel, by decide +kernel⟩, List.mem_of_getElem? (i := 850) (by decide +kernel), List.mem_of_getElem? (i := 1147) (by decide +kernel), List.mem_of_getElem? (i := 1148) (by decide +kernel)⟩
theorem lw_p33 : lw_okq (⟨"SplitClocksModel", "fill", "(JJ)V"⟩, 68) := ⟨⟨by decide +kernel, by decide +kernel⟩, List.mem_of_getElem? (i := 850) (by decide +kernel), List.mem_of_getElem? (i := 1151) (by decide +kernel), List.mem_of_getElem? (i := 1152) (by decide +kernel)⟩
theorem lw_p34 : lw_okq (⟨"SplitClocksModel", "most", "(JJ)I"⟩, 68) := ⟨⟨by decide +kernel, by decide +kernel⟩, List.mem_of_getElem? (i := 850) (by decide +kernel), List.mem_of_getElem? (i := 1155) (by decide +kernel), List.mem_of_getElem? (i := 1156) (by decide +kernel)⟩
theorem lw_p35 : lw_okq (⟨"SplitClocksModel", "set", "(JJIZ)V"⟩, 68) := ⟨⟨by decide +kernel, by decide +kernel⟩, List.mem_of_getElem? (i := 850) (by decide +kernel), List.mem_of_getElem? (i := 1159) (by decide +kernel), List.mem_of_getElem? (i := 1160) (by decide +kernel)⟩
theorem lw_p36 : lw_okq (⟨"SplitClocksModel", "lay", "(IJI)I"⟩, 68) := ⟨⟨by decide +kernel, by decide +kernel⟩, List.mem_of_getElem? (i := 850) (by decide +kernel), List.mem_of_getElem? (i := 1163) (by decide +kernel), List.mem_of_getElem? (i := 1164) (by decide +kernel)⟩
theorem lw_p37 : lw_okq (⟨"SplitClocksModel", "become", "(I)V"⟩, 68) := ⟨⟨by decide +kernel, by decide +kernel⟩, List.mem_of_getElem? (i := 850) (by decide +kernel), List.mem_of_getElem? (i := 1167) (by decide +kernel), List.mem_of_getElem? (i := 1168) (by decide +kernel)⟩
theorem lw_p38 : lw_okq (⟨"SplitClocksModel", "least", "(JJ)I"⟩, 68) := ⟨⟨by decide +kernel, by decide +kernel⟩, List.mem_of_getElem? (i := 850) (by decide +kernel), List.mem_of_getElem? (i := 1171) (by decide +kernel), List.mem_of_getElem? (i := 1172) (by decide +kernel)⟩
theorem lw_p39 : lw_okq (⟨"SplitClocksModel", "grow", "(JJ)I"⟩, 68) := ⟨⟨by decide +kernel, by decide +kernel⟩, List.mem_of_getElem? (i := 850) (by decide +kernel), List.mem_of_getElem? (i := 1176) (by decide +kernel), List.mem_of_getElem? (i := 1177) (by decide +kernel)⟩
theorem lw_p40 : lw_okq (⟨"SplitClocksModel", "mark", "(I)V"⟩, 68) := ⟨⟨by decide +kernel, by decide +kernel⟩, List.mem_of_getElem? (i := 850) (by decide +kernel), List.mem_of_getElem? (i := 1180) (by decide +kernel), List.mem_of_getElem? (i := 1181) (by decide +kernel)⟩
theorem lw_p41 : lw_okq (⟨"SplitClocksModel", "joined", "(III)I"⟩, 68) := ⟨⟨by decide +kernel, by decide +kernel⟩, List.mem_of_getElem? (i := 850) (by decide +kernel), List.mem_of_getElem? (i := 1188) (by decide +kernel), List.mem_of_getElem? (i := 1189) (by decide +kernel)⟩
theorem lw_p42 : lw_okq (⟨"SplitClocksModel", "together", "(II)V"⟩, 68) := ⟨⟨by decide +kernel, by decide +kernel⟩, List.mem_of_getElem? (i := 850) (by decide +kernel), List.mem_of_getElem? (i := 1192) (by decide +kernel), List.mem_of_getElem? (i := 1193) (by decide +kernel)⟩
theorem lw_p43 : lw_okq (⟨"SplitClocksModel", "share", "(II)V"⟩, 68) := ⟨⟨by decide +kernel, by decide +kernel⟩, List.mem_of_getElem? (i := 850) (by decide +kernel), List.mem_of_getElem? (i := 1196) (by decide +kernel), List.mem_of_getElem? (i := 1197) (by decide +kernel)⟩
theorem lw_p44 : lw_okq (⟨"SplitClocksModel", "leads", "(II)Z"⟩, 68) := ⟨⟨by decide +kernel, by decide +kernel⟩, List.mem_of_getElem? (i := 850) (by decide +kernel), List.mem_of_getElem? (i := 1220) (by decide +kernel), List.mem_of_getElem? (i := 1221) (by decide +kernel)⟩
theorem lw_p45 : lw_okq (⟨"SplitClocksModel", "heightAt", "(IJ)I"⟩, 68) := ⟨⟨by decide +kernel, by decide +kernel⟩, List.mem_of_getElem? (i := 850) (by decide +kernel), List.mem_of_getElem? (i := 1254) (by decide +kernel), List.mem_of_getElem? (i := 1255) (by decide +kernel)⟩
theorem lw_p46 : lw_okq (⟨"SplitClocksModel", "written", "(Z)I"⟩, 68) := ⟨⟨by decide +kernel, by decide +kernel⟩, List.mem_of_getElem? (i := 850) (by decide +kernel), List.mem_of_getElem? (i := 1266) (by decide +kernel), List.mem_of_getElem? (i := 1267) (by decide +kernel)⟩
theorem lw_p47 : lw_okq (⟨"SplitClocksModel", "writeShare", "(JJ)V"⟩, 68) := ⟨⟨by decide +kernel, by decide +kernel⟩, List.mem_of_getElem? (i := 850) (by decide +kernel), List.mem_of_getElem? (i := 1270) (by decide +kernel), List.mem_of_getElem? (i := 1271) (by decide +kernel)⟩
def lw_privs_3 : List (MethodName × Nat) := [(⟨"SplitClocksModel", "happen", "()V"⟩, 68), (⟨"SplitClocksModel", "fill", "(JJ)V"⟩, 68), (⟨"SplitClocksModel", "most", "(JJ)I"⟩, 68), (⟨"SplitClocksModel", "set", "(JJIZ)V"⟩, 68), (⟨"SplitClocksModel", "lay", "(IJI)I"⟩, 68), (⟨"SplitClocksModel", "become", "(I)V"⟩, 68), (⟨"SplitClocksModel", "least", "(JJ)I"⟩, 68), (⟨"SplitClocksModel", "grow", "(JJ)I"⟩, 68), (⟨"SplitClocksModel", "mark", "(I)V"⟩, 68), (⟨"SplitClocksModel", "joined", "(III)I"⟩, 68), (⟨"SplitClocksModel", "together", "(II)V"⟩, 68), (⟨"SplitClocksModel", "share", "(II)V"⟩, 68), (⟨"SplitClocksModel", "leads", "(II)Z"⟩, 68), (⟨"SplitClocksModel", "heightAt", "(IJ)I"⟩, 68), (⟨"SplitClocksModel", "written", "(Z)I"⟩, 68), (⟨"SplitClocksModel", "writeShare", "(JJ)V"⟩, 68)]
theorem lw_r3 : ∀ q ∈ lw_privs_3, lw_okq q := List.forall_mem_cons.mpr ⟨lw_p32, List.forall_mem_cons.mpr ⟨lw_p33, List.forall_mem_cons.mpr ⟨lw_p34, List.forall_mem_cons.mpr ⟨lw_p35, List.forall_mem_cons.mpr ⟨lw_p36, List.forall_mem_cons.mpr ⟨lw_p37, List.forall_mem_cons.mpr ⟨lw_p38, List.forall_mem_cons.mpr ⟨lw_p39, List.forall_mem_cons.mpr ⟨lw_p40, List.forall_mem_cons.mpr ⟨lw_p41, List.forall_mem_cons.mpr ⟨lw_p42, List.forall_mem_cons.mpr ⟨lw_p43, List.forall_mem_cons.mpr ⟨lw_p44, List.forall_mem_cons.mpr ⟨lw_p45, List.forall_mem_cons.mpr ⟨lw_p46, List.forall_mem_cons.mpr ⟨lw_p47, fun _ h => absurd h List.not_mem_nil⟩⟩⟩⟩⟩⟩⟩⟩⟩⟩⟩⟩⟩⟩⟩⟩
theorem lw_p48 : lw_okq (⟨"SplitClocksModel", "bit", "(Z)V"⟩, 68) := ⟨⟨by decide +kernel, by decide +kernel⟩, List.mem_of_getElem? (i := 850) (by decide +kernel), List.mem_of_getElem? (i := 1274) (by decide +kernel), List.mem_of_getElem? (i := 1275) (by decide +kernel)⟩
theorem lw_p49 : lw_okq (⟨"SplitClocksModel", "writeHeight", "(JJI)V"⟩, 68) := ⟨⟨by decide +kernel, by decide +kernel⟩, List.mem_of_getElem? (i := 850) (by decide +kernel), List.mem_of_getElem? (i := 1278) (by decide +kernel), List.mem_of_getElem? (i := 1279) (by decide +kernel)⟩
theorem lw_p50 : lw_okq (⟨"SplitClocksModel", "number", "(I)V"⟩, 68) := ⟨⟨by decide +kernel, by decide +kernel⟩, List.mem_of_getElem? (i := 850) (by decide +kernel), List.mem_of_getElem? (i := 1282) (by decide +kernel), List.mem_of_getElem? (i := 1283) (by decide +kernel)⟩
theorem lw_p51 : lw_okq (⟨"SplitClocksModel", "history", "(I)I"⟩, 68) := ⟨⟨by decide +kernel, by decide +kernel⟩, List.mem_of_getElem? (i := 850) (by decide +kernel), List.mem_of_getElem? (i := 1287) (by decide +kernel), List.mem_of_getElem? (i := 1288) (by decide +kernel)⟩
theorem lw_p52 : lw_okq (⟨"SplitClocksModel", "turn", "(IIJZ)J"⟩, 68) := ⟨⟨by decide +kernel, by decide +kernel⟩, List.mem_of_getElem? (i := 850) (by decide +kernel), List.mem_of_getElem? (i := 1295) (by decide +kernel), List.mem_of_getElem? (i := 1296) (by decide +kernel)⟩
theorem lw_p53 : lw_okq (⟨"SplitClocksModel", "readShare", "(I)I"⟩, 68) := ⟨⟨by decide +kernel, by decide +kernel⟩, List.mem_of_getElem? (i := 850) (by decide +kernel), List.mem_of_getElem? (i := 1331) (by decide +kernel), List.mem_of_getElem? (i := 1332) (by decide +kernel)⟩
theorem lw_p54 : lw_okq (⟨"SplitClocksModel", "fails", "(I)V"⟩, 68) := ⟨⟨by decide +kernel, by decide +kernel⟩, List.mem_of_getElem? (i := 850) (by decide +kernel), List.mem_of_getElem? (i := 1335) (by decide +kernel), List.mem_of_getElem? (i := 1336) (by decide +kernel)⟩
theorem lw_p55 : lw_okq (⟨"SplitClocksModel", "next", "()I"⟩, 68) := ⟨⟨by decide +kernel, by decide +kernel⟩, List.mem_of_getElem? (i := 850) (by decide +kernel), List.mem_of_getElem? (i := 1339) (by decide +kernel), List.mem_of_getElem? (i := 1340) (by decide +kernel)⟩
theorem lw_p56 : lw_okq (⟨"SplitClocksModel", "readHeight", "(IJI)I"⟩, 68) := ⟨⟨by decide +kernel, by decide +kernel⟩, List.mem_of_getElem? (i := 850) (by decide +kernel), List.mem_of_getElem? (i := 1343) (by decide +kernel), List.mem_of_getElem? (i := 1344) (by decide +kernel)⟩
theorem lw_p57 : lw_okq (⟨"SplitClocksModel", "readNumber", "()I"⟩, 68) := ⟨⟨by decide +kernel, by decide +kernel⟩, List.mem_of_getElem? (i := 850) (by decide +kernel), List.mem_of_getElem? (i := 1347) (by decide +kernel), List.mem_of_getElem? (i := 1348) (by decide +kernel)⟩
theorem lw_p58 : lw_okq (⟨"SplitClocksModel", "step", "(JI)I"⟩, 68) := ⟨⟨by decide +kernel, by decide +kernel⟩, List.mem_of_getElem? (i := 850) (by decide +kernel), List.mem_of_getElem? (i := 1351) (by decide +kernel), List.mem_of_getElem? (i := 1352) (by decide +kernel)⟩
def lw_privs_4 : List (MethodName × Nat) := [(⟨"SplitClocksModel", "bit", "(Z)V"⟩, 68), (⟨"SplitClocksModel", "writeHeight", "(JJI)V"⟩, 68), (⟨"SplitClocksModel", "number", "(I)V"⟩, 68), (⟨"SplitClocksModel", "history", "(I)I"⟩, 68), (⟨"SplitClocksModel", "turn", "(IIJZ)J"⟩, 68), (⟨"SplitClocksModel", "readShare", "(I)I"⟩, 68), (⟨"SplitClocksModel", "fails", "(I)V"⟩, 68), (⟨"SplitClocksModel", "next", "()I"⟩, 68), (⟨"SplitClocksModel", "readHeight", "(IJI)I"⟩, 68), (⟨"SplitClocksModel", "readNumber", "()I"⟩, 68), (⟨"SplitClocksModel", "step", "(JI)I"⟩, 68)]
theorem lw_r4 : ∀ q ∈ lw_privs_4, lw_okq q := List.forall_mem_cons.mpr ⟨lw_p48, List.forall_mem_cons.mpr ⟨lw_p49, List.forall_mem_cons.mpr ⟨lw_p50, List.forall_mem_cons.mpr ⟨lw_p51, List.forall_mem_cons.mpr ⟨lw_p52, List.forall_mem_cons.mpr ⟨lw_p53, List.forall_mem_cons.mpr ⟨lw_p54, List.forall_mem_cons.mpr ⟨lw_p55, List.forall_mem_cons.mpr ⟨lw_p56, List.forall_mem_cons.mpr ⟨lw_p57, List.forall_mem_cons.mpr ⟨lw_p58, fun _ h => absurd h List.not_mem_nil⟩⟩⟩⟩⟩⟩⟩⟩⟩⟩⟩
def lw_privs : List (MethodName × Nat) := lw_privs_1 ++ (lw_privs_2 ++ (lw_privs_3 ++ (lw_privs_4)))
def lw_tbl : List Cond := k2_sels lw_privs ++ tables_1
theorem lw_privs_ok : ∀ q ∈ lw_privs, lw_okq q := by
  show ∀ q ∈ lw_privs_1 ++ (lw_privs_2 ++ (lw_privs_3 ++ (lw_privs_4))), lw_okq q
  exact List.forall_mem_append.mpr ⟨lw_r1, List.forall_mem_append.mpr ⟨lw_r2, List.forall_mem_append.mpr ⟨lw_r3, lw_r4⟩⟩⟩
-- ===== end of PART A; then your names; then what follows =====
def RX0 : String := "SplitClocks$Acts"
def TX0 : u_T := fun k => match k with
  | 0 => ("SplitClocks$Acts", "stamps", "LSplitClocks$Numbers;", true)
  | 1 => ("SplitClocks$Acts", "one", "LSplitClocks$Numbers;", true)
  | 2 => ("SplitClocks$Acts", "stateOfOne", "LSplitClocks$Numbers;", true)
  | 3 => ("SplitClocks$Acts", "other", "LSplitClocks$Numbers;", true)
  | 4 => ("SplitClocks$Acts", "stateOfOther", "LSplitClocks$Numbers;", true)
  | _ => ("SplitClocks$Acts", "size", "I", false)
def tyX0 : Nat → FieldType := fun k => match k with
  | 0 => .object "SplitClocks$Numbers"
  | 1 => .object "SplitClocks$Numbers"
  | 2 => .object "SplitClocks$Numbers"
  | 3 => .object "SplitClocks$Numbers"
  | 4 => .object "SplitClocks$Numbers"
  | _ => .int
abbrev wsX00 : List Cond := u_ws RX0 TX0 6
theorem nmX0 : ∀ a, a < 6 → ∀ b, b < 6 → a ≠ b → (TX0 a).2.1 ≠ (TX0 b).2.1 := by decide +kernel
theorem tyX0_ok : ∀ k, k < 6 → parseFieldDescriptor (TX0 k).2.2.1 = some (tyX0 k) := by decide +kernel
abbrev cX0_init : ByteArray := prog_2_method_1_code
def yX0_init : MethodName := ⟨RX0, "<init>", "()V"⟩
abbrev cX0_clear : ByteArray := prog_2_method_2_code
def yX0_clear : MethodName := ⟨RX0, "clear", "()V"⟩
abbrev cX0_size : ByteArray := prog_2_method_3_code
def yX0_size : MethodName := ⟨RX0, "size", "()I"⟩
abbrev cX0_note : ByteArray := prog_2_method_4_code
def yX0_note : MethodName := ⟨RX0, "note", "(LSplitClocks$Book;III)V"⟩
abbrev cX0_takeBack : ByteArray := prog_2_method_5_code
def yX0_takeBack : MethodName := ⟨RX0, "takeBack", "(LSplitClocks$Book;)Z"⟩
def RX1 : String := "SplitClocks$Bits"
def TX1 : u_T := fun k => match k with
  | 0 => ("SplitClocks$Bits", "cells", "LSplitClocks$Numbers;", true)
  | _ => ("SplitClocks$Bits", "size", "I", false)
def tyX1 : Nat → FieldType := fun k => match k with
  | 0 => .object "SplitClocks$Numbers"
  | _ => .int
abbrev wsX10 : List Cond := u_ws RX1 TX1 2
theorem nmX1 : ∀ a, a < 2 → ∀ b, b < 2 → a ≠ b → (TX1 a).2.1 ≠ (TX1 b).2.1 := by decide +kernel
theorem tyX1_ok : ∀ k, k < 2 → parseFieldDescriptor (TX1 k).2.2.1 = some (tyX1 k) := by decide +kernel
abbrev cX1_init : ByteArray := prog_3_method_1_code
def yX1_init : MethodName := ⟨RX1, "<init>", "()V"⟩
abbrev cX1_size : ByteArray := prog_3_method_2_code
def yX1_size : MethodName := ⟨RX1, "size", "()I"⟩
abbrev cX1_bitAt : ByteArray := prog_3_method_3_code
def yX1_bitAt : MethodName := ⟨RX1, "bitAt", "(I)I"⟩
abbrev cX1_push : ByteArray := prog_3_method_4_code
def yX1_push : MethodName := ⟨RX1, "push", "(JI)V"⟩
abbrev cX1_cut : ByteArray := prog_3_method_5_code
def yX1_cut : MethodName := ⟨RX1, "cut", "(I)Z"⟩
abbrev cX1_copyFrom : ByteArray := prog_3_method_6_code
def yX1_copyFrom : MethodName := ⟨RX1, "copyFrom", "(LSplitClocks$Bits;)V"⟩
def RX2 : String := "SplitClocks$Book"
def TX2 : u_T := fun k => match k with
  | 0 => ("SplitClocks$Book", "trees", "LSplitClocks$Trees;", true)
  | 1 => ("SplitClocks$Book", "own", "LSplitClocks$Numbers;", true)
  | 2 => ("SplitClocks$Book", "known", "LSplitClocks$Numbers;", true)
  | 3 => ("SplitClocks$Book", "how", "LSplitClocks$Numbers;", true)
  | 4 => ("SplitClocks$Book", "first", "LSplitClocks$Numbers;", true)
  | 5 => ("SplitClocks$Book", "second", "LSplitClocks$Numbers;", true)
  | 6 => ("SplitClocks$Book", "state", "LSplitClocks$Numbers;", true)
  | 7 => ("SplitClocks$Book", "nodesTill", "LSplitClocks$Numbers;", true)
  | 8 => ("SplitClocks$Book", "topTill", "LSplitClocks$Numbers;", true)
  | _ => ("SplitClocks$Book", "size", "I", false)
def tyX2 : Nat → FieldType := fun k => match k with
  | 0 => .object "SplitClocks$Trees"
  | 1 => .object "SplitClocks$Numbers"
  | 2 => .object "SplitClocks$Numbers"
  | 3 => .object "SplitClocks$Numbers"
  | 4 => .object "SplitClocks$Numbers"
  | 5 => .object "SplitClocks$Numbers"
  | 6 => .object "SplitClocks$Numbers"
  | 7 => .object "SplitClocks$Numbers"
  | 8 => .object "SplitClocks$Numbers"
  | _ => .int
abbrev wsX20 : List Cond := u_ws RX2 TX2 10
theorem nmX2 : ∀ a, a < 10 → ∀ b, b < 10 → a ≠ b → (TX2 a).2.1 ≠ (TX2 b).2.1 := by decide +kernel
theorem tyX2_ok : ∀ k, k < 10 → parseFieldDescriptor (TX2 k).2.2.1 = some (tyX2 k) := by decide +kernel
abbrev cX2_init : ByteArray := prog_4_method_1_code
def yX2_init : MethodName := ⟨RX2, "<init>", "()V"⟩
abbrev cX2_clear : ByteArray := prog_4_method_2_code
def yX2_clear : MethodName := ⟨RX2, "clear", "()V"⟩
abbrev cX2_size : ByteArray := prog_4_method_3_code
def yX2_size : MethodName := ⟨RX2, "size", "()I"⟩
abbrev cX2_nodes : ByteArray := prog_4_method_4_code
def yX2_nodes : MethodName := ⟨RX2, "nodes", "()I"⟩
abbrev cX2_make : ByteArray := prog_4_method_5_code
def yX2_make : MethodName := ⟨RX2, "make", "(IIIII)I"⟩
abbrev cX2_cut : ByteArray := prog_4_method_6_code
def yX2_cut : MethodName := ⟨RX2, "cut", "(I)V"⟩
abbrev cX2_has : ByteArray := prog_4_method_7_code
def yX2_has : MethodName := ⟨RX2, "has", "(I)Z"⟩
abbrev cX2_ownOf : ByteArray := prog_4_method_8_code
def yX2_ownOf : MethodName := ⟨RX2, "ownOf", "(I)I"⟩
abbrev cX2_knownOf : ByteArray := prog_4_method_9_code
def yX2_knownOf : MethodName := ⟨RX2, "knownOf", "(I)I"⟩
abbrev cX2_howOf : ByteArray := prog_4_method_10_code
def yX2_howOf : MethodName := ⟨RX2, "howOf", "(I)I"⟩
abbrev cX2_firstOf : ByteArray := prog_4_method_11_code
def yX2_firstOf : MethodName := ⟨RX2, "firstOf", "(I)I"⟩
abbrev cX2_secondOf : ByteArray := prog_4_method_12_code
def yX2_secondOf : MethodName := ⟨RX2, "secondOf", "(I)I"⟩
abbrev cX2_stateOf : ByteArray := prog_4_method_13_code
def yX2_stateOf : MethodName := ⟨RX2, "stateOf", "(I)I"⟩
abbrev cX2_setState : ByteArray := prog_4_method_14_code
def yX2_setState : MethodName := ⟨RX2, "setState", "(II)V"⟩
abbrev cX2_ownsNothing : ByteArray := prog_4_method_15_code
def yX2_ownsNothing : MethodName := ⟨RX2, "ownsNothing", "(I)Z"⟩
abbrev cX2_isLiving : ByteArray := prog_4_method_16_code
def yX2_isLiving : MethodName := ⟨RX2, "isLiving", "(I)Z"⟩
abbrev cX2_isOwner : ByteArray := prog_4_method_17_code
def yX2_isOwner : MethodName := ⟨RX2, "isOwner", "(I)Z"⟩
abbrev cX2_isLost : ByteArray := prog_4_method_18_code
def yX2_isLost : MethodName := ⟨RX2, "isLost", "(I)Z"⟩
abbrev cX2_spend : ByteArray := prog_4_method_19_code
def yX2_spend : MethodName := ⟨RX2, "spend", "(I)V"⟩
abbrev cX2_owners : ByteArray := prog_4_method_20_code
def yX2_owners : MethodName := ⟨RX2, "owners", "()I"⟩
abbrev cX2_lostOnes : ByteArray := prog_4_method_21_code
def yX2_lostOnes : MethodName := ⟨RX2, "lostOnes", "()I"⟩
abbrev cX2_events : ByteArray := prog_4_method_22_code
def yX2_events : MethodName := ⟨RX2, "events", "()I"⟩
abbrev cX2_copyFrom : ByteArray := prog_4_method_23_code
def yX2_copyFrom : MethodName := ⟨RX2, "copyFrom", "(LSplitClocks$Book;)V"⟩
def RX3 : String := "SplitClocks$Growth"
def TX3 : u_T := fun k => match k with
  | _ => ("", "", "", false)
def tyX3 : Nat → FieldType := fun k => match k with
  | _ => .int
abbrev wsX30 : List Cond := u_ws RX3 TX3 0
theorem nmX3 : ∀ a, a < 0 → ∀ b, b < 0 → a ≠ b → (TX3 a).2.1 ≠ (TX3 b).2.1 := by decide +kernel
theorem tyX3_ok : ∀ k, k < 0 → parseFieldDescriptor (TX3 k).2.2.1 = some (tyX3 k) := by decide +kernel
abbrev cX3_canPart : ByteArray := prog_5_method_2_code
def yX3_canPart : MethodName := ⟨RX3, "canPart", "(LSplitClocks$Trees;I)Z"⟩
abbrev cX3_hasOneSide : ByteArray := prog_5_method_3_code
def yX3_hasOneSide : MethodName := ⟨RX3, "hasOneSide", "(LSplitClocks$Trees;I)Z"⟩
abbrev cX3_part : ByteArray := prog_5_method_4_code
def yX3_part : MethodName := ⟨RX3, "part", "(LSplitClocks$Trees;IZ)I"⟩
abbrev cX3_partFrom : ByteArray := prog_5_method_5_code
def yX3_partFrom : MethodName := ⟨RX3, "partFrom", "(LSplitClocks$Trees;IZI)V"⟩
abbrev cX3_higher : ByteArray := prog_5_method_6_code
def yX3_higher : MethodName := ⟨RX3, "higher", "(LSplitClocks$Trees;II)I"⟩
abbrev cX3_higherFrom : ByteArray := prog_5_method_7_code
def yX3_higherFrom : MethodName := ⟨RX3, "higherFrom", "(LSplitClocks$Trees;IIIII)V"⟩
abbrev cX3_after : ByteArray := prog_5_method_8_code
def yX3_after : MethodName := ⟨RX3, "after", "(LSplitClocks$Trees;II)I"⟩
abbrev cX3_fillFrom : ByteArray := prog_5_method_9_code
def yX3_fillFrom : MethodName := ⟨RX3, "fillFrom", "(LSplitClocks$Trees;III)V"⟩
abbrev cX3_growFrom : ByteArray := prog_5_method_10_code
def yX3_growFrom : MethodName := ⟨RX3, "growFrom", "(LSplitClocks$Trees;III)V"⟩
abbrev cX3_cost : ByteArray := prog_5_method_11_code
def yX3_cost : MethodName := ⟨RX3, "cost", "(LSplitClocks$Trees;III)I"⟩
def RX4 : String := "SplitClocks$Numbers"
def TX4 : u_T := fun k => match k with
  | 0 => ("SplitClocks$Numbers", "most", "I", true)
  | _ => ("SplitClocks$Numbers", "cells", "[I", false)
def tyX4 : Nat → FieldType := fun k => match k with
  | 0 => .int
  | _ => .array .int
abbrev wsX40 : List Cond := u_ws RX4 TX4 2
theorem nmX4 : ∀ a, a < 2 → ∀ b, b < 2 → a ≠ b → (TX4 a).2.1 ≠ (TX4 b).2.1 := by decide +kernel
theorem tyX4_ok : ∀ k, k < 2 → parseFieldDescriptor (TX4 k).2.2.1 = some (tyX4 k) := by decide +kernel
abbrev cX4_init : ByteArray := prog_6_method_1_code
def yX4_init : MethodName := ⟨RX4, "<init>", "(I)V"⟩
abbrev cX4_at : ByteArray := prog_6_method_2_code
def yX4_at : MethodName := ⟨RX4, "at", "(I)I"⟩
abbrev cX4_put : ByteArray := prog_6_method_3_code
def yX4_put : MethodName := ⟨RX4, "put", "(II)V"⟩
abbrev cX4_copyFrom : ByteArray := prog_6_method_4_code
def yX4_copyFrom : MethodName := ⟨RX4, "copyFrom", "(LSplitClocks$Numbers;I)V"⟩
abbrev cX4_widen : ByteArray := prog_6_method_5_code
def yX4_widen : MethodName := ⟨RX4, "widen", "(I)V"⟩
def RX5 : String := "SplitClocks$Past"
def TX5 : u_T := fun k => match k with
  | 0 => ("SplitClocks$Past", "mine", "LSplitClocks$Numbers;", true)
  | _ => ("SplitClocks$Past", "others", "LSplitClocks$Numbers;", true)
def tyX5 : Nat → FieldType := fun k => match k with
  | 0 => .object "SplitClocks$Numbers"
  | _ => .object "SplitClocks$Numbers"
abbrev wsX50 : List Cond := u_ws RX5 TX5 2
theorem nmX5 : ∀ a, a < 2 → ∀ b, b < 2 → a ≠ b → (TX5 a).2.1 ≠ (TX5 b).2.1 := by decide +kernel
theorem tyX5_ok : ∀ k, k < 2 → parseFieldDescriptor (TX5 k).2.2.1 = some (tyX5 k) := by decide +kernel
abbrev cX5_init : ByteArray := prog_7_method_1_code
def yX5_init : MethodName := ⟨RX5, "<init>", "()V"⟩
abbrev cX5_seen : ByteArray := prog_7_method_2_code
def yX5_seen : MethodName := ⟨RX5, "seen", "(LSplitClocks$Book;I)I"⟩
abbrev cX5_missing : ByteArray := prog_7_method_3_code
def yX5_missing : MethodName := ⟨RX5, "missing", "(LSplitClocks$Book;II)I"⟩
abbrev cX5_eventsIn : ByteArray := prog_7_method_4_code
def yX5_eventsIn : MethodName := ⟨RX5, "eventsIn", "(LSplitClocks$Book;LSplitClocks$Numbers;)I"⟩
abbrev cX5_trace : ByteArray := prog_7_method_5_code
def yX5_trace : MethodName := ⟨RX5, "trace", "(LSplitClocks$Book;ILSplitClocks$Numbers;)Z"⟩
def RX6 : String := "SplitClocks$Reader"
def TX6 : u_T := fun k => match k with
  | 0 => ("SplitClocks$Reader", "from", "LSplitClocks$Bits;", true)
  | 1 => ("SplitClocks$Reader", "next", "I", false)
  | _ => ("SplitClocks$Reader", "faultAt", "I", false)
def tyX6 : Nat → FieldType := fun k => match k with
  | 0 => .object "SplitClocks$Bits"
  | 1 => .int
  | _ => .int
abbrev wsX60 : List Cond := u_ws RX6 TX6 3
theorem nmX6 : ∀ a, a < 3 → ∀ b, b < 3 → a ≠ b → (TX6 a).2.1 ≠ (TX6 b).2.1 := by decide +kernel
theorem tyX6_ok : ∀ k, k < 3 → parseFieldDescriptor (TX6 k).2.2.1 = some (tyX6 k) := by decide +kernel
abbrev cX6_init : ByteArray := prog_8_method_1_code
def yX6_init : MethodName := ⟨RX6, "<init>", "(LSplitClocks$Bits;)V"⟩
abbrev cX6_firstFault : ByteArray := prog_8_method_2_code
def yX6_firstFault : MethodName := ⟨RX6, "firstFault", "()I"⟩
abbrev cX6_scan : ByteArray := prog_8_method_3_code
def yX6_scan : MethodName := ⟨RX6, "scan", "(LSplitClocks$Trees;)I"⟩
abbrev cX6_isFaulty : ByteArray := prog_8_method_4_code
def yX6_isFaulty : MethodName := ⟨RX6, "isFaulty", "()Z"⟩
abbrev cX6_blame : ByteArray := prog_8_method_5_code
def yX6_blame : MethodName := ⟨RX6, "blame", "(I)V"⟩
abbrev cX6_oneBit : ByteArray := prog_8_method_6_code
def yX6_oneBit : MethodName := ⟨RX6, "oneBit", "()I"⟩
abbrev cX6_twoBits : ByteArray := prog_8_method_7_code
def yX6_twoBits : MethodName := ⟨RX6, "twoBits", "()I"⟩
abbrev cX6_numberHere : ByteArray := prog_8_method_8_code
def yX6_numberHere : MethodName := ⟨RX6, "numberHere", "()I"⟩
abbrev cX6_shareFrom : ByteArray := prog_8_method_9_code
def yX6_shareFrom : MethodName := ⟨RX6, "shareFrom", "(LSplitClocks$Reader;I)I"⟩
abbrev cX6_heightFrom : ByteArray := prog_8_method_10_code
def yX6_heightFrom : MethodName := ⟨RX6, "heightFrom", "(LSplitClocks$Reader;LSplitClocks$Trees;I)V"⟩
abbrev cX6_isWellTold : ByteArray := prog_8_method_11_code
def yX6_isWellTold : MethodName := ⟨RX6, "isWellTold", "(LSplitClocks$Trees;II)Z"⟩
def RX7 : String := "SplitClocks$Sight"
def TX7 : u_T := fun k => match k with
  | _ => ("", "", "", false)
def tyX7 : Nat → FieldType := fun k => match k with
  | _ => .int
abbrev wsX70 : List Cond := u_ws RX7 TX7 0
theorem nmX7 : ∀ a, a < 0 → ∀ b, b < 0 → a ≠ b → (TX7 a).2.1 ≠ (TX7 b).2.1 := by decide +kernel
theorem tyX7_ok : ∀ k, k < 0 → parseFieldDescriptor (TX7 k).2.2.1 = some (tyX7 k) := by decide +kernel
abbrev cX7_above : ByteArray := prog_9_method_2_code
def yX7_above : MethodName := ⟨RX7, "above", "(LSplitClocks$Trees;II)Z"⟩
abbrev cX7_aboveFrom : ByteArray := prog_9_method_3_code
def yX7_aboveFrom : MethodName := ⟨RX7, "aboveFrom", "(LSplitClocks$Trees;IIII)Z"⟩
abbrev cX7_firstAbove : ByteArray := prog_9_method_4_code
def yX7_firstAbove : MethodName := ⟨RX7, "firstAbove", "(LSplitClocks$Trees;II)J"⟩
abbrev cX7_seek : ByteArray := prog_9_method_5_code
def yX7_seek : MethodName := ⟨RX7, "seek", "(LSplitClocks$Trees;IIIJI)J"⟩
abbrev cX7_overlap : ByteArray := prog_9_method_6_code
def yX7_overlap : MethodName := ⟨RX7, "overlap", "(LSplitClocks$Trees;II)Z"⟩
abbrev cX7_overlapFrom : ByteArray := prog_9_method_7_code
def yX7_overlapFrom : MethodName := ⟨RX7, "overlapFrom", "(LSplitClocks$Trees;III)Z"⟩
def RX8 : String := "SplitClocks$Trees"
def TX8 : u_T := fun k => match k with
  | 0 => ("SplitClocks$Trees", "number", "LSplitClocks$Numbers;", true)
  | 1 => ("SplitClocks$Trees", "far", "LSplitClocks$Numbers;", true)
  | _ => ("SplitClocks$Trees", "top", "I", false)
def tyX8 : Nat → FieldType := fun k => match k with
  | 0 => .object "SplitClocks$Numbers"
  | 1 => .object "SplitClocks$Numbers"
  | _ => .int
abbrev wsX80 : List Cond := u_ws RX8 TX8 3
theorem nmX8 : ∀ a, a < 3 → ∀ b, b < 3 → a ≠ b → (TX8 a).2.1 ≠ (TX8 b).2.1 := by decide +kernel
theorem tyX8_ok : ∀ k, k < 3 → parseFieldDescriptor (TX8 k).2.2.1 = some (tyX8 k) := by decide +kernel
abbrev cX8_init : ByteArray := prog_10_method_1_code
def yX8_init : MethodName := ⟨RX8, "<init>", "()V"⟩
abbrev cX8_clear : ByteArray := prog_10_method_2_code
def yX8_clear : MethodName := ⟨RX8, "clear", "()V"⟩
abbrev cX8_top : ByteArray := prog_10_method_3_code
def yX8_top : MethodName := ⟨RX8, "top", "()I"⟩
abbrev cX8_cut : ByteArray := prog_10_method_4_code
def yX8_cut : MethodName := ⟨RX8, "cut", "(I)V"⟩
abbrev cX8_numberOf : ByteArray := prog_10_method_5_code
def yX8_numberOf : MethodName := ⟨RX8, "numberOf", "(I)I"⟩
abbrev cX8_setNumber : ByteArray := prog_10_method_6_code
def yX8_setNumber : MethodName := ⟨RX8, "setNumber", "(II)V"⟩
abbrev cX8_isNumber : ByteArray := prog_10_method_7_code
def yX8_isNumber : MethodName := ⟨RX8, "isNumber", "(I)Z"⟩
abbrev cX8_isJust : ByteArray := prog_10_method_8_code
def yX8_isJust : MethodName := ⟨RX8, "isJust", "(II)Z"⟩
abbrev cX8_leftOf : ByteArray := prog_10_method_9_code
def yX8_leftOf : MethodName := ⟨RX8, "leftOf", "(I)I"⟩
abbrev cX8_rightOf : ByteArray := prog_10_method_10_code
def yX8_rightOf : MethodName := ⟨RX8, "rightOf", "(I)I"⟩
abbrev cX8_grow : ByteArray := prog_10_method_11_code
def yX8_grow : MethodName := ⟨RX8, "grow", "(I)I"⟩
abbrev cX8_turn : ByteArray := prog_10_method_12_code
def yX8_turn : MethodName := ⟨RX8, "turn", "(I)V"⟩
abbrev cX8_close : ByteArray := prog_10_method_13_code
def yX8_close : MethodName := ⟨RX8, "close", "(I)V"⟩
abbrev cX8_nodesOf : ByteArray := prog_10_method_14_code
def yX8_nodesOf : MethodName := ⟨RX8, "nodesOf", "(I)I"⟩
abbrev cX8_copy : ByteArray := prog_10_method_15_code
def yX8_copy : MethodName := ⟨RX8, "copy", "(I)V"⟩
abbrev cX8_same : ByteArray := prog_10_method_16_code
def yX8_same : MethodName := ⟨RX8, "same", "(II)Z"⟩
abbrev cX8_numberAt : ByteArray := prog_10_method_17_code
def yX8_numberAt : MethodName := ⟨RX8, "numberAt", "(IJI)I"⟩
abbrev cX8_greatestOf : ByteArray := prog_10_method_18_code
def yX8_greatestOf : MethodName := ⟨RX8, "greatestOf", "(I)I"⟩
abbrev cX8_greatest : ByteArray := prog_10_method_19_code
def yX8_greatest : MethodName := ⟨RX8, "greatest", "(LSplitClocks$Trees;II)I"⟩
abbrev cX8_copyFrom : ByteArray := prog_10_method_20_code
def yX8_copyFrom : MethodName := ⟨RX8, "copyFrom", "(LSplitClocks$Trees;)V"⟩
def RX9 : String := "SplitClocks$Writer"
def TX9 : u_T := fun k => match k with
  | _ => ("", "", "", false)
def tyX9 : Nat → FieldType := fun k => match k with
  | _ => .int
abbrev wsX90 : List Cond := u_ws RX9 TX9 0
theorem nmX9 : ∀ a, a < 0 → ∀ b, b < 0 → a ≠ b → (TX9 a).2.1 ≠ (TX9 b).2.1 := by decide +kernel
theorem tyX9_ok : ∀ k, k < 0 → parseFieldDescriptor (TX9 k).2.2.1 = some (tyX9 k) := by decide +kernel
abbrev cX9_shareFrom : ByteArray := prog_11_method_2_code
def yX9_shareFrom : MethodName := ⟨RX9, "shareFrom", "(LSplitClocks$Trees;ILSplitClocks$Bits;I)V"⟩
abbrev cX9_heightFrom : ByteArray := prog_11_method_3_code
def yX9_heightFrom : MethodName := ⟨RX9, "heightFrom", "(LSplitClocks$Trees;ILSplitClocks$Bits;I)V"⟩
abbrev cX9_pushNumber : ByteArray := prog_11_method_4_code
def yX9_pushNumber : MethodName := ⟨RX9, "pushNumber", "(ILSplitClocks$Bits;)V"⟩
def RX10 : String := "SplitClocks"
def TX10 : u_T := fun k => match k with
  | 0 => ("SplitClocks", "book", "LSplitClocks$Book;", true)
  | 1 => ("SplitClocks", "kept", "LSplitClocks$Book;", true)
  | 2 => ("SplitClocks", "acts", "LSplitClocks$Acts;", true)
  | 3 => ("SplitClocks", "past", "LSplitClocks$Past;", true)
  | 4 => ("SplitClocks", "row", "LSplitClocks$Bits;", true)
  | 5 => ("SplitClocks", "draft", "LSplitClocks$Bits;", true)
  | 6 => ("SplitClocks", "reader", "LSplitClocks$Reader;", true)
  | 7 => ("SplitClocks", "imageStands", "Z", false)
  | 8 => ("SplitClocks", "lastFault", "I", false)
  | 9 => ("SplitClocks", "toldPlace", "J", false)
  | _ => ("SplitClocks", "toldDigits", "I", false)
def tyX10 : Nat → FieldType := fun k => match k with
  | 0 => .object "SplitClocks$Book"
  | 1 => .object "SplitClocks$Book"
  | 2 => .object "SplitClocks$Acts"
  | 3 => .object "SplitClocks$Past"
  | 4 => .object "SplitClocks$Bits"
  | 5 => .object "SplitClocks$Bits"
  | 6 => .object "SplitClocks$Reader"
  | 7 => .boolean
  | 8 => .int
  | 9 => .long
  | _ => .int
abbrev wsX100 : List Cond := u_ws RX10 TX10 11
theorem nmX10 : ∀ a, a < 11 → ∀ b, b < 11 → a ≠ b → (TX10 a).2.1 ≠ (TX10 b).2.1 := by decide +kernel
theorem tyX10_ok : ∀ k, k < 11 → parseFieldDescriptor (TX10 k).2.2.1 = some (tyX10 k) := by decide +kernel
abbrev cX10_init : ByteArray := prog_1_method_1_code
def yX10_init : MethodName := ⟨RX10, "<init>", "()V"⟩
abbrev cX10_seed : ByteArray := prog_1_method_2_code
def yX10_seed : MethodName := ⟨RX10, "seed", "()V"⟩
abbrev cX10_fork : ByteArray := prog_1_method_3_code
def yX10_fork : MethodName := ⟨RX10, "fork", "(I)I"⟩
abbrev cX10_event : ByteArray := prog_1_method_4_code
def yX10_event : MethodName := ⟨RX10, "event", "(I)I"⟩
abbrev cX10_join : ByteArray := prog_1_method_5_code
def yX10_join : MethodName := ⟨RX10, "join", "(II)I"⟩
abbrev cX10_peek : ByteArray := prog_1_method_6_code
def yX10_peek : MethodName := ⟨RX10, "peek", "(I)I"⟩
abbrev cX10_send : ByteArray := prog_1_method_7_code
def yX10_send : MethodName := ⟨RX10, "send", "(I)I"⟩
abbrev cX10_take : ByteArray := prog_1_method_8_code
def yX10_take : MethodName := ⟨RX10, "take", "(II)I"⟩
abbrev cX10_lose : ByteArray := prog_1_method_9_code
def yX10_lose : MethodName := ⟨RX10, "lose", "(I)Z"⟩
abbrev cX10_home : ByteArray := prog_1_method_10_code
def yX10_home : MethodName := ⟨RX10, "home", "(II)I"⟩
abbrev cX10_undo : ByteArray := prog_1_method_11_code
def yX10_undo : MethodName := ⟨RX10, "undo", "()Z"⟩
abbrev cX10_relation : ByteArray := prog_1_method_12_code
def yX10_relation : MethodName := ⟨RX10, "relation", "(II)I"⟩
abbrev cX10_unseen : ByteArray := prog_1_method_13_code
def yX10_unseen : MethodName := ⟨RX10, "unseen", "(II)I"⟩
abbrev cX10_meets : ByteArray := prog_1_method_14_code
def yX10_meets : MethodName := ⟨RX10, "meets", "(II)Z"⟩
abbrev cX10_height : ByteArray := prog_1_method_15_code
def yX10_height : MethodName := ⟨RX10, "height", "(IJI)I"⟩
abbrev cX10_owns : ByteArray := prog_1_method_16_code
def yX10_owns : MethodName := ⟨RX10, "owns", "(IJI)Z"⟩
abbrev cX10_stamp : ByteArray := prog_1_method_17_code
def yX10_stamp : MethodName := ⟨RX10, "stamp", "(II)I"⟩
abbrev cX10_witness : ByteArray := prog_1_method_18_code
def yX10_witness : MethodName := ⟨RX10, "witness", "(III)Z"⟩
abbrev cX10_place : ByteArray := prog_1_method_19_code
def yX10_place : MethodName := ⟨RX10, "place", "()J"⟩
abbrev cX10_digits : ByteArray := prog_1_method_20_code
def yX10_digits : MethodName := ⟨RX10, "digits", "()I"⟩
abbrev cX10_check : ByteArray := prog_1_method_21_code
def yX10_check : MethodName := ⟨RX10, "check", "(IIJIJI)I"⟩
abbrev cX10_pack : ByteArray := prog_1_method_22_code
def yX10_pack : MethodName := ⟨RX10, "pack", "(I)I"⟩
abbrev cX10_bit : ByteArray := prog_1_method_23_code
def yX10_bit : MethodName := ⟨RX10, "bit", "(I)I"⟩
abbrev cX10_add : ByteArray := prog_1_method_24_code
def yX10_add : MethodName := ⟨RX10, "add", "(JI)I"⟩
abbrev cX10_end : ByteArray := prog_1_method_25_code
def yX10_end : MethodName := ⟨RX10, "end", "(I)Z"⟩
abbrev cX10_read : ByteArray := prog_1_method_26_code
def yX10_read : MethodName := ⟨RX10, "read", "()I"⟩
abbrev cX10_fault : ByteArray := prog_1_method_27_code
def yX10_fault : MethodName := ⟨RX10, "fault", "()I"⟩
abbrev cX10_image : ByteArray := prog_1_method_28_code
def yX10_image : MethodName := ⟨RX10, "image", "()Z"⟩
abbrev cX10_back : ByteArray := prog_1_method_29_code
def yX10_back : MethodName := ⟨RX10, "back", "()Z"⟩
abbrev cX10_count : ByteArray := prog_1_method_30_code
def yX10_count : MethodName := ⟨RX10, "count", "(I)I"⟩
abbrev cX10_plant : ByteArray := prog_1_method_31_code
def yX10_plant : MethodName := ⟨RX10, "plant", "()V"⟩
abbrev cX10_settle : ByteArray := prog_1_method_32_code
def yX10_settle : MethodName := ⟨RX10, "settle", "(IIII)Z"⟩
abbrev cX10_canMelt : ByteArray := prog_1_method_33_code
def yX10_canMelt : MethodName := ⟨RX10, "canMelt", "(II)Z"⟩
abbrev cX10_leads : ByteArray := prog_1_method_34_code
def yX10_leads : MethodName := ⟨RX10, "leads", "(II)Z"⟩
abbrev cX10_makeEvent : ByteArray := prog_1_method_35_code
def yX10_makeEvent : MethodName := ⟨RX10, "makeEvent", "(I)I"⟩
abbrev cX10_makeJoin : ByteArray := prog_1_method_36_code
def yX10_makeJoin : MethodName := ⟨RX10, "makeJoin", "(III)I"⟩
abbrev cX10_makePeek : ByteArray := prog_1_method_37_code
def yX10_makePeek : MethodName := ⟨RX10, "makePeek", "(I)I"⟩
abbrev cX10_isAboveAt : ByteArray := prog_1_method_38_code
def yX10_isAboveAt : MethodName := ⟨RX10, "isAboveAt", "(IIJI)Z"⟩
abbrev cX10_draftOf : ByteArray := prog_1_method_39_code
def yX10_draftOf : MethodName := ⟨RX10, "draftOf", "(I)I"⟩
abbrev cX10_isPlace : ByteArray := prog_1_method_40_code
def yX10_isPlace : MethodName := ⟨RX10, "isPlace", "(JI)Z"⟩
def RX11 : String := "SplitClocksModel"
def TX11 : u_T := fun k => match k with
  | 0 => ("SplitClocksModel", "steps", "[J", true)
  | 1 => ("SplitClocksModel", "heights", "[I", true)
  | 2 => ("SplitClocksModel", "froms", "[J", true)
  | 3 => ("SplitClocksModel", "tos", "[J", true)
  | 4 => ("SplitClocksModel", "stepFrom", "[I", true)
  | 5 => ("SplitClocksModel", "spanFrom", "[I", true)
  | 6 => ("SplitClocksModel", "lives", "[Z", true)
  | 7 => ("SplitClocksModel", "lost", "[Z", true)
  | 8 => ("SplitClocksModel", "strange", "[Z", true)
  | 9 => ("SplitClocksModel", "how", "[B", true)
  | 10 => ("SplitClocksModel", "first", "[S", true)
  | 11 => ("SplitClocksModel", "second", "[S", true)
  | 12 => ("SplitClocksModel", "ownNodes", "[I", true)
  | 13 => ("SplitClocksModel", "knownNodes", "[I", true)
  | 14 => ("SplitClocksModel", "seen", "[J", true)
  | 15 => ("SplitClocksModel", "many", "I", false)
  | 16 => ("SplitClocksModel", "events", "I", false)
  | 17 => ("SplitClocksModel", "nodes", "I", false)
  | 18 => ("SplitClocksModel", "actMany", "[S", true)
  | 19 => ("SplitClocksModel", "actEvents", "[S", true)
  | 20 => ("SplitClocksModel", "actOne", "[S", true)
  | 21 => ("SplitClocksModel", "actTwo", "[S", true)
  | 22 => ("SplitClocksModel", "actOneLived", "[Z", true)
  | 23 => ("SplitClocksModel", "actTwoLived", "[Z", true)
  | 24 => ("SplitClocksModel", "actLost", "[S", true)
  | 25 => ("SplitClocksModel", "actHome", "[S", true)
  | 26 => ("SplitClocksModel", "acts", "I", false)
  | 27 => ("SplitClocksModel", "w", "[J", true)
  | 28 => ("SplitClocksModel", "wh", "[I", true)
  | 29 => ("SplitClocksModel", "wMany", "I", false)
  | 30 => ("SplitClocksModel", "x", "[J", true)
  | 31 => ("SplitClocksModel", "xh", "[I", true)
  | 32 => ("SplitClocksModel", "of", "[J", true)
  | 33 => ("SplitClocksModel", "ot", "[J", true)
  | 34 => ("SplitClocksModel", "oMany", "I", false)
  | 35 => ("SplitClocksModel", "row", "[Z", true)
  | 36 => ("SplitClocksModel", "bits", "I", false)
  | 37 => ("SplitClocksModel", "fault", "I", false)
  | 38 => ("SplitClocksModel", "witnessPlace", "J", false)
  | 39 => ("SplitClocksModel", "witnessDigits", "I", false)
  | 40 => ("SplitClocksModel", "thrown", "I", false)
  | 41 => ("SplitClocksModel", "hasImage", "Z", false)
  | 42 => ("SplitClocksModel", "kSteps", "[J", true)
  | 43 => ("SplitClocksModel", "kHeights", "[I", true)
  | 44 => ("SplitClocksModel", "kFroms", "[J", true)
  | 45 => ("SplitClocksModel", "kTos", "[J", true)
  | 46 => ("SplitClocksModel", "kStepFrom", "[I", true)
  | 47 => ("SplitClocksModel", "kSpanFrom", "[I", true)
  | 48 => ("SplitClocksModel", "kLives", "[Z", true)
  | 49 => ("SplitClocksModel", "kLost", "[Z", true)
  | 50 => ("SplitClocksModel", "kStrange", "[Z", true)
  | 51 => ("SplitClocksModel", "kHow", "[B", true)
  | 52 => ("SplitClocksModel", "kFirst", "[S", true)
  | 53 => ("SplitClocksModel", "kSecond", "[S", true)
  | 54 => ("SplitClocksModel", "kOwnNodes", "[I", true)
  | 55 => ("SplitClocksModel", "kKnownNodes", "[I", true)
  | 56 => ("SplitClocksModel", "kSeen", "[J", true)
  | 57 => ("SplitClocksModel", "kMany", "I", false)
  | 58 => ("SplitClocksModel", "kEvents", "I", false)
  | 59 => ("SplitClocksModel", "kNodes", "I", false)
  | 60 => ("SplitClocksModel", "growFrom", "J", false)
  | 61 => ("SplitClocksModel", "growSize", "J", false)
  | 62 => ("SplitClocksModel", "oldSteps", "[J", true)
  | 63 => ("SplitClocksModel", "oldHeights", "[I", true)
  | 64 => ("SplitClocksModel", "writes", "Z", false)
  | 65 => ("SplitClocksModel", "at", "I", false)
  | 66 => ("SplitClocksModel", "wrong", "I", false)
  | _ => ("SplitClocksModel", "isNumber", "Z", false)
def tyX11 : Nat → FieldType := fun k => match k with
  | 0 => .array .long
  | 1 => .array .int
  | 2 => .array .long
  | 3 => .array .long
  | 4 => .array .int
  | 5 => .array .int
  | 6 => .array .boolean
  | 7 => .array .boolean
  | 8 => .array .boolean
  | 9 => .array .byte
  | 10 => .array .short
  | 11 => .array .short
  | 12 => .array .int
  | 13 => .array .int
  | 14 => .array .long
  | 15 => .int
  | 16 => .int
  | 17 => .int
  | 18 => .array .short
  | 19 => .array .short
  | 20 => .array .short
  | 21 => .array .short
  | 22 => .array .boolean
  | 23 => .array .boolean
  | 24 => .array .short
  | 25 => .array .short
  | 26 => .int
  | 27 => .array .long
  | 28 => .array .int
  | 29 => .int
  | 30 => .array .long
  | 31 => .array .int
  | 32 => .array .long
  | 33 => .array .long
  | 34 => .int
  | 35 => .array .boolean
  | 36 => .int
  | 37 => .int
  | 38 => .long
  | 39 => .int
  | 40 => .int
  | 41 => .boolean
  | 42 => .array .long
  | 43 => .array .int
  | 44 => .array .long
  | 45 => .array .long
  | 46 => .array .int
  | 47 => .array .int
  | 48 => .array .boolean
  | 49 => .array .boolean
  | 50 => .array .boolean
  | 51 => .array .byte
  | 52 => .array .short
  | 53 => .array .short
  | 54 => .array .int
  | 55 => .array .int
  | 56 => .array .long
  | 57 => .int
  | 58 => .int
  | 59 => .int
  | 60 => .long
  | 61 => .long
  | 62 => .array .long
  | 63 => .array .int
  | 64 => .boolean
  | 65 => .int
  | 66 => .int
  | _ => .boolean
abbrev wsX110 : List Cond := u_ws RX11 TX11 68
theorem nmX11 : ∀ a, a < 68 → ∀ b, b < 68 → a ≠ b → (TX11 a).2.1 ≠ (TX11 b).2.1 := by decide +kernel
theorem tyX11_ok : ∀ k, k < 68 → parseFieldDescriptor (TX11 k).2.2.1 = some (tyX11 k) := by decide +kernel
abbrev cX11_init : ByteArray := prog_13_method_1_code
def yX11_init : MethodName := ⟨RX11, "<init>", "()V"⟩
abbrev cX11_thrown : ByteArray := prog_13_method_2_code
def yX11_thrown : MethodName := ⟨RX11, "thrown", "()I"⟩
abbrev cX11_seed : ByteArray := prog_13_method_3_code
def yX11_seed : MethodName := ⟨RX11, "seed", "()V"⟩
abbrev cX11_is : ByteArray := prog_13_method_4_code
def yX11_is : MethodName := ⟨RX11, "is", "(I)Z"⟩
abbrev cX11_isAlive : ByteArray := prog_13_method_5_code
def yX11_isAlive : MethodName := ⟨RX11, "isAlive", "(I)Z"⟩
abbrev cX11_owns : ByteArray := prog_13_method_6_code
def yX11_owns : MethodName := ⟨RX11, "owns", "(I)Z"⟩
abbrev cX11_hasRoom : ByteArray := prog_13_method_7_code
def yX11_hasRoom : MethodName := ⟨RX11, "hasRoom", "(II)Z"⟩
abbrev cX11_make : ByteArray := prog_13_method_8_code
def yX11_make : MethodName := ⟨RX11, "make", "(III)I"⟩
abbrev cX11_takeKnown : ByteArray := prog_13_method_9_code
def yX11_takeKnown : MethodName := ⟨RX11, "takeKnown", "(I)V"⟩
abbrev cX11_takeOwn : ByteArray := prog_13_method_10_code
def yX11_takeOwn : MethodName := ⟨RX11, "takeOwn", "(I)V"⟩
abbrev cX11_at : ByteArray := prog_13_method_11_code
def yX11_at : MethodName := ⟨RX11, "at", "(J)I"⟩
abbrev cX11_behind : ByteArray := prog_13_method_12_code
def yX11_behind : MethodName := ⟨RX11, "behind", "(I)J"⟩
abbrev cX11_isFlat : ByteArray := prog_13_method_13_code
def yX11_isFlat : MethodName := ⟨RX11, "isFlat", "(JJ)Z"⟩
abbrev cX11_most : ByteArray := prog_13_method_14_code
def yX11_most : MethodName := ⟨RX11, "most", "(JJ)I"⟩
abbrev cX11_least : ByteArray := prog_13_method_15_code
def yX11_least : MethodName := ⟨RX11, "least", "(JJ)I"⟩
abbrev cX11_lay : ByteArray := prog_13_method_16_code
def yX11_lay : MethodName := ⟨RX11, "lay", "(IJI)I"⟩
abbrev cX11_become : ByteArray := prog_13_method_17_code
def yX11_become : MethodName := ⟨RX11, "become", "(I)V"⟩
abbrev cX11_set : ByteArray := prog_13_method_18_code
def yX11_set : MethodName := ⟨RX11, "set", "(JJIZ)V"⟩
abbrev cX11_heightNodes : ByteArray := prog_13_method_19_code
def yX11_heightNodes : MethodName := ⟨RX11, "heightNodes", "(JJ)I"⟩
abbrev cX11_part : ByteArray := prog_13_method_20_code
def yX11_part : MethodName := ⟨RX11, "part", "(JJ)I"⟩
abbrev cX11_shareNodes : ByteArray := prog_13_method_21_code
def yX11_shareNodes : MethodName := ⟨RX11, "shareNodes", "(JJ)I"⟩
abbrev cX11_cut : ByteArray := prog_13_method_22_code
def yX11_cut : MethodName := ⟨RX11, "cut", "(IJJ)V"⟩
abbrev cX11_note : ByteArray := prog_13_method_23_code
def yX11_note : MethodName := ⟨RX11, "note", "(II)V"⟩
abbrev cX11_spend : ByteArray := prog_13_method_24_code
def yX11_spend : MethodName := ⟨RX11, "spend", "(I)V"⟩
abbrev cX11_fork : ByteArray := prog_13_method_25_code
def yX11_fork : MethodName := ⟨RX11, "fork", "(I)I"⟩
abbrev cX11_fill : ByteArray := prog_13_method_26_code
def yX11_fill : MethodName := ⟨RX11, "fill", "(JJ)V"⟩
abbrev cX11_grow : ByteArray := prog_13_method_27_code
def yX11_grow : MethodName := ⟨RX11, "grow", "(JJ)I"⟩
abbrev cX11_happen : ByteArray := prog_13_method_28_code
def yX11_happen : MethodName := ⟨RX11, "happen", "()V"⟩
abbrev cX11_mark : ByteArray := prog_13_method_29_code
def yX11_mark : MethodName := ⟨RX11, "mark", "(I)V"⟩
abbrev cX11_event : ByteArray := prog_13_method_30_code
def yX11_event : MethodName := ⟨RX11, "event", "(I)I"⟩
abbrev cX11_together : ByteArray := prog_13_method_31_code
def yX11_together : MethodName := ⟨RX11, "together", "(II)V"⟩
abbrev cX11_share : ByteArray := prog_13_method_32_code
def yX11_share : MethodName := ⟨RX11, "share", "(II)V"⟩
abbrev cX11_joined : ByteArray := prog_13_method_33_code
def yX11_joined : MethodName := ⟨RX11, "joined", "(III)I"⟩
abbrev cX11_join : ByteArray := prog_13_method_34_code
def yX11_join : MethodName := ⟨RX11, "join", "(II)I"⟩
abbrev cX11_peek : ByteArray := prog_13_method_35_code
def yX11_peek : MethodName := ⟨RX11, "peek", "(I)I"⟩
abbrev cX11_send : ByteArray := prog_13_method_36_code
def yX11_send : MethodName := ⟨RX11, "send", "(I)I"⟩
abbrev cX11_take : ByteArray := prog_13_method_37_code
def yX11_take : MethodName := ⟨RX11, "take", "(II)I"⟩
abbrev cX11_lose : ByteArray := prog_13_method_38_code
def yX11_lose : MethodName := ⟨RX11, "lose", "(I)Z"⟩
abbrev cX11_home : ByteArray := prog_13_method_39_code
def yX11_home : MethodName := ⟨RX11, "home", "(II)I"⟩
abbrev cX11_undo : ByteArray := prog_13_method_40_code
def yX11_undo : MethodName := ⟨RX11, "undo", "()Z"⟩
abbrev cX11_leads : ByteArray := prog_13_method_41_code
def yX11_leads : MethodName := ⟨RX11, "leads", "(II)Z"⟩
abbrev cX11_relation : ByteArray := prog_13_method_42_code
def yX11_relation : MethodName := ⟨RX11, "relation", "(II)I"⟩
abbrev cX11_unseen : ByteArray := prog_13_method_43_code
def yX11_unseen : MethodName := ⟨RX11, "unseen", "(II)I"⟩
abbrev cX11_meets : ByteArray := prog_13_method_44_code
def yX11_meets : MethodName := ⟨RX11, "meets", "(II)Z"⟩
abbrev cX11_isPlace : ByteArray := prog_13_method_45_code
def yX11_isPlace : MethodName := ⟨RX11, "isPlace", "(JI)Z"⟩
abbrev cX11_heightAt : ByteArray := prog_13_method_46_code
def yX11_heightAt : MethodName := ⟨RX11, "heightAt", "(IJ)I"⟩
abbrev cX11_height : ByteArray := prog_13_method_47_code
def yX11_height : MethodName := ⟨RX11, "height", "(IJI)I"⟩
abbrev cX11_owns_ : ByteArray := prog_13_method_48_code
def yX11_owns_ : MethodName := ⟨RX11, "owns", "(IJI)Z"⟩
abbrev cX11_stamp : ByteArray := prog_13_method_49_code
def yX11_stamp : MethodName := ⟨RX11, "stamp", "(II)I"⟩
abbrev cX11_history : ByteArray := prog_13_method_50_code
def yX11_history : MethodName := ⟨RX11, "history", "(I)I"⟩
abbrev cX11_turn : ByteArray := prog_13_method_51_code
def yX11_turn : MethodName := ⟨RX11, "turn", "(IIJZ)J"⟩
abbrev cX11_witness : ByteArray := prog_13_method_52_code
def yX11_witness : MethodName := ⟨RX11, "witness", "(III)Z"⟩
abbrev cX11_place : ByteArray := prog_13_method_53_code
def yX11_place : MethodName := ⟨RX11, "place", "()J"⟩
abbrev cX11_digits : ByteArray := prog_13_method_54_code
def yX11_digits : MethodName := ⟨RX11, "digits", "()I"⟩
abbrev cX11_check : ByteArray := prog_13_method_55_code
def yX11_check : MethodName := ⟨RX11, "check", "(IIJIJI)I"⟩
abbrev cX11_bit : ByteArray := prog_13_method_56_code
def yX11_bit : MethodName := ⟨RX11, "bit", "(Z)V"⟩
abbrev cX11_number : ByteArray := prog_13_method_57_code
def yX11_number : MethodName := ⟨RX11, "number", "(I)V"⟩
abbrev cX11_writeShare : ByteArray := prog_13_method_58_code
def yX11_writeShare : MethodName := ⟨RX11, "writeShare", "(JJ)V"⟩
abbrev cX11_writeHeight : ByteArray := prog_13_method_59_code
def yX11_writeHeight : MethodName := ⟨RX11, "writeHeight", "(JJI)V"⟩
abbrev cX11_written : ByteArray := prog_13_method_60_code
def yX11_written : MethodName := ⟨RX11, "written", "(Z)I"⟩
abbrev cX11_pack : ByteArray := prog_13_method_61_code
def yX11_pack : MethodName := ⟨RX11, "pack", "(I)I"⟩
abbrev cX11_bit_ : ByteArray := prog_13_method_62_code
def yX11_bit_ : MethodName := ⟨RX11, "bit", "(I)I"⟩
abbrev cX11_add : ByteArray := prog_13_method_63_code
def yX11_add : MethodName := ⟨RX11, "add", "(JI)I"⟩
abbrev cX11_end : ByteArray := prog_13_method_64_code
def yX11_end : MethodName := ⟨RX11, "end", "(I)Z"⟩
abbrev cX11_fails : ByteArray := prog_13_method_65_code
def yX11_fails : MethodName := ⟨RX11, "fails", "(I)V"⟩
abbrev cX11_next : ByteArray := prog_13_method_66_code
def yX11_next : MethodName := ⟨RX11, "next", "()I"⟩
abbrev cX11_readNumber : ByteArray := prog_13_method_67_code
def yX11_readNumber : MethodName := ⟨RX11, "readNumber", "()I"⟩
abbrev cX11_readShare : ByteArray := prog_13_method_68_code
def yX11_readShare : MethodName := ⟨RX11, "readShare", "(I)I"⟩
abbrev cX11_readHeight : ByteArray := prog_13_method_69_code
def yX11_readHeight : MethodName := ⟨RX11, "readHeight", "(IJI)I"⟩
abbrev cX11_step : ByteArray := prog_13_method_70_code
def yX11_step : MethodName := ⟨RX11, "step", "(JI)I"⟩
abbrev cX11_read : ByteArray := prog_13_method_71_code
def yX11_read : MethodName := ⟨RX11, "read", "()I"⟩
abbrev cX11_fault : ByteArray := prog_13_method_72_code
def yX11_fault : MethodName := ⟨RX11, "fault", "()I"⟩
abbrev cX11_image : ByteArray := prog_13_method_73_code
def yX11_image : MethodName := ⟨RX11, "image", "()Z"⟩
abbrev cX11_back : ByteArray := prog_13_method_74_code
def yX11_back : MethodName := ⟨RX11, "back", "()Z"⟩
abbrev cX11_count : ByteArray := prog_13_method_75_code
def yX11_count : MethodName := ⟨RX11, "count", "(I)I"⟩
def RJx8e188 : String := "java/lang/Cloneable"
def TJx8e188 : u_T := fun k => match k with
  | _ => ("", "", "", false)
def tyJx8e188 : Nat → FieldType := fun k => match k with
  | _ => .int
abbrev wsJx8e1880 : List Cond := u_ws RJx8e188 TJx8e188 0
theorem nmJx8e188 : ∀ a, a < 0 → ∀ b, b < 0 → a ≠ b → (TJx8e188 a).2.1 ≠ (TJx8e188 b).2.1 := by decide +kernel
theorem tyJx8e188_ok : ∀ k, k < 0 → parseFieldDescriptor (TJx8e188 k).2.2.1 = some (tyJx8e188 k) := by decide +kernel
def RJ13 : String := "java/lang/Long"
def TJ13 : u_T := fun k => match k with
  | _ => ("", "", "", false)
def tyJ13 : Nat → FieldType := fun k => match k with
  | _ => .int
abbrev wsJ130 : List Cond := u_ws RJ13 TJ13 0
theorem nmJ13 : ∀ a, a < 0 → ∀ b, b < 0 → a ≠ b → (TJ13 a).2.1 ≠ (TJ13 b).2.1 := by decide +kernel
theorem tyJ13_ok : ∀ k, k < 0 → parseFieldDescriptor (TJ13 k).2.2.1 = some (tyJ13 k) := by decide +kernel
abbrev cJ13_bitCount_95d88 : ByteArray := prog_16_method_50_code
def yJ13_bitCount_95d88 : MethodName := ⟨RJ13, "bitCount", "(J)I"⟩
def RJ9 : String := "java/lang/Math"
def TJ9 : u_T := fun k => match k with
  | _ => ("", "", "", false)
def tyJ9 : Nat → FieldType := fun k => match k with
  | _ => .int
abbrev wsJ90 : List Cond := u_ws RJ9 TJ9 0
theorem nmJ9 : ∀ a, a < 0 → ∀ b, b < 0 → a ≠ b → (TJ9 a).2.1 ≠ (TJ9 b).2.1 := by decide +kernel
theorem tyJ9_ok : ∀ k, k < 0 → parseFieldDescriptor (TJ9 k).2.2.1 = some (tyJ9 k) := by decide +kernel
abbrev cJ9_max_7cf53 : ByteArray := prog_17_method_65_code
def yJ9_max_7cf53 : MethodName := ⟨RJ9, "max", "(II)I"⟩
abbrev cJ9_min_7cf53 : ByteArray := prog_17_method_69_code
def yJ9_min_7cf53 : MethodName := ⟨RJ9, "min", "(II)I"⟩
def RJ0 : String := "java/lang/String"
def TJ0 : u_T := fun k => match k with
  | _ => ("", "", "", false)
def tyJ0 : Nat → FieldType := fun k => match k with
  | _ => .int
abbrev wsJ00 : List Cond := u_ws RJ0 TJ0 0
theorem nmJ0 : ∀ a, a < 0 → ∀ b, b < 0 → a ≠ b → (TJ0 a).2.1 ≠ (TJ0 b).2.1 := by decide +kernel
theorem tyJ0_ok : ∀ k, k < 0 → parseFieldDescriptor (TJ0 k).2.2.1 = some (tyJ0 k) := by decide +kernel
def RJ10 : String := "java/lang/System"
def TJ10 : u_T := fun k => match k with
  | _ => ("", "", "", false)
def tyJ10 : Nat → FieldType := fun k => match k with
  | _ => .int
abbrev wsJ100 : List Cond := u_ws RJ10 TJ10 0
theorem nmJ10 : ∀ a, a < 0 → ∀ b, b < 0 → a ≠ b → (TJ10 a).2.1 ≠ (TJ10 b).2.1 := by decide +kernel
theorem tyJ10_ok : ∀ k, k < 0 → parseFieldDescriptor (TJ10 k).2.2.1 = some (tyJ10 k) := by decide +kernel
def RJ7 : String := "java/util/Arrays"
def TJ7 : u_T := fun k => match k with
  | _ => ("", "", "", false)
def tyJ7 : Nat → FieldType := fun k => match k with
  | _ => .int
abbrev wsJ70 : List Cond := u_ws RJ7 TJ7 0
theorem nmJ7 : ∀ a, a < 0 → ∀ b, b < 0 → a ≠ b → (TJ7 a).2.1 ≠ (TJ7 b).2.1 := by decide +kernel
theorem tyJ7_ok : ∀ k, k < 0 → parseFieldDescriptor (TJ7 k).2.2.1 = some (tyJ7 k) := by decide +kernel
abbrev cJ7_copyOf_59c91 : ByteArray := prog_22_method_123_code
def yJ7_copyOf_59c91 : MethodName := ⟨RJ7, "copyOf", "([II)[I"⟩
def RL : String := "SplitClocksLaw"
abbrev cL_height : ByteArray := method_3_code
def yL_height : MethodName := ⟨RL, "height", "(LSplitClocks;IJI[J)I"⟩
abbrev cL_owns : ByteArray := method_4_code
def yL_owns : MethodName := ⟨RL, "owns", "(LSplitClocks;IJI[J)I"⟩
abbrev cL_law : ByteArray := code
def yL_law : MethodName := ⟨RL, "law", "([I)Z"⟩
abbrev vwCl : List vw_C := [(RX0, TX0, 6), (RX1, TX1, 2), (RX2, TX2, 10), (RX4, TX4, 2), (RX5, TX5, 2), (RX6, TX6, 3), (RX8, TX8, 3), (RX10, TX10, 11), (RX11, TX11, 68)]
end
section
/-! A MACHINE OF OUR OWN over memories: cells numbered from 0 on, the cell k at the address b + k. Its runs are functions; 'dm_sound' (part 04) says that the JVM does what they do. -/
abbrev dm_Cell : Type := (FieldType × vp_A) ⊕ (Nat × List Value)
abbrev dm_Mem : Type := List dm_Cell
abbrev dm_Lv : Type := List (Nat × Value)
abbrev dm_Fr : Type := Nat × dm_Lv × List Value
abbrev dm_Rs : Type := (dm_Fr × dm_Mem) ⊕ ((Nat × List Value × dm_Fr) ⊕ Option Value)
abbrev dm_Sem : Type := dm_Lv → List Value → dm_Mem → Option dm_Rs
/-- our value as the JVM's: a number of a cell is its address; a float stands for the law's script -/
def dm_v (b zb : Nat) : Value → Value
  | .int x => .int x
  | .long x => .long x
  | .float _ => .ref zb
  | .double x => .double x
  | .null => .null
  | .ref k => .ref (b + k)
  | .retAddr k => .retAddr k
theorem dm_cat (b zb : Nat) (v : Value) : (dm_v b zb v).category = v.category := by cases v <;> rfl
def dm_sz : dm_Cell → Nat
  | .inl a => a.2.1
  | .inr o => o.2.length
def dm_slots (M : dm_Mem) : Nat := (M.map dm_sz).sum
def dm_E (ca : FieldType → ClassId) (b zb : Nat) : dm_Cell → va_E
  | .inl a => .inl (ca a.1, a.2)
  | .inr o => .inr (o.1, o.2.map (dm_v b zb))
def dm_ws (ca : FieldType → ClassId) (b zb : Nat) (M : dm_Mem) : va_W := M.mapIdx (fun k x => (b + k, dm_E ca b zb x))
def dm_lv (b zb : Nat) (lv : dm_Lv) : dm_Lv := lv.map (fun q => (q.1, dm_v b zb q.2))
def dm_tys (ca : FieldType → ClassId) : List (ClassId × FieldType) := [(ca .int, .int), (ca .long, .long), (ca .boolean, .boolean), (ca .byte, .byte), (ca .short, .short)]
def dm_Hp (D : va_G) (ca : FieldType → ClassId) (b zb : Nat) (M : dm_Mem) (H : Heap) : Prop := H.size = b + M.length ∧ va_P D vwCl (dm_ws ca b zb M) H
/-- the words that a method of ours stands on: the tables', as far as they hold for ever -/
def dm_W : List Cond := lw_tbl.filter goodWord
theorem dm_in {w : Cond} (h : w ∈ lw_tbl) (g : goodWord w = true) : w ∈ dm_W := List.mem_filter.mpr ⟨h, g⟩
theorem dm_at (i : Nat) {w : Cond} (h : lw_tbl[i]? = some w) (g : goodWord w = true) : w ∈ dm_W := dm_in (List.mem_of_getElem? h) g
theorem dm_goodW {w : Cond} (h : w ∈ dm_W) : (w.onTables && w.keeps) = true ∨ ∃ ty, w = .arrayClass ty := good_of_word (List.mem_filter.mp h).2
-- ===== lists =====
theorem dm_ws_get {ca : FieldType → ClassId} {b zb : Nat} {M : dm_Mem} {k : Nat} {x : dm_Cell} (h : M[k]? = some x) : (dm_ws ca b zb M)[k]? = some (b + k, dm_E ca b zb x) := by
  simp [dm_ws, List.getElem?_mapIdx, h]
theorem dm_ws_of {ca : FieldType → ClassId} {b zb : Nat} {M : dm_Mem} {k : Nat} {q : Nat × va_E} (h : (dm_ws ca b zb M)[k]? = some q) : ∃ x, M[k]? = some x ∧ q = (b + k, dm_E ca b zb x) := by
  simp only [dm_ws, List.getElem?_mapIdx] at h
  cases hm : M[k]? with
  | none => rw [hm] at h; cases h
  | some x => rw [hm] at h; exact ⟨x, rfl, (Option.some.inj h).symm⟩
theorem dm_ws_set (ca : FieldType → ClassId) (b zb : Nat) (M : dm_Mem) (k : Nat) (x : dm_Cell) : dm_ws ca b zb (M.set k x) = (dm_ws ca b zb M).set k (b + k, dm_E ca b zb x) := by
  apply List.ext_getElem?
  intro i
  simp only [dm_ws, List.getElem?_mapIdx, List.getElem?_set, List.length_mapIdx]
  by_cases h : k = i
  · subst h
    by_cases h2 : k < M.length
    · simp [h2]
    · simp [h2]
  · simp [h]
theorem dm_ws_app (ca : FieldType → ClassId) (b zb : Nat) (M : dm_Mem) (x : dm_Cell) : dm_ws ca b zb (M ++ [x]) = dm_ws ca b zb M ++ [(b + M.length, dm_E ca b zb x)] := by
  simp [dm_ws, List.mapIdx_append]
theorem dm_ws_D (ca : FieldType → ClassId) (b zb : Nat) (M : dm_Mem) : va_D (fun q => b ≤ q) (dm_ws ca b zb M) := by
  refine ⟨fun i j p q hi hj h => ?_, fun k q hk => ?_⟩
  · obtain ⟨x, -, rfl⟩ := dm_ws_of hi
    obtain ⟨y, -, rfl⟩ := dm_ws_of hj
    simp only at h
    omega
  · obtain ⟨x, -, rfl⟩ := dm_ws_of hk
    exact Nat.le_add_right _ _
theorem dm_slots_app (M : dm_Mem) (x : dm_Cell) : dm_slots (M ++ [x]) = dm_slots M + dm_sz x := by simp [dm_slots]
theorem dm_slots_set (M : dm_Mem) (k : Nat) (x y : dm_Cell) (h : M[k]? = some x) (hs : dm_sz y = dm_sz x) : dm_slots (M.set k y) = dm_slots M := by
  unfold dm_slots
  congr 1
  apply List.ext_getElem?
  intro i
  simp only [List.getElem?_map, List.getElem?_set]
  by_cases hk : k = i
  · subst hk
    have hl := (List.getElem?_eq_some_iff.mp h).1
    simp [hl, h, hs]
    have := (List.getElem?_eq_some_iff.mp h).2
    simp [this, hs]
  · simp [hk]
def dm_lget : dm_Lv → Nat → Option Value
  | [], _ => none
  | q :: r, i => bif Nat.beq q.1 i then some q.2 else dm_lget r i
theorem dm_lget_mem {lv : dm_Lv} {i : Nat} {v : Value} (h : dm_lget lv i = some v) : (i, v) ∈ lv := by
  induction lv with
  | nil => cases h
  | cons q r ih =>
    unfold dm_lget at h
    cases hb : Nat.beq q.1 i with
    | true =>
      rw [hb] at h
      have h1 : q.1 = i := Nat.eq_of_beq_eq_true hb
      have h2 : q.2 = v := Option.some.inj h
      rw [← h1, ← h2]
      exact List.mem_cons_self
    | false =>
      rw [hb] at h
      exact List.mem_cons_of_mem _ (ih h)
theorem dm_lget_at {lv : dm_Lv} {i b zb nL : Nat} {v : Value} {ls : Array Slot} (hl : lv_has ls nL (dm_lv b zb lv)) (h : dm_lget lv i = some v) : ls[i]? = some (.val (dm_v b zb v)) :=
  hl.2.2 (i, dm_v b zb v) (List.mem_map.mpr ⟨(i, v), dm_lget_mem h, rfl⟩)
/-- the locals behind a store of one word, of two words -/
def dm_set1 (lv : dm_Lv) (i : Nat) (v : Value) : dm_Lv := (i, v) :: lv.filter (fun q => !(q.1 == i) && !(q.1 + 1 == i && q.2.category == 2))
def dm_set2 (lv : dm_Lv) (i : Nat) (v : Value) : dm_Lv := (i, v) :: lv.filter (fun q => !(q.1 == i) && (!(q.1 == i + 1) && !(q.1 + 1 == i && q.2.category == 2)))
theorem dm_set1_lv (b zb : Nat) (lv : dm_Lv) (i : Nat) (v : Value) : (i, dm_v b zb v) :: (dm_lv b zb lv).filter (fun q => !(q.1 == i) && !(q.1 + 1 == i && q.2.category == 2)) = dm_lv b zb (dm_set1 lv i v) := by
  simp only [dm_lv, dm_set1, List.map_cons, List.filter_map]
  congr 2
  apply List.filter_congr
  intro q _
  simp [Function.comp, dm_cat]
theorem dm_set2_lv (b zb : Nat) (lv : dm_Lv) (i : Nat) (v : Value) : (i, dm_v b zb v) :: (dm_lv b zb lv).filter (fun q => !(q.1 == i) && (!(q.1 == i + 1) && !(q.1 + 1 == i && q.2.category == 2))) = dm_lv b zb (dm_set2 lv i v) := by
  simp only [dm_lv, dm_set2, List.map_cons, List.filter_map]
  congr 2
  apply List.filter_congr
  intro q _
  simp [Function.comp, dm_cat]
theorem dm_lv_args (b zb : Nat) (vs : List Value) : ∀ i, lv_args i (vs.map (dm_v b zb)) = dm_lv b zb (lv_args i vs) := by
  induction vs with
  | nil => intro i; rfl
  | cons v vs ih =>
    intro i
    simp only [List.map_cons, lv_args, dm_lv, dm_cat]
    rw [ih]
    rfl
theorem dm_lg_sl (b zb : Nat) (vs : List Value) : (lg_sl (vs.map (dm_v b zb))).length = (lg_sl vs).length := by
  induction vs with
  | nil => rfl
  | cons v vs ih =>
    have h1 : lg_sl (v :: vs) = (if v.category = 2 then [.val v, .second] else [.val v]) ++ lg_sl vs := by simp [lg_sl]
    have h2 : lg_sl ((v :: vs).map (dm_v b zb)) = (if v.category = 2 then [.val (dm_v b zb v), .second] else [.val (dm_v b zb v)]) ++ lg_sl (vs.map (dm_v b zb)) := by simp [lg_sl, dm_cat]
    rw [h1, h2, List.length_append, List.length_append, ih]
    by_cases h : v.category = 2 <;> simp [h]
theorem dm_cats (b zb : Nat) (st : List Value) : ((st.map (dm_v b zb)).map fun v => v.category) = st.map fun v => v.category := by
  simp [List.map_map, Function.comp, dm_cat]
-- ===== positions of the JVM, by ours =====
/-- from every heap that holds M, with the locals and the stack of g, the JVM comes to Q -/
def dm_At (p : Program) (l : Launch) (e : Env) (R : Room) (s : State) (m : MethodId) (args : Array Value) (below : List Frame) (meth : Method) (c : Code) (D : va_G) (ca : FieldType → ClassId) (b zb n0 s0 nL : Nat) (Q : State → Prop) (M : dm_Mem) (g : dm_Fr) : Prop :=
  ∀ (H : Heap) (locs : List Loc) (ls : Array Slot), dm_Hp D ca b zb M H → va_S (fun q => b ≤ q) s.heap H locs → lv_has ls nL (dm_lv b zb g.2.1) → W p l e R s m args below meth c H locs (M.length - n0) (dm_slots M - s0) Q (F0 m g.1 ls (g.2.2.map (dm_v b zb)))
/-- what stands fast while a method runs -/
def dm_Cx (own : String) (cc : ByteArray) (nL : Nat) (ret : Option FieldType) (isI : Bool) (sc : Option (Nat × (Nat → Int32))) (p : Program) (R : Room) (s : State) (m : MethodId) (args : Array Value) (meth : Method) (c : Code) (D : va_G) (ca : FieldType → ClassId) (b zb n0 : Nat) : Prop :=
  p.tables.exec = Jvm.exec ∧ c.code = cc ∧ c.maxLocals = nL ∧ s.vm.findClass own = some m.cls ∧ (∀ w ∈ dm_W, w.before args s = true) ∧ meth.sig.returnType = ret ∧ meth.locks = false ∧ (isI = true → meth.name = "<init>") ∧ va_K D vwCl (dm_tys ca) s ∧ s.heap.size = b + n0 ∧ 1 ≤ R.frames ∧ 64 ≤ R.locals ∧ ∀ (L : Nat) (xs : Nat → Int32), sc = some (L, xs) → va_X zb L xs s s.heap ∧ zb < s.heap.size ∧ zb < b
/-- one step: from M and (pc, lv, st) to M' and g -/
def dm_Nx (own : String) (cc : ByteArray) (nL : Nat) (ret : Option FieldType) (isI : Bool) (sc : Option (Nat × (Nat → Int32))) (pc : Nat) (lv : dm_Lv) (st : List Value) (M : dm_Mem) (g : dm_Fr) (M' : dm_Mem) : Prop :=
  (M.length ≤ M'.length ∧ dm_slots M ≤ dm_slots M') ∧ ∀ (p : Program) (l : Launch) (e : Env) (R : Room) (s : State) (m : MethodId) (args : Array Value) (below : List Frame) (meth : Method) (c : Code) (D : va_G) (ca : FieldType → ClassId) (b zb n0 s0 : Nat) (Q : State → Prop),
    dm_Cx own cc nL ret isI sc p R s m args meth c D ca b zb n0 → n0 ≤ M.length → s0 ≤ dm_slots M → M'.length - n0 ≤ R.cells → dm_slots M' - s0 ≤ R.slots →
    dm_At p l e R s m args below meth c D ca b zb n0 s0 nL Q M' g → dm_At p l e R s m args below meth c D ca b zb n0 s0 nL Q M (pc, lv, st)
/-- what a method leaves: its answer, the memory, nothing else -/
def dm_Qc (D : va_G) (ca : FieldType → ClassId) (b zb : Nat) (r : Option Value) (M' : dm_Mem) : Array Value → State → Outcome → State → Prop := fun _ st oc t =>
  oc = .returned (r.map (dm_v b zb)) ∧ dm_Hp D ca b zb M' t.heap ∧ va_F (fun q => b ≤ q) st t
def dm_Rt (own : String) (cc : ByteArray) (nL : Nat) (ret : Option FieldType) (isI : Bool) (sc : Option (Nat × (Nat → Int32))) (pc : Nat) (lv : dm_Lv) (st : List Value) (M : dm_Mem) (v : Option Value) : Prop :=
  ∀ (p : Program) (l : Launch) (e : Env) (R : Room) (s : State) (m : MethodId) (args : Array Value) (below : List Frame) (meth : Method) (c : Code) (D : va_G) (ca : FieldType → ClassId) (b zb n0 s0 : Nat),
    dm_Cx own cc nL ret isI sc p R s m args meth c D ca b zb n0 →
    dm_At p l e R s m args below meth c D ca b zb n0 s0 nL (MQ below (dm_Qc D ca b zb v M) args s (M.length - n0) (dm_slots M - s0) (fun q => b ≤ q)) M (pc, lv, st)
/-- a method: its name, code, locals, answer, whether it is a constructor -/
abbrev dm_Me : Type := MethodName × ByteArray × Nat × Option FieldType × Bool
def dm_wo (t : dm_Me) : List Cond := Cond.code t.1 t.2.1 t.2.2.1 t.2.2.2.1 :: dm_W
/-- its contract at one memory and one list of arguments -/
def dm_Met (tb : Nat → dm_Me) (l : Launch) (d mi : Nat) (as : List Value) (M : dm_Mem) (r : Option Value) (M' : dm_Mem) : Prop :=
  (M.length ≤ M'.length ∧ dm_slots M ≤ dm_slots M') ∧ ∀ (D : va_G) (ca : FieldType → ClassId) (b zb : Nat),
    Met l (tb mi).1 (dm_wo (tb mi)) ({ frames := d, cells := M'.length - M.length, slots := dm_slots M' - dm_slots M, locals := 64 * d }) (va_Pc (as.map (dm_v b zb)) (fun U => dm_Hp D ca b zb M U.heap ∧ va_K D vwCl (dm_tys ca) U)) (dm_Qc D ca b zb r M') (M'.length - M.length) (dm_slots M' - dm_slots M) (fun q => b ≤ q)
def dm_Cl (tb : Nat → dm_Me) (own : String) (cc : ByteArray) (nL : Nat) (ret : Option FieldType) (isI : Bool) (sc : Option (Nat × (Nat → Int32))) (pc : Nat) (lv : dm_Lv) (st : List Value) (M : dm_Mem) (mi : Nat) (as : List Value) (g : dm_Fr) : Prop :=
  ∀ (p : Program) (l : Launch) (e : Env) (R : Room) (s : State) (m : MethodId) (args : Array Value) (below : List Frame) (meth : Method) (c : Code) (D : va_G) (ca : FieldType → ClassId) (b zb n0 s0 : Nat) (Q : State → Prop) (d : Nat) (r : Option Value) (M' : dm_Mem),
    dm_Cx own cc nL ret isI sc p R s m args meth c D ca b zb n0 → n0 ≤ M.length → s0 ≤ dm_slots M → M'.length - n0 ≤ R.cells → dm_slots M' - s0 ≤ R.slots → d + 1 ≤ R.frames → 64 * d + 64 ≤ R.locals → dm_Met tb l d mi as M r M' →
    dm_At p l e R s m args below meth c D ca b zb n0 s0 nL Q M' (g.1, g.2.1, r.toList ++ g.2.2) → dm_At p l e R s m args below meth c D ca b zb n0 s0 nL Q M (pc, lv, st)
def dm_Res (tb : Nat → dm_Me) (own : String) (cc : ByteArray) (nL : Nat) (ret : Option FieldType) (isI : Bool) (sc : Option (Nat × (Nat → Int32))) (pc : Nat) (lv : dm_Lv) (st : List Value) (M : dm_Mem) : dm_Rs → Prop
  | .inl q => dm_Nx own cc nL ret isI sc pc lv st M q.1 q.2
  | .inr (.inl q) => dm_Cl tb own cc nL ret isI sc pc lv st M q.1 q.2.1 q.2.2
  | .inr (.inr v) => dm_Rt own cc nL ret isI sc pc lv st M v
/-- a step of ours is the JVM's -/
def dm_Good (tb : Nat → dm_Me) (own : String) (cc : ByteArray) (nL : Nat) (ret : Option FieldType) (isI : Bool) (sc : Option (Nat × (Nat → Int32))) (pc : Nat) (f : dm_Sem) : Prop :=
  ∀ (lv : dm_Lv) (st : List Value) (M : dm_Mem) (o : dm_Rs), f lv st M = some o → dm_Res tb own cc nL ret isI sc pc lv st M o
/-- steps that leave the memory alone -/
theorem dm_pure {own : String} {cc : ByteArray} {nL : Nat} {ret : Option FieldType} {isI : Bool} {sc : Option (Nat × (Nat → Int32))} {pc : Nat} {lv : dm_Lv} {st : List Value} {M : dm_Mem} {g : dm_Fr}
    (h : ∀ (p : Program) (l : Launch) (e : Env) (R : Room) (s : State) (m : MethodId) (args : Array Value) (below : List Frame) (meth : Method) (c : Code) (D : va_G) (ca : FieldType → ClassId) (b zb n0 : Nat) (Q : State → Prop) (H : Heap) (locs : List Loc) (ls : Array Slot) (cells slots : Nat),
      dm_Cx own cc nL ret isI sc p R s m args meth c D ca b zb n0 → dm_Hp D ca b zb M H → lv_has ls nL (dm_lv b zb lv) → cells ≤ R.cells → slots ≤ R.slots →
      (∀ ls' : Array Slot, lv_has ls' nL (dm_lv b zb g.2.1) → W p l e R s m args below meth c H locs cells slots Q (F0 m g.1 ls' (g.2.2.map (dm_v b zb)))) → W p l e R s m args below meth c H locs cells slots Q (F0 m pc ls (st.map (dm_v b zb)))) :
    dm_Nx own cc nL ret isI sc pc lv st M g M := by
  refine ⟨⟨Nat.le_refl _, Nat.le_refl _⟩, ?_⟩
  intro p l e R s m args below meth c D ca b zb n0 s0 Q hC _ _ h1 h2 hk H locs ls hH hS hl
  exact h p l e R s m args below meth c D ca b zb n0 Q H locs ls _ _ hC hH hl h1 h2 (fun ls' hl' => hk H locs ls' hH hS hl')
theorem dm_size {p : Program} {l : Launch} {e : Env} {R : Room} {s : State} {m : MethodId} {args : Array Value} {below : List Frame} {meth : Method} {c : Code} {H : Heap} {locs : List Loc} {cells slots : Nat} {Q : State → Prop} {g : JFrame}
    (h : H.size ≤ s.heap.size + cells → W p l e R s m args below meth c H locs cells slots Q g) : W p l e R s m args below meth c H locs cells slots Q g := fun T hT X => h (by rw [← hT]; exact X.heapSize) T hT X
/-- steps that put one cell -/
theorem dm_putc {own : String} {cc : ByteArray} {nL : Nat} {ret : Option FieldType} {isI : Bool} {sc : Option (Nat × (Nat → Int32))} {pc : Nat} {lv : dm_Lv} {st : List Value} {M : dm_Mem} {g : dm_Fr} {k : Nat} {x y : dm_Cell} (hx : M[k]? = some x) (hy : dm_sz y = dm_sz x)
    (h : ∀ (p : Program) (l : Launch) (e : Env) (R : Room) (s : State) (m : MethodId) (args : Array Value) (below : List Frame) (meth : Method) (c : Code) (D : va_G) (ca : FieldType → ClassId) (b zb n0 : Nat) (Q : State → Prop) (H : Heap) (locs : List Loc) (ls : Array Slot) (cells slots : Nat),
      dm_Cx own cc nL ret isI sc p R s m args meth c D ca b zb n0 → dm_Hp D ca b zb M H → va_S (fun q => b ≤ q) s.heap H locs → va_D (fun q => b ≤ q) (dm_ws ca b zb M) → lv_has ls nL (dm_lv b zb lv) →
      (∀ (H1 : Heap) (locs1 : List Loc), va_P D vwCl ((dm_ws ca b zb M).set k (b + k, dm_E ca b zb y)) H1 → va_S (fun q => b ≤ q) s.heap H1 locs1 → W p l e R s m args below meth c H1 locs1 cells slots Q (F0 m g.1 ls (g.2.2.map (dm_v b zb)))) → W p l e R s m args below meth c H locs cells slots Q (F0 m pc ls (st.map (dm_v b zb))))
    (hg : g.2.1 = lv) : dm_Nx own cc nL ret isI sc pc lv st M g (M.set k y) := by
  have hs := dm_slots_set M k x y hx hy
  refine ⟨⟨by simp, by rw [hs]; exact Nat.le_refl _⟩, ?_⟩
  intro p l e R s m args below meth c D ca b zb n0 s0 Q hC hn _ h1 h2 hk H locs ls hH hS hl
  refine h p l e R s m args below meth c D ca b zb n0 Q H locs ls _ _ hC hH hS (dm_ws_D ca b zb M) hl (fun H1 locs1 hP1 hS1 => ?_)
  refine dm_size (fun hz => ?_)
  have hP2 : va_P D vwCl (dm_ws ca b zb (M.set k y)) H1 := by rw [dm_ws_set]; exact hP1
  have hlen : (M.set k y).length = M.length := by simp
  have hkl : k < M.length := (List.getElem?_eq_some_iff.mp hx).1
  have hb : s.heap.size = b + n0 := hC.2.2.2.2.2.2.2.2.2.1
  have hlast : b + (M.length - 1) < H1.size := by
    have hm : M.length - 1 < (M.set k y).length := by rw [hlen]; omega
    have := (hP2 (M.length - 1) _ (dm_ws_get (List.getElem?_eq_getElem hm))).lt
    simpa using this
  have hw := hk H1 locs1 ls ⟨by rw [hlen]; omega, hP2⟩ hS1 (by rw [hg]; exact hl)
  rw [hlen, hs] at hw
  exact hw
end
section
def dm_push (n : Nat) (v : Value) : dm_Sem := fun lv st M => some (.inl ((n, lv, v :: st), M))
theorem dg_iconst {tb : Nat → dm_Me} {own : String} {cc : ByteArray} {nL : Nat} {ret : Option FieldType} {isI : Bool} {sc : Option (Nat × (Nat → Int32))} {pc : Nat} {n : Int} {v : Int32} (hv : Int32.ofInt n = v) (hd : decode cc pc = .ok (.iconst n, 1)) : dm_Good tb own cc nL ret isI sc pc (dm_push (pc + 1) (.int v)) := by
  intro lv st M o h
  cases h
  refine dm_pure (fun p l e R s m args below meth c D ca b zb n0 Q H locs ls cells slots hC hH hl h1 h2 hk => ?_)
  obtain ⟨hx, hb, hml, hown, hts, hr, hlk, hin, hK, hsz, hf, hlo, hsc⟩ := hC
  exact lv_iconst hx hb hd hv (hk ls hl)
theorem dg_bipush {tb : Nat → dm_Me} {own : String} {cc : ByteArray} {nL : Nat} {ret : Option FieldType} {isI : Bool} {sc : Option (Nat × (Nat → Int32))} {pc : Nat} {n : Int} {v : Int32} (hv : (Int8.ofInt n).toInt32 = v) (hd : decode cc pc = .ok (.bipush n, 2)) : dm_Good tb own cc nL ret isI sc pc (dm_push (pc + 2) (.int v)) := by
  intro lv st M o h
  cases h
  refine dm_pure (fun p l e R s m args below meth c D ca b zb n0 Q H locs ls cells slots hC hH hl h1 h2 hk => ?_)
  obtain ⟨hx, hb, hml, hown, hts, hr, hlk, hin, hK, hsz, hf, hlo, hsc⟩ := hC
  exact lv_bipush hx hb hd hv (hk ls hl)
theorem dg_sipush {tb : Nat → dm_Me} {own : String} {cc : ByteArray} {nL : Nat} {ret : Option FieldType} {isI : Bool} {sc : Option (Nat × (Nat → Int32))} {pc : Nat} {n : Int} {v : Int32} (hv : (Int16.ofInt n).toInt32 = v) (hd : decode cc pc = .ok (.sipush n, 3)) : dm_Good tb own cc nL ret isI sc pc (dm_push (pc + 3) (.int v)) := by
  intro lv st M o h
  cases h
  refine dm_pure (fun p l e R s m args below meth c D ca b zb n0 Q H locs ls cells slots hC hH hl h1 h2 hk => ?_)
  obtain ⟨hx, hb, hml, hown, hts, hr, hlk, hin, hK, hsz, hf, hlo, hsc⟩ := hC
  exact lv_sipush hx hb hd hv (hk ls hl)
theorem dg_lconst {tb : Nat → dm_Me} {own : String} {cc : ByteArray} {nL : Nat} {ret : Option FieldType} {isI : Bool} {sc : Option (Nat × (Nat → Int32))} {pc : Nat} {n : Fin 2} {v : Int64} (hv : Int64.ofNat (n : Nat) = v) (hd : decode cc pc = .ok (.lconst n, 1)) : dm_Good tb own cc nL ret isI sc pc (dm_push (pc + 1) (.long v)) := by
  intro lv st M o h
  cases h
  refine dm_pure (fun p l e R s m args below meth c D ca b zb n0 Q H locs ls cells slots hC hH hl h1 h2 hk => ?_)
  obtain ⟨hx, hb, hml, hown, hts, hr, hlk, hin, hK, hsz, hf, hlo, hsc⟩ := hC
  exact lv_lconst hx hb hd hv (hk ls hl)
theorem dg_ldc {tb : Nat → dm_Me} {own : String} {cc : ByteArray} {nL : Nat} {ret : Option FieldType} {isI : Bool} {sc : Option (Nat × (Nat → Int32))} {pc : Nat} {n : Nat} {v : Int32} (hv : Cond.constant own n v ∈ dm_W) (hd : decode cc pc = .ok (.ldc n, 2)) : dm_Good tb own cc nL ret isI sc pc (dm_push (pc + 2) (.int v)) := by
  intro lv st M o h
  cases h
  refine dm_pure (fun p l e R s m args below meth c D ca b zb n0 Q H locs ls cells slots hC hH hl h1 h2 hk => ?_)
  obtain ⟨hx, hb, hml, hown, hts, hr, hlk, hin, hK, hsz, hf, hlo, hsc⟩ := hC
  exact lv_ldc hx hb hown (hts _ hv) hd (hk ls hl)
theorem dg_ldc2 {tb : Nat → dm_Me} {own : String} {cc : ByteArray} {nL : Nat} {ret : Option FieldType} {isI : Bool} {sc : Option (Nat × (Nat → Int32))} {pc : Nat} {n : Nat} {v : Int64} (hv : Cond.constantLong own n v ∈ dm_W) (hd : decode cc pc = .ok (.ldc2_w n, 3)) : dm_Good tb own cc nL ret isI sc pc (dm_push (pc + 3) (.long v)) := by
  intro lv st M o h
  cases h
  refine dm_pure (fun p l e R s m args below meth c D ca b zb n0 Q H locs ls cells slots hC hH hl h1 h2 hk => ?_)
  obtain ⟨hx, hb, hml, hown, hts, hr, hlk, hin, hK, hsz, hf, hlo, hsc⟩ := hC
  exact lv_ldc2 hx hb hown (hts _ hv) hd (hk ls hl)
def dm_ild (n i : Nat) : dm_Sem := fun lv st M => match dm_lget lv i with
  | some (.int x) => some (.inl ((n, lv, .int x :: st), M))
  | _ => none
theorem dg_iload_n {tb : Nat → dm_Me} {own : String} {cc : ByteArray} {nL : Nat} {ret : Option FieldType} {isI : Bool} {sc : Option (Nat × (Nat → Int32))} {pc : Nat} {k : Fin 4} {i : Nat} (hi : (k : Nat) = i) (hd : decode cc pc = .ok (.iload_n k, 1)) : dm_Good tb own cc nL ret isI sc pc (dm_ild (pc + 1) i) := by
  intro lv st M o h
  unfold dm_ild at h
  split at h
  · rename_i x e1
    cases h
    refine dm_pure (fun p l e R s m args below meth c D ca b zb n0 Q H locs ls cells slots hC hH hl h1 h2 hk => ?_)
    obtain ⟨hx, hb, hml, hown, hts, hr, hlk, hin, hK, hsz, hf, hlo, hsc⟩ := hC
    exact lv_iload_n hx hb hd hi (dm_lget_at hl e1) (hk ls hl)
  · cases h
theorem dg_iload {tb : Nat → dm_Me} {own : String} {cc : ByteArray} {nL : Nat} {ret : Option FieldType} {isI : Bool} {sc : Option (Nat × (Nat → Int32))} {pc : Nat} {i : Nat} (hd : decode cc pc = .ok (.iload i, 2)) : dm_Good tb own cc nL ret isI sc pc (dm_ild (pc + 2) i) := by
  intro lv st M o h
  unfold dm_ild at h
  split at h
  · rename_i x e1
    cases h
    refine dm_pure (fun p l e R s m args below meth c D ca b zb n0 Q H locs ls cells slots hC hH hl h1 h2 hk => ?_)
    obtain ⟨hx, hb, hml, hown, hts, hr, hlk, hin, hK, hsz, hf, hlo, hsc⟩ := hC
    exact lv_iload hx hb hd (dm_lget_at hl e1) (hk ls hl)
  · cases h
def dm_lld (n i : Nat) : dm_Sem := fun lv st M => match dm_lget lv i with
  | some (.long x) => some (.inl ((n, lv, .long x :: st), M))
  | _ => none
theorem dg_lload_n {tb : Nat → dm_Me} {own : String} {cc : ByteArray} {nL : Nat} {ret : Option FieldType} {isI : Bool} {sc : Option (Nat × (Nat → Int32))} {pc : Nat} {k : Fin 4} {i : Nat} (hi : (k : Nat) = i) (hd : decode cc pc = .ok (.lload_n k, 1)) : dm_Good tb own cc nL ret isI sc pc (dm_lld (pc + 1) i) := by
  intro lv st M o h
  unfold dm_lld at h
  split at h
  · rename_i x e1
    cases h
    refine dm_pure (fun p l e R s m args below meth c D ca b zb n0 Q H locs ls cells slots hC hH hl h1 h2 hk => ?_)
    obtain ⟨hx, hb, hml, hown, hts, hr, hlk, hin, hK, hsz, hf, hlo, hsc⟩ := hC
    exact lv_lload_n hx hb hd hi (dm_lget_at hl e1) (hk ls hl)
  · cases h
theorem dg_lload {tb : Nat → dm_Me} {own : String} {cc : ByteArray} {nL : Nat} {ret : Option FieldType} {isI : Bool} {sc : Option (Nat × (Nat → Int32))} {pc : Nat} {i : Nat} (hd : decode cc pc = .ok (.lload i, 2)) : dm_Good tb own cc nL ret isI sc pc (dm_lld (pc + 2) i) := by
  intro lv st M o h
  unfold dm_lld at h
  split at h
  · rename_i x e1
    cases h
    refine dm_pure (fun p l e R s m args below meth c D ca b zb n0 Q H locs ls cells slots hC hH hl h1 h2 hk => ?_)
    obtain ⟨hx, hb, hml, hown, hts, hr, hlk, hin, hK, hsz, hf, hlo, hsc⟩ := hC
    exact lv_lload hx hb hd (dm_lget_at hl e1) (hk ls hl)
  · cases h
def dm_ald (n i : Nat) : dm_Sem := fun lv st M => match dm_lget lv i with
  | some (.ref x) => some (.inl ((n, lv, .ref x :: st), M))
  | some (.float x) => some (.inl ((n, lv, .float x :: st), M))
  | _ => none
theorem dg_aload_n {tb : Nat → dm_Me} {own : String} {cc : ByteArray} {nL : Nat} {ret : Option FieldType} {isI : Bool} {sc : Option (Nat × (Nat → Int32))} {pc : Nat} {k : Fin 4} {i : Nat} (hi : (k : Nat) = i) (hd : decode cc pc = .ok (.aload_n k, 1)) : dm_Good tb own cc nL ret isI sc pc (dm_ald (pc + 1) i) := by
  intro lv st M o h
  unfold dm_ald at h
  split at h
  · rename_i x e1
    cases h
    refine dm_pure (fun p l e R s m args below meth c D ca b zb n0 Q H locs ls cells slots hC hH hl h1 h2 hk => ?_)
    obtain ⟨hx, hb, hml, hown, hts, hr, hlk, hin, hK, hsz, hf, hlo, hsc⟩ := hC
    exact lv_aload_n hx hb hd hi (dm_lget_at hl e1) (hk ls hl)
  · rename_i x e1
    cases h
    refine dm_pure (fun p l e R s m args below meth c D ca b zb n0 Q H locs ls cells slots hC hH hl h1 h2 hk => ?_)
    obtain ⟨hx, hb, hml, hown, hts, hr, hlk, hin, hK, hsz, hf, hlo, hsc⟩ := hC
    exact lv_aload_n hx hb hd hi (dm_lget_at hl e1) (hk ls hl)
  · cases h
theorem dg_aload {tb : Nat → dm_Me} {own : String} {cc : ByteArray} {nL : Nat} {ret : Option FieldType} {isI : Bool} {sc : Option (Nat × (Nat → Int32))} {pc : Nat} {i : Nat} (hd : decode cc pc = .ok (.aload i, 2)) : dm_Good tb own cc nL ret isI sc pc (dm_ald (pc + 2) i) := by
  intro lv st M o h
  unfold dm_ald at h
  split at h
  · rename_i x e1
    cases h
    refine dm_pure (fun p l e R s m args below meth c D ca b zb n0 Q H locs ls cells slots hC hH hl h1 h2 hk => ?_)
    obtain ⟨hx, hb, hml, hown, hts, hr, hlk, hin, hK, hsz, hf, hlo, hsc⟩ := hC
    exact lv_aload hx hb hd (dm_lget_at hl e1) (hk ls hl)
  · rename_i x e1
    cases h
    refine dm_pure (fun p l e R s m args below meth c D ca b zb n0 Q H locs ls cells slots hC hH hl h1 h2 hk => ?_)
    obtain ⟨hx, hb, hml, hown, hts, hr, hlk, hin, hK, hsz, hf, hlo, hsc⟩ := hC
    exact lv_aload hx hb hd (dm_lget_at hl e1) (hk ls hl)
  · cases h
def dm_ist (n i : Nat) : dm_Sem := fun lv st M => match st with
  | .int x :: r => some (.inl ((n, dm_set1 lv i (.int x), r), M))
  | _ => none
theorem dg_istore_n {tb : Nat → dm_Me} {own : String} {cc : ByteArray} {nL : Nat} {ret : Option FieldType} {isI : Bool} {sc : Option (Nat × (Nat → Int32))} {pc : Nat} {k : Fin 4} {i : Nat} (hi : (k : Nat) = i) (hn : i < nL) (hd : decode cc pc = .ok (.istore_n k, 1)) : dm_Good tb own cc nL ret isI sc pc (dm_ist (pc + 1) i) := by
  intro lv st M o h
  unfold dm_ist at h
  split at h
  · rename_i x r
    cases h
    refine dm_pure (fun p l e R s m args below meth c D ca b zb n0 Q H locs ls cells slots hC hH hl h1 h2 hk => ?_)
    obtain ⟨hx, hb, hml, hown, hts, hr, hlk, hin, hK, hsz, hf, hlo, hsc⟩ := hC
    exact lv_istore_n hx hb hd hi hl hn (dm_set1_lv b zb lv i (.int x)) (fun ls' hl' => hk ls' hl')
  · cases h
theorem dg_istore {tb : Nat → dm_Me} {own : String} {cc : ByteArray} {nL : Nat} {ret : Option FieldType} {isI : Bool} {sc : Option (Nat × (Nat → Int32))} {pc : Nat} {i : Nat} (hn : i < nL) (hd : decode cc pc = .ok (.istore i, 2)) : dm_Good tb own cc nL ret isI sc pc (dm_ist (pc + 2) i) := by
  intro lv st M o h
  unfold dm_ist at h
  split at h
  · rename_i x r
    cases h
    refine dm_pure (fun p l e R s m args below meth c D ca b zb n0 Q H locs ls cells slots hC hH hl h1 h2 hk => ?_)
    obtain ⟨hx, hb, hml, hown, hts, hr, hlk, hin, hK, hsz, hf, hlo, hsc⟩ := hC
    exact lv_istore hx hb hd hl hn (dm_set1_lv b zb lv i (.int x)) (fun ls' hl' => hk ls' hl')
  · cases h
def dm_lst (n i : Nat) : dm_Sem := fun lv st M => match st with
  | .long x :: r => some (.inl ((n, dm_set2 lv i (.long x), r), M))
  | _ => none
theorem dg_lstore_n {tb : Nat → dm_Me} {own : String} {cc : ByteArray} {nL : Nat} {ret : Option FieldType} {isI : Bool} {sc : Option (Nat × (Nat → Int32))} {pc : Nat} {k : Fin 4} {i : Nat} (hi : (k : Nat) = i) (hn : i + 1 < nL) (hd : decode cc pc = .ok (.lstore_n k, 1)) : dm_Good tb own cc nL ret isI sc pc (dm_lst (pc + 1) i) := by
  intro lv st M o h
  unfold dm_lst at h
  split at h
  · rename_i x r
    cases h
    refine dm_pure (fun p l e R s m args below meth c D ca b zb n0 Q H locs ls cells slots hC hH hl h1 h2 hk => ?_)
    obtain ⟨hx, hb, hml, hown, hts, hr, hlk, hin, hK, hsz, hf, hlo, hsc⟩ := hC
    exact lv_lstore_n hx hb hd hi hl hn (dm_set2_lv b zb lv i (.long x)) (fun ls' hl' => hk ls' hl')
  · cases h
theorem dg_lstore {tb : Nat → dm_Me} {own : String} {cc : ByteArray} {nL : Nat} {ret : Option FieldType} {isI : Bool} {sc : Option (Nat × (Nat → Int32))} {pc : Nat} {i : Nat} (hn : i + 1 < nL) (hd : decode cc pc = .ok (.lstore i, 2)) : dm_Good tb own cc nL ret isI sc pc (dm_lst (pc + 2) i) := by
  intro lv st M o h
  unfold dm_lst at h
  split at h
  · rename_i x r
    cases h
    refine dm_pure (fun p l e R s m args below meth c D ca b zb n0 Q H locs ls cells slots hC hH hl h1 h2 hk => ?_)
    obtain ⟨hx, hb, hml, hown, hts, hr, hlk, hin, hK, hsz, hf, hlo, hsc⟩ := hC
    exact lv_lstore hx hb hd hl hn (dm_set2_lv b zb lv i (.long x)) (fun ls' hl' => hk ls' hl')
  · cases h
def dm_ast (n i : Nat) : dm_Sem := fun lv st M => match st with
  | .ref x :: r => some (.inl ((n, dm_set1 lv i (.ref x), r), M))
  | _ => none
theorem dg_astore_n {tb : Nat → dm_Me} {own : String} {cc : ByteArray} {nL : Nat} {ret : Option FieldType} {isI : Bool} {sc : Option (Nat × (Nat → Int32))} {pc : Nat} {k : Fin 4} {i : Nat} (hi : (k : Nat) = i) (hn : i < nL) (hd : decode cc pc = .ok (.astore_n k, 1)) : dm_Good tb own cc nL ret isI sc pc (dm_ast (pc + 1) i) := by
  intro lv st M o h
  unfold dm_ast at h
  split at h
  · rename_i x r
    cases h
    refine dm_pure (fun p l e R s m args below meth c D ca b zb n0 Q H locs ls cells slots hC hH hl h1 h2 hk => ?_)
    obtain ⟨hx, hb, hml, hown, hts, hr, hlk, hin, hK, hsz, hf, hlo, hsc⟩ := hC
    exact lv_astore_n hx hb hd hi hl hn (dm_set1_lv b zb lv i (.ref x)) (fun ls' hl' => hk ls' hl')
  · cases h
theorem dg_astore {tb : Nat → dm_Me} {own : String} {cc : ByteArray} {nL : Nat} {ret : Option FieldType} {isI : Bool} {sc : Option (Nat × (Nat → Int32))} {pc : Nat} {i : Nat} (hn : i < nL) (hd : decode cc pc = .ok (.astore i, 2)) : dm_Good tb own cc nL ret isI sc pc (dm_ast (pc + 2) i) := by
  intro lv st M o h
  unfold dm_ast at h
  split at h
  · rename_i x r
    cases h
    refine dm_pure (fun p l e R s m args below meth c D ca b zb n0 Q H locs ls cells slots hC hH hl h1 h2 hk => ?_)
    obtain ⟨hx, hb, hml, hown, hts, hr, hlk, hin, hK, hsz, hf, hlo, hsc⟩ := hC
    exact lv_astore hx hb hd hl hn (dm_set1_lv b zb lv i (.ref x)) (fun ls' hl' => hk ls' hl')
  · cases h
def dm_iinc (n i : Nat) (d : Int32) : dm_Sem := fun lv st M => match dm_lget lv i with
  | some (.int x) => some (.inl ((n, dm_set1 lv i (.int (x + d)), st), M))
  | _ => none
theorem dg_iinc {tb : Nat → dm_Me} {own : String} {cc : ByteArray} {nL : Nat} {ret : Option FieldType} {isI : Bool} {sc : Option (Nat × (Nat → Int32))} {pc : Nat} {i : Nat} {n : Int} {d : Int32} (hv : Int32.ofInt n = d) (hn : i < nL) (hd : decode cc pc = .ok (.iinc i n, 3)) : dm_Good tb own cc nL ret isI sc pc (dm_iinc (pc + 3) i d) := by
  intro lv st M o h
  unfold dm_iinc at h
  split at h
  · rename_i x e1
    cases h
    refine dm_pure (fun p l e R s m args below meth c D ca b zb n0 Q H locs ls cells slots hC hH hl h1 h2 hk => ?_)
    obtain ⟨hx, hb, hml, hown, hts, hr, hlk, hin, hK, hsz, hf, hlo, hsc⟩ := hC
    obtain ⟨k, hk1⟩ := List.getElem?_of_mem (List.mem_map.mpr ⟨(i, Value.int x), dm_lget_mem e1, rfl⟩ : ((i, Value.int x) : Nat × Value) ∈ dm_lv b zb lv)
    exact lv_iinc (v := x + d) hx hb hd hl hk1 (by rw [hv]) hn (dm_set1_lv b zb lv i (.int (x + d))) (fun ls' hl' => hk ls' hl')
  · cases h
def dm_ii (n : Nat) (f : Int32 → Int32 → Int32) : dm_Sem := fun lv st M => match st with
  | .int y :: .int x :: r => some (.inl ((n, lv, .int (f x y) :: r), M))
  | _ => none
def dm_ll (n : Nat) (f : Int64 → Int64 → Int64) : dm_Sem := fun lv st M => match st with
  | .long y :: .long x :: r => some (.inl ((n, lv, .long (f x y) :: r), M))
  | _ => none
def dm_li (n : Nat) (f : Int64 → Int32 → Int64) : dm_Sem := fun lv st M => match st with
  | .int y :: .long x :: r => some (.inl ((n, lv, .long (f x y) :: r), M))
  | _ => none
def dm_lq (n : Nat) (f : Int64 → Int64 → Int64) : dm_Sem := fun lv st M => match st with
  | .long y :: .long x :: r => if y = 0 then none else some (.inl ((n, lv, .long (f x y) :: r), M))
  | _ => none
def dm_iq (n : Nat) (f : Int32 → Int32 → Int32) : dm_Sem := fun lv st M => match st with
  | .int y :: .int x :: r => if y = 0 then none else some (.inl ((n, lv, .int (f x y) :: r), M))
  | _ => none
def dm_lc (n : Nat) : dm_Sem := fun lv st M => match st with
  | .long y :: .long x :: r => some (.inl ((n, lv, .int (lg_cmp x y) :: r), M))
  | _ => none
theorem dg_iadd {tb : Nat → dm_Me} {own : String} {cc : ByteArray} {nL : Nat} {ret : Option FieldType} {isI : Bool} {sc : Option (Nat × (Nat → Int32))} {pc : Nat} (hd : decode cc pc = .ok (.iadd, 1)) : dm_Good tb own cc nL ret isI sc pc (dm_ii (pc + 1) (fun x y => x + y)) := by
  intro lv st M o h
  unfold dm_ii at h
  split at h
  · cases h
    refine dm_pure (fun p l e R s m args below meth c D ca b zb n0 Q H locs ls cells slots hC hH hl h1 h2 hk => ?_)
    obtain ⟨hx, hb, hml, hown, hts, hr, hlk, hin, hK, hsz, hf, hlo, hsc⟩ := hC
    exact lv_iadd hx hb hd (hk ls hl)
  · cases h
theorem dg_isub {tb : Nat → dm_Me} {own : String} {cc : ByteArray} {nL : Nat} {ret : Option FieldType} {isI : Bool} {sc : Option (Nat × (Nat → Int32))} {pc : Nat} (hd : decode cc pc = .ok (.isub, 1)) : dm_Good tb own cc nL ret isI sc pc (dm_ii (pc + 1) (fun x y => x - y)) := by
  intro lv st M o h
  unfold dm_ii at h
  split at h
  · cases h
    refine dm_pure (fun p l e R s m args below meth c D ca b zb n0 Q H locs ls cells slots hC hH hl h1 h2 hk => ?_)
    obtain ⟨hx, hb, hml, hown, hts, hr, hlk, hin, hK, hsz, hf, hlo, hsc⟩ := hC
    exact lv_isub hx hb hd (hk ls hl)
  · cases h
theorem dg_imul {tb : Nat → dm_Me} {own : String} {cc : ByteArray} {nL : Nat} {ret : Option FieldType} {isI : Bool} {sc : Option (Nat × (Nat → Int32))} {pc : Nat} (hd : decode cc pc = .ok (.imul, 1)) : dm_Good tb own cc nL ret isI sc pc (dm_ii (pc + 1) (fun x y => x * y)) := by
  intro lv st M o h
  unfold dm_ii at h
  split at h
  · cases h
    refine dm_pure (fun p l e R s m args below meth c D ca b zb n0 Q H locs ls cells slots hC hH hl h1 h2 hk => ?_)
    obtain ⟨hx, hb, hml, hown, hts, hr, hlk, hin, hK, hsz, hf, hlo, hsc⟩ := hC
    exact lv_imul hx hb hd (hk ls hl)
  · cases h
theorem dg_iand {tb : Nat → dm_Me} {own : String} {cc : ByteArray} {nL : Nat} {ret : Option FieldType} {isI : Bool} {sc : Option (Nat × (Nat → Int32))} {pc : Nat} (hd : decode cc pc = .ok (.iand, 1)) : dm_Good tb own cc nL ret isI sc pc (dm_ii (pc + 1) (fun x y => x &&& y)) := by
  intro lv st M o h
  unfold dm_ii at h
  split at h
  · cases h
    refine dm_pure (fun p l e R s m args below meth c D ca b zb n0 Q H locs ls cells slots hC hH hl h1 h2 hk => ?_)
    obtain ⟨hx, hb, hml, hown, hts, hr, hlk, hin, hK, hsz, hf, hlo, hsc⟩ := hC
    exact lv_iand hx hb hd (hk ls hl)
  · cases h
theorem dg_ishl {tb : Nat → dm_Me} {own : String} {cc : ByteArray} {nL : Nat} {ret : Option FieldType} {isI : Bool} {sc : Option (Nat × (Nat → Int32))} {pc : Nat} (hd : decode cc pc = .ok (.ishl, 1)) : dm_Good tb own cc nL ret isI sc pc (dm_ii (pc + 1) (fun x y => x <<< (y &&& 31))) := by
  intro lv st M o h
  unfold dm_ii at h
  split at h
  · cases h
    refine dm_pure (fun p l e R s m args below meth c D ca b zb n0 Q H locs ls cells slots hC hH hl h1 h2 hk => ?_)
    obtain ⟨hx, hb, hml, hown, hts, hr, hlk, hin, hK, hsz, hf, hlo, hsc⟩ := hC
    exact lv_ishl hx hb hd (hk ls hl)
  · cases h
theorem dg_ishr {tb : Nat → dm_Me} {own : String} {cc : ByteArray} {nL : Nat} {ret : Option FieldType} {isI : Bool} {sc : Option (Nat × (Nat → Int32))} {pc : Nat} (hd : decode cc pc = .ok (.ishr, 1)) : dm_Good tb own cc nL ret isI sc pc (dm_ii (pc + 1) (fun x y => x >>> (y &&& 31))) := by
  intro lv st M o h
  unfold dm_ii at h
  split at h
  · cases h
    refine dm_pure (fun p l e R s m args below meth c D ca b zb n0 Q H locs ls cells slots hC hH hl h1 h2 hk => ?_)
    obtain ⟨hx, hb, hml, hown, hts, hr, hlk, hin, hK, hsz, hf, hlo, hsc⟩ := hC
    exact lv_ishr hx hb hd (hk ls hl)
  · cases h
theorem dg_ladd {tb : Nat → dm_Me} {own : String} {cc : ByteArray} {nL : Nat} {ret : Option FieldType} {isI : Bool} {sc : Option (Nat × (Nat → Int32))} {pc : Nat} (hd : decode cc pc = .ok (.ladd, 1)) : dm_Good tb own cc nL ret isI sc pc (dm_ll (pc + 1) (fun x y => x + y)) := by
  intro lv st M o h
  unfold dm_ll at h
  split at h
  · cases h
    refine dm_pure (fun p l e R s m args below meth c D ca b zb n0 Q H locs ls cells slots hC hH hl h1 h2 hk => ?_)
    obtain ⟨hx, hb, hml, hown, hts, hr, hlk, hin, hK, hsz, hf, hlo, hsc⟩ := hC
    exact lv_ladd hx hb hd (hk ls hl)
  · cases h
theorem dg_lsub {tb : Nat → dm_Me} {own : String} {cc : ByteArray} {nL : Nat} {ret : Option FieldType} {isI : Bool} {sc : Option (Nat × (Nat → Int32))} {pc : Nat} (hd : decode cc pc = .ok (.lsub, 1)) : dm_Good tb own cc nL ret isI sc pc (dm_ll (pc + 1) (fun x y => x - y)) := by
  intro lv st M o h
  unfold dm_ll at h
  split at h
  · cases h
    refine dm_pure (fun p l e R s m args below meth c D ca b zb n0 Q H locs ls cells slots hC hH hl h1 h2 hk => ?_)
    obtain ⟨hx, hb, hml, hown, hts, hr, hlk, hin, hK, hsz, hf, hlo, hsc⟩ := hC
    exact lv_lsub hx hb hd (hk ls hl)
  · cases h
theorem dg_lmul {tb : Nat → dm_Me} {own : String} {cc : ByteArray} {nL : Nat} {ret : Option FieldType} {isI : Bool} {sc : Option (Nat × (Nat → Int32))} {pc : Nat} (hd : decode cc pc = .ok (.lmul, 1)) : dm_Good tb own cc nL ret isI sc pc (dm_ll (pc + 1) (fun x y => x * y)) := by
  intro lv st M o h
  unfold dm_ll at h
  split at h
  · cases h
    refine dm_pure (fun p l e R s m args below meth c D ca b zb n0 Q H locs ls cells slots hC hH hl h1 h2 hk => ?_)
    obtain ⟨hx, hb, hml, hown, hts, hr, hlk, hin, hK, hsz, hf, hlo, hsc⟩ := hC
    exact lv_lmul hx hb hd (hk ls hl)
  · cases h
theorem dg_land {tb : Nat → dm_Me} {own : String} {cc : ByteArray} {nL : Nat} {ret : Option FieldType} {isI : Bool} {sc : Option (Nat × (Nat → Int32))} {pc : Nat} (hd : decode cc pc = .ok (.land, 1)) : dm_Good tb own cc nL ret isI sc pc (dm_ll (pc + 1) (fun x y => x &&& y)) := by
  intro lv st M o h
  unfold dm_ll at h
  split at h
  · cases h
    refine dm_pure (fun p l e R s m args below meth c D ca b zb n0 Q H locs ls cells slots hC hH hl h1 h2 hk => ?_)
    obtain ⟨hx, hb, hml, hown, hts, hr, hlk, hin, hK, hsz, hf, hlo, hsc⟩ := hC
    exact lv_land hx hb hd (hk ls hl)
  · cases h
theorem dg_lor {tb : Nat → dm_Me} {own : String} {cc : ByteArray} {nL : Nat} {ret : Option FieldType} {isI : Bool} {sc : Option (Nat × (Nat → Int32))} {pc : Nat} (hd : decode cc pc = .ok (.lor, 1)) : dm_Good tb own cc nL ret isI sc pc (dm_ll (pc + 1) (fun x y => x ||| y)) := by
  intro lv st M o h
  unfold dm_ll at h
  split at h
  · cases h
    refine dm_pure (fun p l e R s m args below meth c D ca b zb n0 Q H locs ls cells slots hC hH hl h1 h2 hk => ?_)
    obtain ⟨hx, hb, hml, hown, hts, hr, hlk, hin, hK, hsz, hf, hlo, hsc⟩ := hC
    exact lv_lor hx hb hd (hk ls hl)
  · cases h
theorem dg_lxor {tb : Nat → dm_Me} {own : String} {cc : ByteArray} {nL : Nat} {ret : Option FieldType} {isI : Bool} {sc : Option (Nat × (Nat → Int32))} {pc : Nat} (hd : decode cc pc = .ok (.lxor, 1)) : dm_Good tb own cc nL ret isI sc pc (dm_ll (pc + 1) (fun x y => x ^^^ y)) := by
  intro lv st M o h
  unfold dm_ll at h
  split at h
  · cases h
    refine dm_pure (fun p l e R s m args below meth c D ca b zb n0 Q H locs ls cells slots hC hH hl h1 h2 hk => ?_)
    obtain ⟨hx, hb, hml, hown, hts, hr, hlk, hin, hK, hsz, hf, hlo, hsc⟩ := hC
    exact lv_lxor hx hb hd (hk ls hl)
  · cases h
theorem dg_lshl {tb : Nat → dm_Me} {own : String} {cc : ByteArray} {nL : Nat} {ret : Option FieldType} {isI : Bool} {sc : Option (Nat × (Nat → Int32))} {pc : Nat} (hd : decode cc pc = .ok (.lshl, 1)) : dm_Good tb own cc nL ret isI sc pc (dm_li (pc + 1) (fun x y => x <<< (y.toInt64 &&& 63))) := by
  intro lv st M o h
  unfold dm_li at h
  split at h
  · cases h
    refine dm_pure (fun p l e R s m args below meth c D ca b zb n0 Q H locs ls cells slots hC hH hl h1 h2 hk => ?_)
    obtain ⟨hx, hb, hml, hown, hts, hr, hlk, hin, hK, hsz, hf, hlo, hsc⟩ := hC
    exact lv_lshl hx hb hd rfl (hk ls hl)
  · cases h
theorem dg_lshr {tb : Nat → dm_Me} {own : String} {cc : ByteArray} {nL : Nat} {ret : Option FieldType} {isI : Bool} {sc : Option (Nat × (Nat → Int32))} {pc : Nat} (hd : decode cc pc = .ok (.lshr, 1)) : dm_Good tb own cc nL ret isI sc pc (dm_li (pc + 1) (fun x y => x >>> (y.toInt64 &&& 63))) := by
  intro lv st M o h
  unfold dm_li at h
  split at h
  · cases h
    refine dm_pure (fun p l e R s m args below meth c D ca b zb n0 Q H locs ls cells slots hC hH hl h1 h2 hk => ?_)
    obtain ⟨hx, hb, hml, hown, hts, hr, hlk, hin, hK, hsz, hf, hlo, hsc⟩ := hC
    exact lv_lshr hx hb hd rfl (hk ls hl)
  · cases h
theorem dg_lushr {tb : Nat → dm_Me} {own : String} {cc : ByteArray} {nL : Nat} {ret : Option FieldType} {isI : Bool} {sc : Option (Nat × (Nat → Int32))} {pc : Nat} (hd : decode cc pc = .ok (.lushr, 1)) : dm_Good tb own cc nL ret isI sc pc (dm_li (pc + 1) (fun x y => (x.toUInt64 >>> (y.toInt64.toUInt64 &&& Int64.toUInt64 63)).toInt64)) := by
  intro lv st M o h
  unfold dm_li at h
  split at h
  · cases h
    refine dm_pure (fun p l e R s m args below meth c D ca b zb n0 Q H locs ls cells slots hC hH hl h1 h2 hk => ?_)
    obtain ⟨hx, hb, hml, hown, hts, hr, hlk, hin, hK, hsz, hf, hlo, hsc⟩ := hC
    exact lv_lushr hx hb hd rfl (hk ls hl)
  · cases h
theorem dg_lcmp {tb : Nat → dm_Me} {own : String} {cc : ByteArray} {nL : Nat} {ret : Option FieldType} {isI : Bool} {sc : Option (Nat × (Nat → Int32))} {pc : Nat} (hd : decode cc pc = .ok (.lcmp, 1)) : dm_Good tb own cc nL ret isI sc pc (dm_lc (pc + 1)) := by
  intro lv st M o h
  unfold dm_lc at h
  split at h
  · cases h
    refine dm_pure (fun p l e R s m args below meth c D ca b zb n0 Q H locs ls cells slots hC hH hl h1 h2 hk => ?_)
    obtain ⟨hx, hb, hml, hown, hts, hr, hlk, hin, hK, hsz, hf, hlo, hsc⟩ := hC
    exact W.lcmp hx hb hd (hk ls hl)
  · cases h
theorem dg_ldiv {tb : Nat → dm_Me} {own : String} {cc : ByteArray} {nL : Nat} {ret : Option FieldType} {isI : Bool} {sc : Option (Nat × (Nat → Int32))} {pc : Nat} (hd : decode cc pc = .ok (.ldiv, 1)) : dm_Good tb own cc nL ret isI sc pc (dm_lq (pc + 1) (fun x y => x / y)) := by
  intro lv st M o h
  unfold dm_lq at h
  split at h
  · split at h
    · cases h
    · rename_i hne
      cases h
      refine dm_pure (fun p l e R s m args below meth c D ca b zb n0 Q H locs ls cells slots hC hH hl h1 h2 hk => ?_)
      obtain ⟨hx, hb, hml, hown, hts, hr, hlk, hin, hK, hsz, hf, hlo, hsc⟩ := hC
      exact lv_ldiv hx hb hd hne (hk ls hl)
  · cases h
theorem dg_lrem {tb : Nat → dm_Me} {own : String} {cc : ByteArray} {nL : Nat} {ret : Option FieldType} {isI : Bool} {sc : Option (Nat × (Nat → Int32))} {pc : Nat} (hd : decode cc pc = .ok (.lrem, 1)) : dm_Good tb own cc nL ret isI sc pc (dm_lq (pc + 1) (fun x y => x - x / y * y)) := by
  intro lv st M o h
  unfold dm_lq at h
  split at h
  · split at h
    · cases h
    · rename_i hne
      cases h
      refine dm_pure (fun p l e R s m args below meth c D ca b zb n0 Q H locs ls cells slots hC hH hl h1 h2 hk => ?_)
      obtain ⟨hx, hb, hml, hown, hts, hr, hlk, hin, hK, hsz, hf, hlo, hsc⟩ := hC
      exact lv_lrem hx hb hd hne (hk ls hl)
  · cases h
theorem dg_idiv {tb : Nat → dm_Me} {own : String} {cc : ByteArray} {nL : Nat} {ret : Option FieldType} {isI : Bool} {sc : Option (Nat × (Nat → Int32))} {pc : Nat} (hd : decode cc pc = .ok (.idiv, 1)) : dm_Good tb own cc nL ret isI sc pc (dm_iq (pc + 1) (fun x y => x / y)) := by
  intro lv st M o h
  unfold dm_iq at h
  split at h
  · split at h
    · cases h
    · rename_i hne
      cases h
      refine dm_pure (fun p l e R s m args below meth c D ca b zb n0 Q H locs ls cells slots hC hH hl h1 h2 hk => ?_)
      obtain ⟨hx, hb, hml, hown, hts, hr, hlk, hin, hK, hsz, hf, hlo, hsc⟩ := hC
      exact lv_idiv hx hb hd hne (hk ls hl)
  · cases h
def dm_i1 (n : Nat) (f : Int32 → Value) : dm_Sem := fun lv st M => match st with
  | .int x :: r => some (.inl ((n, lv, f x :: r), M))
  | _ => none
def dm_l1 (n : Nat) (f : Int64 → Value) : dm_Sem := fun lv st M => match st with
  | .long x :: r => some (.inl ((n, lv, f x :: r), M))
  | _ => none
theorem dg_i2l {tb : Nat → dm_Me} {own : String} {cc : ByteArray} {nL : Nat} {ret : Option FieldType} {isI : Bool} {sc : Option (Nat × (Nat → Int32))} {pc : Nat} (hd : decode cc pc = .ok (.i2l, 1)) : dm_Good tb own cc nL ret isI sc pc (dm_i1 (pc + 1) (fun x => .long x.toInt64)) := by
  intro lv st M o h
  unfold dm_i1 at h
  split at h
  · cases h
    refine dm_pure (fun p l e R s m args below meth c D ca b zb n0 Q H locs ls cells slots hC hH hl h1 h2 hk => ?_)
    obtain ⟨hx, hb, hml, hown, hts, hr, hlk, hin, hK, hsz, hf, hlo, hsc⟩ := hC
    exact lv_i2l hx hb hd rfl (hk ls hl)
  · cases h
theorem dg_i2b {tb : Nat → dm_Me} {own : String} {cc : ByteArray} {nL : Nat} {ret : Option FieldType} {isI : Bool} {sc : Option (Nat × (Nat → Int32))} {pc : Nat} (hd : decode cc pc = .ok (.i2b, 1)) : dm_Good tb own cc nL ret isI sc pc (dm_i1 (pc + 1) (fun x => .int x.toInt8.toInt32)) := by
  intro lv st M o h
  unfold dm_i1 at h
  split at h
  · cases h
    refine dm_pure (fun p l e R s m args below meth c D ca b zb n0 Q H locs ls cells slots hC hH hl h1 h2 hk => ?_)
    obtain ⟨hx, hb, hml, hown, hts, hr, hlk, hin, hK, hsz, hf, hlo, hsc⟩ := hC
    exact lv_i2b hx hb hd rfl (hk ls hl)
  · cases h
theorem dg_i2s {tb : Nat → dm_Me} {own : String} {cc : ByteArray} {nL : Nat} {ret : Option FieldType} {isI : Bool} {sc : Option (Nat × (Nat → Int32))} {pc : Nat} (hd : decode cc pc = .ok (.i2s, 1)) : dm_Good tb own cc nL ret isI sc pc (dm_i1 (pc + 1) (fun x => .int x.toInt16.toInt32)) := by
  intro lv st M o h
  unfold dm_i1 at h
  split at h
  · cases h
    refine dm_pure (fun p l e R s m args below meth c D ca b zb n0 Q H locs ls cells slots hC hH hl h1 h2 hk => ?_)
    obtain ⟨hx, hb, hml, hown, hts, hr, hlk, hin, hK, hsz, hf, hlo, hsc⟩ := hC
    exact lv_i2s hx hb hd rfl (hk ls hl)
  · cases h
theorem dg_l2i {tb : Nat → dm_Me} {own : String} {cc : ByteArray} {nL : Nat} {ret : Option FieldType} {isI : Bool} {sc : Option (Nat × (Nat → Int32))} {pc : Nat} (hd : decode cc pc = .ok (.l2i, 1)) : dm_Good tb own cc nL ret isI sc pc (dm_l1 (pc + 1) (fun x => .int x.toInt32)) := by
  intro lv st M o h
  unfold dm_l1 at h
  split at h
  · cases h
    refine dm_pure (fun p l e R s m args below meth c D ca b zb n0 Q H locs ls cells slots hC hH hl h1 h2 hk => ?_)
    obtain ⟨hx, hb, hml, hown, hts, hr, hlk, hin, hK, hsz, hf, hlo, hsc⟩ := hC
    exact lv_l2i hx hb hd rfl (hk ls hl)
  · cases h
def dm_dup (n : Nat) : dm_Sem := fun lv st M => match st with
  | v :: r => if v.category = 1 then some (.inl ((n, lv, v :: v :: r), M)) else none
  | _ => none
theorem dg_dup {tb : Nat → dm_Me} {own : String} {cc : ByteArray} {nL : Nat} {ret : Option FieldType} {isI : Bool} {sc : Option (Nat × (Nat → Int32))} {pc : Nat} (hd : decode cc pc = .ok (.dup, 1)) : dm_Good tb own cc nL ret isI sc pc (dm_dup (pc + 1)) := by
  intro lv st M o h
  unfold dm_dup at h
  split at h
  · split at h
    · rename_i hc
      cases h
      refine dm_pure (fun p l e R s m args below meth c D ca b zb n0 Q H locs ls cells slots hC hH hl h1 h2 hk => ?_)
      obtain ⟨hx, hb, hml, hown, hts, hr, hlk, hin, hK, hsz, hf, hlo, hsc⟩ := hC
      exact lv_dup hx hb hd (by rw [dm_cat]; exact hc) (hk ls hl)
    · cases h
  · cases h
def dm_pop (n : Nat) : dm_Sem := fun lv st M => match st with
  | v :: r => if v.category = 1 then some (.inl ((n, lv, r), M)) else none
  | _ => none
theorem dg_pop {tb : Nat → dm_Me} {own : String} {cc : ByteArray} {nL : Nat} {ret : Option FieldType} {isI : Bool} {sc : Option (Nat × (Nat → Int32))} {pc : Nat} (hd : decode cc pc = .ok (.pop, 1)) : dm_Good tb own cc nL ret isI sc pc (dm_pop (pc + 1)) := by
  intro lv st M o h
  unfold dm_pop at h
  split at h
  · split at h
    · rename_i hc
      cases h
      refine dm_pure (fun p l e R s m args below meth c D ca b zb n0 Q H locs ls cells slots hC hH hl h1 h2 hk => ?_)
      obtain ⟨hx, hb, hml, hown, hts, hr, hlk, hin, hK, hsz, hf, hlo, hsc⟩ := hC
      exact lv_pop hx hb hd (by rw [dm_cat]; exact hc) (hk ls hl)
    · cases h
  · cases h
def dm_dup2 (n : Nat) : dm_Sem := fun lv st M => match st with
  | v :: w :: r => if v.category = 1 ∧ w.category = 1 then some (.inl ((n, lv, v :: w :: v :: w :: r), M)) else none
  | _ => none
theorem dg_dup2 {tb : Nat → dm_Me} {own : String} {cc : ByteArray} {nL : Nat} {ret : Option FieldType} {isI : Bool} {sc : Option (Nat × (Nat → Int32))} {pc : Nat} (hd : decode cc pc = .ok (.dup2, 1)) : dm_Good tb own cc nL ret isI sc pc (dm_dup2 (pc + 1)) := by
  intro lv st M o h
  unfold dm_dup2 at h
  split at h
  · split at h
    · rename_i hc
      cases h
      refine dm_pure (fun p l e R s m args below meth c D ca b zb n0 Q H locs ls cells slots hC hH hl h1 h2 hk => ?_)
      obtain ⟨hx, hb, hml, hown, hts, hr, hlk, hin, hK, hsz, hf, hlo, hsc⟩ := hC
      exact lv_dup2_11 hx hb hd (by rw [dm_cat]; exact hc.1) (by rw [dm_cat]; exact hc.2) (hk ls hl)
    · cases h
  · cases h
def dm_if_eq (n t : Nat) : dm_Sem := fun lv st M => match st with
  | .int x :: r => some (.inl ((if x = 0 then t else n, lv, r), M))
  | _ => none
def dm_if_ne (n t : Nat) : dm_Sem := fun lv st M => match st with
  | .int x :: r => some (.inl ((if ¬ x = 0 then t else n, lv, r), M))
  | _ => none
def dm_if_lt (n t : Nat) : dm_Sem := fun lv st M => match st with
  | .int x :: r => some (.inl ((if x < 0 then t else n, lv, r), M))
  | _ => none
def dm_if_ge (n t : Nat) : dm_Sem := fun lv st M => match st with
  | .int x :: r => some (.inl ((if 0 ≤ x then t else n, lv, r), M))
  | _ => none
def dm_if_gt (n t : Nat) : dm_Sem := fun lv st M => match st with
  | .int x :: r => some (.inl ((if 0 < x then t else n, lv, r), M))
  | _ => none
def dm_if_le (n t : Nat) : dm_Sem := fun lv st M => match st with
  | .int x :: r => some (.inl ((if x ≤ 0 then t else n, lv, r), M))
  | _ => none
def dm_ic_eq (n t : Nat) : dm_Sem := fun lv st M => match st with
  | .int y :: .int x :: r => some (.inl ((if x = y then t else n, lv, r), M))
  | _ => none
def dm_ic_ne (n t : Nat) : dm_Sem := fun lv st M => match st with
  | .int y :: .int x :: r => some (.inl ((if ¬ x = y then t else n, lv, r), M))
  | _ => none
def dm_ic_lt (n t : Nat) : dm_Sem := fun lv st M => match st with
  | .int y :: .int x :: r => some (.inl ((if x < y then t else n, lv, r), M))
  | _ => none
def dm_ic_ge (n t : Nat) : dm_Sem := fun lv st M => match st with
  | .int y :: .int x :: r => some (.inl ((if y ≤ x then t else n, lv, r), M))
  | _ => none
def dm_ic_gt (n t : Nat) : dm_Sem := fun lv st M => match st with
  | .int y :: .int x :: r => some (.inl ((if y < x then t else n, lv, r), M))
  | _ => none
def dm_ic_le (n t : Nat) : dm_Sem := fun lv st M => match st with
  | .int y :: .int x :: r => some (.inl ((if x ≤ y then t else n, lv, r), M))
  | _ => none
theorem dg_if_eq {tb : Nat → dm_Me} {own : String} {cc : ByteArray} {nL : Nat} {ret : Option FieldType} {isI : Bool} {sc : Option (Nat × (Nat → Int32))} {pc : Nat} {off : Int} {t : Nat} (ht : (pc : Int) + off = (t : Int)) (hd : decode cc pc = .ok (.ifCond .eq off, 3)) : dm_Good tb own cc nL ret isI sc pc (dm_if_eq (pc + 3) t) := by
  intro lv st M o h
  unfold dm_if_eq at h
  split at h
  · cases h
    refine dm_pure (fun p l e R s m args below meth c D ca b zb n0 Q H locs ls cells slots hC hH hl h1 h2 hk => ?_)
    obtain ⟨hx, hb, hml, hown, hts, hr, hlk, hin, hK, hsz, hf, hlo, hsc⟩ := hC
    have h9 := hk ls hl
    dsimp only at h9
    refine lv_if_eq hx hb hd ht (fun q => ?_) (fun q => ?_)
    · rw [if_pos q] at h9
      exact h9
    · rw [if_neg (by first | exact q | exact fun z => z q)] at h9
      exact h9
  · cases h
theorem dg_if_ne {tb : Nat → dm_Me} {own : String} {cc : ByteArray} {nL : Nat} {ret : Option FieldType} {isI : Bool} {sc : Option (Nat × (Nat → Int32))} {pc : Nat} {off : Int} {t : Nat} (ht : (pc : Int) + off = (t : Int)) (hd : decode cc pc = .ok (.ifCond .ne off, 3)) : dm_Good tb own cc nL ret isI sc pc (dm_if_ne (pc + 3) t) := by
  intro lv st M o h
  unfold dm_if_ne at h
  split at h
  · cases h
    refine dm_pure (fun p l e R s m args below meth c D ca b zb n0 Q H locs ls cells slots hC hH hl h1 h2 hk => ?_)
    obtain ⟨hx, hb, hml, hown, hts, hr, hlk, hin, hK, hsz, hf, hlo, hsc⟩ := hC
    have h9 := hk ls hl
    dsimp only at h9
    refine lv_if_ne hx hb hd ht (fun q => ?_) (fun q => ?_)
    · rw [if_pos q] at h9
      exact h9
    · rw [if_neg (by first | exact q | exact fun z => z q)] at h9
      exact h9
  · cases h
theorem dg_if_lt {tb : Nat → dm_Me} {own : String} {cc : ByteArray} {nL : Nat} {ret : Option FieldType} {isI : Bool} {sc : Option (Nat × (Nat → Int32))} {pc : Nat} {off : Int} {t : Nat} (ht : (pc : Int) + off = (t : Int)) (hd : decode cc pc = .ok (.ifCond .lt off, 3)) : dm_Good tb own cc nL ret isI sc pc (dm_if_lt (pc + 3) t) := by
  intro lv st M o h
  unfold dm_if_lt at h
  split at h
  · cases h
    refine dm_pure (fun p l e R s m args below meth c D ca b zb n0 Q H locs ls cells slots hC hH hl h1 h2 hk => ?_)
    obtain ⟨hx, hb, hml, hown, hts, hr, hlk, hin, hK, hsz, hf, hlo, hsc⟩ := hC
    have h9 := hk ls hl
    dsimp only at h9
    refine lv_if_lt hx hb hd ht (fun q => ?_) (fun q => ?_)
    · rw [if_pos q] at h9
      exact h9
    · rw [if_neg (by first | exact q | exact fun z => z q)] at h9
      exact h9
  · cases h
theorem dg_if_ge {tb : Nat → dm_Me} {own : String} {cc : ByteArray} {nL : Nat} {ret : Option FieldType} {isI : Bool} {sc : Option (Nat × (Nat → Int32))} {pc : Nat} {off : Int} {t : Nat} (ht : (pc : Int) + off = (t : Int)) (hd : decode cc pc = .ok (.ifCond .ge off, 3)) : dm_Good tb own cc nL ret isI sc pc (dm_if_ge (pc + 3) t) := by
  intro lv st M o h
  unfold dm_if_ge at h
  split at h
  · cases h
    refine dm_pure (fun p l e R s m args below meth c D ca b zb n0 Q H locs ls cells slots hC hH hl h1 h2 hk => ?_)
    obtain ⟨hx, hb, hml, hown, hts, hr, hlk, hin, hK, hsz, hf, hlo, hsc⟩ := hC
    have h9 := hk ls hl
    dsimp only at h9
    refine lv_if_ge hx hb hd ht (fun q => ?_) (fun q => ?_)
    · rw [if_pos q] at h9
      exact h9
    · rw [if_neg (by first | exact q | exact fun z => z q)] at h9
      exact h9
  · cases h
theorem dg_if_gt {tb : Nat → dm_Me} {own : String} {cc : ByteArray} {nL : Nat} {ret : Option FieldType} {isI : Bool} {sc : Option (Nat × (Nat → Int32))} {pc : Nat} {off : Int} {t : Nat} (ht : (pc : Int) + off = (t : Int)) (hd : decode cc pc = .ok (.ifCond .gt off, 3)) : dm_Good tb own cc nL ret isI sc pc (dm_if_gt (pc + 3) t) := by
  intro lv st M o h
  unfold dm_if_gt at h
  split at h
  · cases h
    refine dm_pure (fun p l e R s m args below meth c D ca b zb n0 Q H locs ls cells slots hC hH hl h1 h2 hk => ?_)
    obtain ⟨hx, hb, hml, hown, hts, hr, hlk, hin, hK, hsz, hf, hlo, hsc⟩ := hC
    have h9 := hk ls hl
    dsimp only at h9
    refine lv_if_gt hx hb hd ht (fun q => ?_) (fun q => ?_)
    · rw [if_pos q] at h9
      exact h9
    · rw [if_neg (by first | exact q | exact fun z => z q)] at h9
      exact h9
  · cases h
theorem dg_if_le {tb : Nat → dm_Me} {own : String} {cc : ByteArray} {nL : Nat} {ret : Option FieldType} {isI : Bool} {sc : Option (Nat × (Nat → Int32))} {pc : Nat} {off : Int} {t : Nat} (ht : (pc : Int) + off = (t : Int)) (hd : decode cc pc = .ok (.ifCond .le off, 3)) : dm_Good tb own cc nL ret isI sc pc (dm_if_le (pc + 3) t) := by
  intro lv st M o h
  unfold dm_if_le at h
  split at h
  · cases h
    refine dm_pure (fun p l e R s m args below meth c D ca b zb n0 Q H locs ls cells slots hC hH hl h1 h2 hk => ?_)
    obtain ⟨hx, hb, hml, hown, hts, hr, hlk, hin, hK, hsz, hf, hlo, hsc⟩ := hC
    have h9 := hk ls hl
    dsimp only at h9
    refine lv_if_le hx hb hd ht (fun q => ?_) (fun q => ?_)
    · rw [if_pos q] at h9
      exact h9
    · rw [if_neg (by first | exact q | exact fun z => z q)] at h9
      exact h9
  · cases h
theorem dg_ic_eq {tb : Nat → dm_Me} {own : String} {cc : ByteArray} {nL : Nat} {ret : Option FieldType} {isI : Bool} {sc : Option (Nat × (Nat → Int32))} {pc : Nat} {off : Int} {t : Nat} (ht : (pc : Int) + off = (t : Int)) (hd : decode cc pc = .ok (.if_icmp .eq off, 3)) : dm_Good tb own cc nL ret isI sc pc (dm_ic_eq (pc + 3) t) := by
  intro lv st M o h
  unfold dm_ic_eq at h
  split at h
  · cases h
    refine dm_pure (fun p l e R s m args below meth c D ca b zb n0 Q H locs ls cells slots hC hH hl h1 h2 hk => ?_)
    obtain ⟨hx, hb, hml, hown, hts, hr, hlk, hin, hK, hsz, hf, hlo, hsc⟩ := hC
    have h9 := hk ls hl
    dsimp only at h9
    refine lv_icmp_eq hx hb hd ht (fun q => ?_) (fun q => ?_)
    · rw [if_pos q] at h9
      exact h9
    · rw [if_neg (by first | exact q | exact fun z => z q)] at h9
      exact h9
  · cases h
theorem dg_ic_ne {tb : Nat → dm_Me} {own : String} {cc : ByteArray} {nL : Nat} {ret : Option FieldType} {isI : Bool} {sc : Option (Nat × (Nat → Int32))} {pc : Nat} {off : Int} {t : Nat} (ht : (pc : Int) + off = (t : Int)) (hd : decode cc pc = .ok (.if_icmp .ne off, 3)) : dm_Good tb own cc nL ret isI sc pc (dm_ic_ne (pc + 3) t) := by
  intro lv st M o h
  unfold dm_ic_ne at h
  split at h
  · cases h
    refine dm_pure (fun p l e R s m args below meth c D ca b zb n0 Q H locs ls cells slots hC hH hl h1 h2 hk => ?_)
    obtain ⟨hx, hb, hml, hown, hts, hr, hlk, hin, hK, hsz, hf, hlo, hsc⟩ := hC
    have h9 := hk ls hl
    dsimp only at h9
    refine lv_icmp_ne hx hb hd ht (fun q => ?_) (fun q => ?_)
    · rw [if_pos q] at h9
      exact h9
    · rw [if_neg (by first | exact q | exact fun z => z q)] at h9
      exact h9
  · cases h
theorem dg_ic_lt {tb : Nat → dm_Me} {own : String} {cc : ByteArray} {nL : Nat} {ret : Option FieldType} {isI : Bool} {sc : Option (Nat × (Nat → Int32))} {pc : Nat} {off : Int} {t : Nat} (ht : (pc : Int) + off = (t : Int)) (hd : decode cc pc = .ok (.if_icmp .lt off, 3)) : dm_Good tb own cc nL ret isI sc pc (dm_ic_lt (pc + 3) t) := by
  intro lv st M o h
  unfold dm_ic_lt at h
  split at h
  · cases h
    refine dm_pure (fun p l e R s m args below meth c D ca b zb n0 Q H locs ls cells slots hC hH hl h1 h2 hk => ?_)
    obtain ⟨hx, hb, hml, hown, hts, hr, hlk, hin, hK, hsz, hf, hlo, hsc⟩ := hC
    have h9 := hk ls hl
    dsimp only at h9
    refine lv_icmp_lt hx hb hd ht (fun q => ?_) (fun q => ?_)
    · rw [if_pos q] at h9
      exact h9
    · rw [if_neg (by first | exact q | exact fun z => z q)] at h9
      exact h9
  · cases h
theorem dg_ic_ge {tb : Nat → dm_Me} {own : String} {cc : ByteArray} {nL : Nat} {ret : Option FieldType} {isI : Bool} {sc : Option (Nat × (Nat → Int32))} {pc : Nat} {off : Int} {t : Nat} (ht : (pc : Int) + off = (t : Int)) (hd : decode cc pc = .ok (.if_icmp .ge off, 3)) : dm_Good tb own cc nL ret isI sc pc (dm_ic_ge (pc + 3) t) := by
  intro lv st M o h
  unfold dm_ic_ge at h
  split at h
  · cases h
    refine dm_pure (fun p l e R s m args below meth c D ca b zb n0 Q H locs ls cells slots hC hH hl h1 h2 hk => ?_)
    obtain ⟨hx, hb, hml, hown, hts, hr, hlk, hin, hK, hsz, hf, hlo, hsc⟩ := hC
    have h9 := hk ls hl
    dsimp only at h9
    refine lv_icmp_ge hx hb hd ht (fun q => ?_) (fun q => ?_)
    · rw [if_pos q] at h9
      exact h9
    · rw [if_neg (by first | exact q | exact fun z => z q)] at h9
      exact h9
  · cases h
theorem dg_ic_gt {tb : Nat → dm_Me} {own : String} {cc : ByteArray} {nL : Nat} {ret : Option FieldType} {isI : Bool} {sc : Option (Nat × (Nat → Int32))} {pc : Nat} {off : Int} {t : Nat} (ht : (pc : Int) + off = (t : Int)) (hd : decode cc pc = .ok (.if_icmp .gt off, 3)) : dm_Good tb own cc nL ret isI sc pc (dm_ic_gt (pc + 3) t) := by
  intro lv st M o h
  unfold dm_ic_gt at h
  split at h
  · cases h
    refine dm_pure (fun p l e R s m args below meth c D ca b zb n0 Q H locs ls cells slots hC hH hl h1 h2 hk => ?_)
    obtain ⟨hx, hb, hml, hown, hts, hr, hlk, hin, hK, hsz, hf, hlo, hsc⟩ := hC
    have h9 := hk ls hl
    dsimp only at h9
    refine lv_icmp_gt hx hb hd ht (fun q => ?_) (fun q => ?_)
    · rw [if_pos q] at h9
      exact h9
    · rw [if_neg (by first | exact q | exact fun z => z q)] at h9
      exact h9
  · cases h
theorem dg_ic_le {tb : Nat → dm_Me} {own : String} {cc : ByteArray} {nL : Nat} {ret : Option FieldType} {isI : Bool} {sc : Option (Nat × (Nat → Int32))} {pc : Nat} {off : Int} {t : Nat} (ht : (pc : Int) + off = (t : Int)) (hd : decode cc pc = .ok (.if_icmp .le off, 3)) : dm_Good tb own cc nL ret isI sc pc (dm_ic_le (pc + 3) t) := by
  intro lv st M o h
  unfold dm_ic_le at h
  split at h
  · cases h
    refine dm_pure (fun p l e R s m args below meth c D ca b zb n0 Q H locs ls cells slots hC hH hl h1 h2 hk => ?_)
    obtain ⟨hx, hb, hml, hown, hts, hr, hlk, hin, hK, hsz, hf, hlo, hsc⟩ := hC
    have h9 := hk ls hl
    dsimp only at h9
    refine lv_icmp_le hx hb hd ht (fun q => ?_) (fun q => ?_)
    · rw [if_pos q] at h9
      exact h9
    · rw [if_neg (by first | exact q | exact fun z => z q)] at h9
      exact h9
  · cases h
def dm_goto (t : Nat) : dm_Sem := fun lv st M => some (.inl ((t, lv, st), M))
theorem dg_goto {tb : Nat → dm_Me} {own : String} {cc : ByteArray} {nL : Nat} {ret : Option FieldType} {isI : Bool} {sc : Option (Nat × (Nat → Int32))} {pc : Nat} {off : Int} {t : Nat} (ht : (pc : Int) + off = (t : Int)) (hd : decode cc pc = .ok (.goto off, 3)) : dm_Good tb own cc nL ret isI sc pc (dm_goto t) := by
  intro lv st M o h
  cases h
  refine dm_pure (fun p l e R s m args below meth c D ca b zb n0 Q H locs ls cells slots hC hH hl h1 h2 hk => ?_)
  obtain ⟨hx, hb, hml, hown, hts, hr, hlk, hin, hK, hsz, hf, hlo, hsc⟩ := hC
  exact lv_goto hx hb hd ht (hk ls hl)
def dm_tsw (lo hi : Int) (d : Nat) (ts : List Nat) : dm_Sem := fun lv st M => match st with
  | .int x :: r => if x.toInt < lo ∨ hi < x.toInt then some (.inl ((d, lv, r), M)) else match ts[(x.toInt - lo).toNat]? with
    | some t => some (.inl ((t, lv, r), M))
    | none => none
  | _ => none
theorem dg_tsw {tb : Nat → dm_Me} {own : String} {cc : ByteArray} {nL : Nat} {ret : Option FieldType} {isI : Bool} {sc : Option (Nat × (Nat → Int32))} {pc : Nat} {dflt lo hi : Int} {offs : Array Int} {len d : Nat} {ts : List Nat} (hd : decode cc pc = .ok (.tableswitch dflt lo hi offs, len)) (h0 : (pc : Int) + dflt = (d : Int)) (h1 : offs.toList.map (fun q => (pc : Int) + q) = ts.map (fun q : Nat => (q : Int))) : dm_Good tb own cc nL ret isI sc pc (dm_tsw lo hi d ts) := by
  intro lv st M o h
  unfold dm_tsw at h
  split at h
  · rename_i x r
    split at h
    · rename_i hc
      cases h
      refine dm_pure (fun p l e R s m args below meth c D ca b zb n0 Q H locs ls cells slots hC hH hl g1 g2 hk => ?_)
      obtain ⟨hx, hb, hml, hown, hts, hr, hlk, hin, hK, hsz, hf, hlo, hsc⟩ := hC
      exact lv_tableOut hx hb hd hc h0 (hk ls hl)
    · rename_i hc
      have hc1 : ¬ x.toInt < lo := fun q => hc (Or.inl q)
      have hc2 : ¬ hi < x.toInt := fun q => hc (Or.inr q)
      split at h
      · rename_i t e1
        cases h
        have e2 : (ts.map (fun q : Nat => (q : Int)))[(x.toInt - lo).toNat]? = some (t : Int) := by rw [List.getElem?_map, e1]; rfl
        rw [← h1, List.getElem?_map] at e2
        cases e3 : offs.toList[(x.toInt - lo).toNat]? with
        | none => rw [e3] at e2; cases e2
        | some q =>
          rw [e3] at e2
          have e4 : (pc : Int) + q = (t : Int) := Option.some.inj e2
          refine dm_pure (fun p l e R s m args below meth c D ca b zb n0 Q H locs ls cells slots hC hH hl g1 g2 hk => ?_)
          obtain ⟨hx, hb, hml, hown, hts, hr, hlk, hin, hK, hsz, hf, hlo, hsc⟩ := hC
          exact lv_tableIn hx hb hd hc1 hc2 (by rw [← Array.getElem?_toList]; exact e3) e4 (hk ls hl)
      · cases h
  · cases h
end
section
/-! steps over the memory -/
def dm_isT : FieldType → Bool
  | .int => true
  | .long => true
  | .boolean => true
  | .byte => true
  | .short => true
  | _ => false
theorem dm_tys_at {ty : FieldType} (ca : FieldType → ClassId) (h : dm_isT ty = true) : ∃ t0 : Nat, (dm_tys ca)[t0]? = some (ca ty, ty) := by
  cases ty <;> first | exact ⟨0, rfl⟩ | exact ⟨1, rfl⟩ | exact ⟨2, rfl⟩ | exact ⟨3, rfl⟩ | exact ⟨4, rfl⟩ | cases h
def dm_getf (n ci k : Nat) : dm_Sem := fun lv st M => match st with
  | .ref a :: r => match M[a]? with
    | some (.inr o) => if o.1 = ci then match o.2[k]? with
        | some v => some (.inl ((n, lv, v :: r), M))
        | none => none
      else none
    | _ => none
  | _ => none
theorem dg_getf {tb : Nat → dm_Me} {own : String} {cc : ByteArray} {nL : Nat} {ret : Option FieldType} {isI : Bool} {sc : Option (Nat × (Nat → Int32))} {pc : Nat} {C : String} {T : u_T} {N ci k idx : Nat} (hd : decode cc pc = .ok (.getfield idx, 3)) (hc : vwCl[ci]? = some (C, T, N)) (hk : k < N) (hw : ∀ w ∈ u_ws C T N, w ∈ dm_W) (hf : Cond.fieldLink own idx (T k).1 (T k).2.1 (T k).2.2.1 ∈ dm_W) : dm_Good tb own cc nL ret isI sc pc (dm_getf (pc + 3) ci k) := by
  intro lv st M o h
  unfold dm_getf at h
  split at h
  · rename_i a r
    split at h
    · rename_i q e1
      split at h
      · rename_i e2
        split at h
        · rename_i v e3
          cases h
          refine dm_pure (fun p l e R s m args below meth c D ca b zb n0 Q H locs ls cells slots hC hH hl h1 h2 hk9 => ?_)
          obtain ⟨hx, hb, hml, hown, hts, hr, hlk, hin, hK, hsz, hfr, hlo, hsc⟩ := hC
          refine va_get (D := D) (ci := ci) (v := dm_v b zb v) (C := C) (T := T) (N := N) hx hb hts hw hown hK hH.2 a (fs := q.2.map (dm_v b zb)) ?_ hc k hk (hts _ hf) (fun _ h9 => h9) (by rw [List.getElem?_map, e3]; rfl) hd (hk9 ls hl)
          rw [dm_ws_get e1, ← e2]
          rfl
        · cases h
      · cases h
    · cases h
  · cases h
def dm_fit : FieldType → Value → Bool
  | .int, .int _ => true
  | .long, .long _ => true
  | .boolean, .int v => v == 0 || v == 1
  | .object _, .ref _ => true
  | .object _, .null => true
  | .array _, .ref _ => true
  | .array _, .null => true
  | _, _ => false
theorem dm_fit_ok {ty : FieldType} {v : Value} (h : dm_fit ty v = true) (b zb : Nat) : narrow ty (dm_v b zb v) = dm_v b zb v ∧ fits ty (dm_v b zb v) = true := by
  cases ty <;> cases v <;> first | (cases h; done) | exact ⟨rfl, rfl⟩ | skip
  rename_i x
  have h2 : x = 0 ∨ x = 1 := by simpa [dm_fit] using h
  rcases h2 with rfl | rfl
  · exact ⟨(by decide : narrow .boolean (.int 0) = .int 0), (by decide : fits .boolean (.int 0) = true)⟩
  · exact ⟨(by decide : narrow .boolean (.int 1) = .int 1), (by decide : fits .boolean (.int 1) = true)⟩
def dm_putf (n ci k : Nat) (ty : FieldType) : dm_Sem := fun lv st M => match st with
  | v :: .ref a :: r => match M[a]? with
    | some (.inr o) => if o.1 = ci ∧ k < o.2.length ∧ dm_fit ty v = true then some (.inl ((n, lv, r), M.set a (.inr (ci, o.2.set k v)))) else none
    | _ => none
  | _ => none
theorem dm_putf_dec {lv : dm_Lv} {st : List Value} {M : dm_Mem} {o : dm_Rs} {n ci k : Nat} {ty : FieldType} (h : dm_putf n ci k ty lv st M = some o) : ∃ (v : Value) (a : Nat) (r fs : List Value), st = v :: .ref a :: r ∧ M[a]? = some (.inr (ci, fs)) ∧ k < fs.length ∧ dm_fit ty v = true ∧ o = .inl ((n, lv, r), M.set a (.inr (ci, fs.set k v))) := by
  unfold dm_putf at h
  split at h
  · rename_i v a r
    split at h
    · rename_i q e1
      split at h
      · rename_i e2
        obtain ⟨c, fs⟩ := q
        obtain ⟨g1, g2, g3⟩ := e2
        cases g1
        cases h
        exact ⟨v, a, r, fs, rfl, e1, g2, g3, rfl⟩
      · cases h
    · cases h
  · cases h
theorem dg_putf {tb : Nat → dm_Me} {own : String} {cc : ByteArray} {nL : Nat} {ret : Option FieldType} {isI : Bool} {sc : Option (Nat × (Nat → Int32))} {pc : Nat} {C : String} {T : u_T} {N ci k idx : Nat} {ty : FieldType} {ty0 : Nat → FieldType} (hd : decode cc pc = .ok (.putfield idx, 3)) (hc : vwCl[ci]? = some (C, T, N)) (hk : k < N) (hw : ∀ w ∈ u_ws C T N, w ∈ dm_W) (hty : ∀ k, k < N → parseFieldDescriptor (T k).2.2.1 = some (ty0 k)) (hnm : ∀ a, a < N → ∀ b, b < N → a ≠ b → (T a).2.1 ≠ (T b).2.1) (hf : Cond.fieldLink own idx (T k).1 (T k).2.1 (T k).2.2.1 ∈ dm_W) (ht : ty0 k = ty) (hfin : (T k).2.2.2 = false) : dm_Good tb own cc nL ret isI sc pc (dm_putf (pc + 3) ci k ty) := by
  intro lv st M o h
  obtain ⟨v, a, r, fs, rfl, e1, e2, e3, rfl⟩ := dm_putf_dec h
  refine dm_putc e1 (by simp [dm_sz]) (fun p l e R s m args below meth c D ca b zb n0 Q H locs ls cells slots hC hH hS hD hl hk9 => ?_) rfl
  obtain ⟨hx, hb, hml, hown, hts, hr, hlk, hin, hK, hsz, hfr, hlo, hsc⟩ := hC
  obtain ⟨f1, f2⟩ := dm_fit_ok e3 b zb
  refine va_put (D := D) (ci := ci) (v := dm_v b zb v) (ty := ty) (C := C) (T := T) (N := N) hx hb hts hw ty0 hty hnm hown hK hH.2 hD hS a (fs := fs.map (dm_v b zb)) (dm_ws_get e1) hc k hk (hts _ hf) (fun _ h9 => h9) hfin (by rw [hty k hk, ht]) f1 f2 (by rw [List.length_map]; exact e2) hd (fun H1 locs1 hP1 _ hS1 => hk9 H1 locs1 ?_ hS1)
  rw [show dm_E ca b zb (.inr (ci, fs.set k v)) = .inr (ci, (fs.map (dm_v b zb)).set k (dm_v b zb v)) by rw [← List.map_set]; rfl]
  exact hP1
theorem dg_putF {tb : Nat → dm_Me} {own : String} {cc : ByteArray} {nL : Nat} {ret : Option FieldType} {sc : Option (Nat × (Nat → Int32))} {pc : Nat} {C : String} {T : u_T} {N ci k idx : Nat} {ty : FieldType} {ty0 : Nat → FieldType} (hd : decode cc pc = .ok (.putfield idx, 3)) (hc : vwCl[ci]? = some (C, T, N)) (hk : k < N) (hw : ∀ w ∈ u_ws C T N, w ∈ dm_W) (hty : ∀ k, k < N → parseFieldDescriptor (T k).2.2.1 = some (ty0 k)) (hnm : ∀ a, a < N → ∀ b, b < N → a ≠ b → (T a).2.1 ≠ (T b).2.1) (hf : Cond.fieldLink own idx (T k).1 (T k).2.1 (T k).2.2.1 ∈ dm_W) (ht : ty0 k = ty) (hfin : (T k).2.2.2 = true) (hdecl : (T k).1 = own) : dm_Good tb own cc nL ret true sc pc (dm_putf (pc + 3) ci k ty) := by
  intro lv st M o h
  obtain ⟨v, a, r, fs, rfl, e1, e2, e3, rfl⟩ := dm_putf_dec h
  refine dm_putc e1 (by simp [dm_sz]) (fun p l e R s m args below meth c D ca b zb n0 Q H locs ls cells slots hC hH hS hD hl hk9 => ?_) rfl
  obtain ⟨hx, hb, hml, hown, hts, hr, hlk, hin, hK, hsz, hfr, hlo, hsc⟩ := hC
  obtain ⟨f1, f2⟩ := dm_fit_ok e3 b zb
  refine va_putF (D := D) (ci := ci) (v := dm_v b zb v) (ty := ty) (C := C) (T := T) (N := N) hx hb hts hw ty0 hty hnm hown hK hH.2 hD hS a (fs := fs.map (dm_v b zb)) (dm_ws_get e1) hc k hk (hts _ hf) (fun _ h9 => h9) hfin (hin rfl) hdecl (by rw [hty k hk, ht]) f1 f2 (by rw [List.length_map]; exact e2) hd (fun H1 locs1 hP1 _ hS1 => hk9 H1 locs1 ?_ hS1)
  rw [show dm_E ca b zb (.inr (ci, fs.set k v)) = .inr (ci, (fs.map (dm_v b zb)).set k (dm_v b zb v)) by rw [← List.map_set]; rfl]
  exact hP1
/-- a new cell at the end -/
theorem dm_newc {own : String} {cc : ByteArray} {nL : Nat} {ret : Option FieldType} {isI : Bool} {sc : Option (Nat × (Nat → Int32))} {pc : Nat} {lv : dm_Lv} {st : List Value} {M : dm_Mem} {g : dm_Fr} {x : dm_Cell}
    (h : ∀ (p : Program) (l : Launch) (e : Env) (R : Room) (s : State) (m : MethodId) (args : Array Value) (below : List Frame) (meth : Method) (c : Code) (D : va_G) (ca : FieldType → ClassId) (b zb n0 : Nat) (Q : State → Prop) (H : Heap) (locs : List Loc) (ls : Array Slot) (cells slots : Nat),
      dm_Cx own cc nL ret isI sc p R s m args meth c D ca b zb n0 → H.size = b + M.length → va_P D vwCl (dm_ws ca b zb M) H → lv_has ls nL (dm_lv b zb lv) → cells + 1 ≤ R.cells → slots + dm_sz x ≤ R.slots →
      (∀ (H1 : Heap), H1.size = b + M.length + 1 → (∀ q, q < b + M.length → H1[q]? = H[q]?) → va_at D vwCl (b + M.length, dm_E ca b zb x) H1 → W p l e R s m args below meth c H1 locs (cells + 1) (slots + dm_sz x) Q (F0 m g.1 ls (g.2.2.map (dm_v b zb)))) → W p l e R s m args below meth c H locs cells slots Q (F0 m pc ls (st.map (dm_v b zb))))
    (hg : g.2.1 = lv) : dm_Nx own cc nL ret isI sc pc lv st M g (M ++ [x]) := by
  have hs := dm_slots_app M x
  have hlen : (M ++ [x]).length = M.length + 1 := by simp
  refine ⟨⟨by omega, by omega⟩, ?_⟩
  intro p l e R s m args below meth c D ca b zb n0 s0 Q hC hn hn2 h1 h2 hk H locs ls hH hS hl
  refine h p l e R s m args below meth c D ca b zb n0 Q H locs ls _ _ hC hH.1 hH.2 hl (by omega) (by omega) (fun H1 z1 o1 ha => ?_)
  have hP2 : va_P D vwCl (dm_ws ca b zb (M ++ [x])) H1 := by
    rw [dm_ws_app]
    refine (hH.2.kept (fun k q hq => o1 q.1 ?_)).app (fun k q hq => ?_)
    · have := (hH.2 k q hq).lt
      rw [hH.1] at this
      exact this
    · have hz : k < 1 := (List.getElem?_eq_some_iff.mp hq).1
      rw [show k = 0 by omega] at hq
      cases hq
      exact ha
  have hS2 : va_S (fun q => b ≤ q) s.heap H1 locs := ⟨Nat.le_trans hS.1 (by rw [z1, hH.1]; omega), fun q q1 q2 => by
    rw [o1 q (by have := hS.1; rw [hH.1] at this; omega)]
    exact hS.2.1 q q1 q2, hS.2.2⟩
  have hw := hk H1 locs ls ⟨by rw [hlen]; omega, hP2⟩ hS2 (by rw [hg]; exact hl)
  rw [hlen, hs] at hw
  rw [show M.length + 1 - n0 = M.length - n0 + 1 by omega, show dm_slots M + dm_sz x - s0 = dm_slots M - s0 + dm_sz x by omega] at hw
  exact hw
def dm_new (n ci : Nat) (fs : List Value) : dm_Sem := fun lv st M => some (.inl ((n, lv, .ref M.length :: st), M ++ [.inr (ci, fs)]))
theorem dg_new {tb : Nat → dm_Me} {own : String} {cc : ByteArray} {nL : Nat} {ret : Option FieldType} {isI : Bool} {sc : Option (Nat × (Nat → Int32))} {pc : Nat} {C : String} {T : u_T} {N ci idx : Nat} {ty : Nat → FieldType} {fs : List Value} (hd : decode cc pc = .ok (.new idx, 3)) (hc : vwCl[ci]? = some (C, T, N)) (hw : ∀ w ∈ u_ws C T N, w ∈ dm_W) (hty : ∀ k, k < N → parseFieldDescriptor (T k).2.2.1 = some (ty k)) (hl1 : Cond.classLink own idx C ∈ dm_W) (hl2 : Cond.instantiable C N ∈ dm_W) (hl3 : Cond.initialized C ∈ dm_W) (hlen : fs.length = N) (hfs : ∀ j, j < N → defaultValue (ty j) = vp_V fs j) (hm : ∀ b zb, fs.map (dm_v b zb) = fs) : dm_Good tb own cc nL ret isI sc pc (dm_new (pc + 3) ci fs) := by
  intro lv st M o h
  cases h
  refine dm_newc (fun p l e R s m args below meth c D ca b zb n0 Q H locs ls cells slots hC hz hP hl h1 h2 hk => ?_) rfl
  obtain ⟨hx, hb, hml, hown, hts, hr, hlk, hin, hK, hsz, hfr, hlo, hsc⟩ := hC
  have hKn := hK.1 ci _ hc
  have h2' : slots + N ≤ R.slots := by rw [← hlen]; exact h2
  refine W.newcK hx hb hown (hts _ hl1) (hts _ hl2) (hts _ hl3) rfl hd h1 h2' hKn.2.1 hz fun H1 kC hkC e1 z1 o1 => ?_
  have h9 := hk H1 z1 o1 ⟨_, hc, by
    show t_OB _ _ _ _ _ (vp_V (fs.map (dm_v b zb)))
    rw [hm]
    exact (u_born ty hts hw hKn hkC e1 hty).to hfs⟩
  have e9 : dm_sz (.inr (ci, fs)) = N := hlen
  rw [e9] at h9
  exact h9
def dm_zero : FieldType → ((Nat → Int32) ⊕ (Nat → Int64) ⊕ (Nat → UInt32) ⊕ (Nat → UInt64) ⊕ (Nat → Option Nat))
  | .long => .inr (.inl (fun _ => 0))
  | _ => .inl (fun _ => 0)
def dm_newa (n : Nat) (ty : FieldType) : dm_Sem := fun lv st M => match st with
  | .int z :: r => if z < 0 ∨ 50000000 < z.toNatClampNeg then none else some (.inl ((n, lv, .ref M.length :: r), M ++ [.inl (ty, z.toNatClampNeg, dm_zero ty)]))
  | _ => none
theorem dg_newa {tb : Nat → dm_Me} {own : String} {cc : ByteArray} {nL : Nat} {ret : Option FieldType} {isI : Bool} {sc : Option (Nat × (Nat → Int32))} {pc : Nat} {atype : ArrayType} {ty : FieldType} (hd : decode cc pc = .ok (.newarray atype, 2)) (hty : newarray.typeOf atype = ty) (hT : dm_isT ty = true) (hw : Cond.arrayClass ty ∈ dm_W) : dm_Good tb own cc nL ret isI sc pc (dm_newa (pc + 2) ty) := by
  intro lv st M o h
  unfold dm_newa at h
  split at h
  · rename_i z r
    split at h
    · cases h
    · rename_i hc
      cases h
      refine dm_newc (fun p l e R s m args below meth c D ca b zb n0 Q H locs ls cells slots hC hz hP hl h1 h2 hk => ?_) rfl
      obtain ⟨hx, hb, hml, hown, hts, hr, hlk, hin, hK, hsz, hfr, hlo, hsc⟩ := hC
      have c1 : ¬ z < 0 := fun q => hc (Or.inl q)
      have c2 : z.toNatClampNeg ≤ 50000000 := Nat.not_lt.mp (fun q => hc (Or.inr q))
      subst hty
      have hbytes : z.toNatClampNeg * componentBytes (newarray.typeOf atype) ≤ 536870912 := by
        have : componentBytes (newarray.typeOf atype) ≤ 8 := by cases atype <;> decide
        calc z.toNatClampNeg * componentBytes (newarray.typeOf atype) ≤ 50000000 * 8 := Nat.mul_le_mul c2 this
          _ ≤ 536870912 := by decide
      refine va_newaK hx hb (hts _ hw) rfl hd rfl c1 rfl hbytes h1 h2 hz fun H1 cA e1 z1 o1 hAr hNm => ?_
      refine hk H1 z1 o1 ?_
      obtain ⟨t0, ht0⟩ := dm_tys_at ca hT
      have hca : ca (newarray.typeOf atype) = cA := by
        have h9 := (hK.2 t0 _ ht0).2
        have h8 : s.vm.findClass ("[" ++ (newarray.typeOf atype).toString) = some (ca (newarray.typeOf atype)) := by
          cases atype <;> exact h9
        exact Option.some.inj (h8.symm.trans hNm)
      show H1[b + M.length]? = some (vp_cell (ca (newarray.typeOf atype)) _)
      rw [hca, e1]
      congr 1
      cases atype <;> first | rfl | cases hT
  · cases h
def dm_alen (n : Nat) : dm_Sem := fun lv st M => match st with
  | .ref a :: r => match M[a]? with
    | some (.inl x) => if dm_isT x.1 = true then some (.inl ((n, lv, .int (Int32.ofNat x.2.1) :: r), M)) else none
    | _ => none
  | _ => none
theorem dg_alen {tb : Nat → dm_Me} {own : String} {cc : ByteArray} {nL : Nat} {ret : Option FieldType} {isI : Bool} {sc : Option (Nat × (Nat → Int32))} {pc : Nat} (hd : decode cc pc = .ok (.arraylength, 1)) : dm_Good tb own cc nL ret isI sc pc (dm_alen (pc + 1)) := by
  intro lv st M o h
  unfold dm_alen at h
  split at h
  · rename_i a r
    split at h
    · rename_i x e1
      split at h
      · rename_i hT
        cases h
        refine dm_pure (fun p l e R s m args below meth c D ca b zb n0 Q H locs ls cells slots hC hH hl h1 h2 hk9 => ?_)
        obtain ⟨hx, hb, hml, hown, hts, hr, hlk, hin, hK, hsz, hfr, hlo, hsc⟩ := hC
        obtain ⟨t0, ht0⟩ := dm_tys_at ca hT
        exact va_alen hx hb hK hH.2 a t0 (x := x.2) (dm_ws_get e1) ht0 rfl hd (hk9 ls hl)
      · cases h
    · cases h
  · cases h
def dm_iald (n : Nat) : dm_Sem := fun lv st M => match st with
  | .int i :: .ref a :: r => match M[a]? with
    | some (.inl (.int, k, .inl f)) => if i < 0 ∨ k ≤ i.toNatClampNeg then none else some (.inl ((n, lv, .int (f i.toNatClampNeg) :: r), M))
    | _ => none
  | _ => none
theorem dg_iald {tb : Nat → dm_Me} {own : String} {cc : ByteArray} {nL : Nat} {ret : Option FieldType} {isI : Bool} {sc : Option (Nat × (Nat → Int32))} {pc : Nat} (hd : decode cc pc = .ok (.iaload, 1)) : dm_Good tb own cc nL ret isI sc pc (dm_iald (pc + 1)) := by
  intro lv st M o h
  unfold dm_iald at h
  split at h
  · rename_i i a r
    split at h
    · rename_i k f e1
      split at h
      · cases h
      · rename_i hc
        cases h
        refine dm_pure (fun p l e R s m args below meth c D ca b zb n0 Q H locs ls cells slots hC hH hl h1 h2 hk9 => ?_)
        obtain ⟨hx, hb, hml, hown, hts, hr, hlk, hin, hK, hsz, hfr, hlo, hsc⟩ := hC
        obtain ⟨t0, ht0⟩ := dm_tys_at (ty := .int) ca rfl
        exact va_iald hx hb hK hH.2 a t0 (dm_ws_get e1) ht0 hc hd (hk9 ls hl)
    · cases h
  · cases h
def dm_bald (n : Nat) : dm_Sem := fun lv st M => match st with
  | .int i :: .ref a :: r => match M[a]? with
    | some (.inl (.boolean, k, .inl f)) => if i < 0 ∨ k ≤ i.toNatClampNeg then none else some (.inl ((n, lv, .int (f i.toNatClampNeg) :: r), M))
    | some (.inl (.byte, k, .inl f)) => if i < 0 ∨ k ≤ i.toNatClampNeg then none else some (.inl ((n, lv, .int (f i.toNatClampNeg) :: r), M))
    | _ => none
  | _ => none
theorem dg_bald {tb : Nat → dm_Me} {own : String} {cc : ByteArray} {nL : Nat} {ret : Option FieldType} {isI : Bool} {sc : Option (Nat × (Nat → Int32))} {pc : Nat} (hd : decode cc pc = .ok (.baload, 1)) : dm_Good tb own cc nL ret isI sc pc (dm_bald (pc + 1)) := by
  intro lv st M o h
  unfold dm_bald at h
  split at h
  · rename_i i a r
    split at h
    · rename_i k f e1
      split at h
      · cases h
      · rename_i hc
        cases h
        refine dm_pure (fun p l e R s m args below meth c D ca b zb n0 Q H locs ls cells slots hC hH hl h1 h2 hk9 => ?_)
        obtain ⟨hx, hb, hml, hown, hts, hr, hlk, hin, hK, hsz, hfr, hlo, hsc⟩ := hC
        obtain ⟨t0, ht0⟩ := dm_tys_at (ty := .boolean) ca rfl
        exact va_zald hx hb hK hH.2 a t0 (dm_ws_get e1) ht0 hc hd (hk9 ls hl)
    · rename_i k f e1
      split at h
      · cases h
      · rename_i hc
        cases h
        refine dm_pure (fun p l e R s m args below meth c D ca b zb n0 Q H locs ls cells slots hC hH hl h1 h2 hk9 => ?_)
        obtain ⟨hx, hb, hml, hown, hts, hr, hlk, hin, hK, hsz, hfr, hlo, hsc⟩ := hC
        obtain ⟨t0, ht0⟩ := dm_tys_at (ty := .byte) ca rfl
        exact va_bald hx hb hK hH.2 a t0 (dm_ws_get e1) ht0 hc hd (hk9 ls hl)
    · cases h
  · cases h
def dm_sald (n : Nat) : dm_Sem := fun lv st M => match st with
  | .int i :: .ref a :: r => match M[a]? with
    | some (.inl (.short, k, .inl f)) => if i < 0 ∨ k ≤ i.toNatClampNeg then none else some (.inl ((n, lv, .int (f i.toNatClampNeg) :: r), M))
    | _ => none
  | _ => none
theorem dg_sald {tb : Nat → dm_Me} {own : String} {cc : ByteArray} {nL : Nat} {ret : Option FieldType} {isI : Bool} {sc : Option (Nat × (Nat → Int32))} {pc : Nat} (hd : decode cc pc = .ok (.saload, 1)) : dm_Good tb own cc nL ret isI sc pc (dm_sald (pc + 1)) := by
  intro lv st M o h
  unfold dm_sald at h
  split at h
  · rename_i i a r
    split at h
    · rename_i k f e1
      split at h
      · cases h
      · rename_i hc
        cases h
        refine dm_pure (fun p l e R s m args below meth c D ca b zb n0 Q H locs ls cells slots hC hH hl h1 h2 hk9 => ?_)
        obtain ⟨hx, hb, hml, hown, hts, hr, hlk, hin, hK, hsz, hfr, hlo, hsc⟩ := hC
        obtain ⟨t0, ht0⟩ := dm_tys_at (ty := .short) ca rfl
        exact va_sald hx hb hK hH.2 a t0 (dm_ws_get e1) ht0 hc hd (hk9 ls hl)
    · cases h
  · cases h
def dm_lald (n : Nat) : dm_Sem := fun lv st M => match st with
  | .int i :: .ref a :: r => match M[a]? with
    | some (.inl (.long, k, .inr (.inl f))) => if i < 0 ∨ k ≤ i.toNatClampNeg then none else some (.inl ((n, lv, .long (f i.toNatClampNeg) :: r), M))
    | _ => none
  | _ => none
theorem dg_lald {tb : Nat → dm_Me} {own : String} {cc : ByteArray} {nL : Nat} {ret : Option FieldType} {isI : Bool} {sc : Option (Nat × (Nat → Int32))} {pc : Nat} (hd : decode cc pc = .ok (.laload, 1)) : dm_Good tb own cc nL ret isI sc pc (dm_lald (pc + 1)) := by
  intro lv st M o h
  unfold dm_lald at h
  split at h
  · rename_i i a r
    split at h
    · rename_i k f e1
      split at h
      · cases h
      · rename_i hc
        cases h
        refine dm_pure (fun p l e R s m args below meth c D ca b zb n0 Q H locs ls cells slots hC hH hl h1 h2 hk9 => ?_)
        obtain ⟨hx, hb, hml, hown, hts, hr, hlk, hin, hK, hsz, hfr, hlo, hsc⟩ := hC
        obtain ⟨t0, ht0⟩ := dm_tys_at (ty := .long) ca rfl
        exact va_lald hx hb hK hH.2 a t0 (dm_ws_get e1) ht0 hc hd (hk9 ls hl)
    · cases h
  · cases h
def dm_iast (n : Nat) : dm_Sem := fun lv st M => match st with
  | .int x :: .int i :: .ref a :: r => match M[a]? with
    | some (.inl (.int, k, .inl f)) => if i < 0 ∨ k ≤ i.toNatClampNeg then none else some (.inl ((n, lv, r), M.set a (.inl (.int, k, .inl (upd f i.toNatClampNeg x)))))
    | _ => none
  | _ => none
theorem dg_iast {tb : Nat → dm_Me} {own : String} {cc : ByteArray} {nL : Nat} {ret : Option FieldType} {isI : Bool} {sc : Option (Nat × (Nat → Int32))} {pc : Nat} (hd : decode cc pc = .ok (.iastore, 1)) : dm_Good tb own cc nL ret isI sc pc (dm_iast (pc + 1)) := by
  intro lv st M o h
  unfold dm_iast at h
  split at h
  · rename_i x i a r
    split at h
    · rename_i k f e1
      split at h
      · cases h
      · rename_i hc
        cases h
        refine dm_putc e1 rfl (fun p l e R s m args below meth c D ca b zb n0 Q H locs ls cells slots hC hH hS hD hl hk9 => ?_) rfl
        obtain ⟨hx, hb, hml, hown, hts, hr, hlk, hin, hK, hsz, hfr, hlo, hsc⟩ := hC
        obtain ⟨t0, ht0⟩ := dm_tys_at (ty := .int) ca rfl
        exact va_iast hx hb hK hH.2 hD hS a t0 (dm_ws_get e1) ht0 hc hd (fun H1 locs1 hP1 _ hS1 => hk9 H1 locs1 hP1 hS1)
    · cases h
  · cases h
def dm_bast (n : Nat) : dm_Sem := fun lv st M => match st with
  | .int x :: .int i :: .ref a :: r => match M[a]? with
    | some (.inl (.boolean, k, .inl f)) => if i < 0 ∨ k ≤ i.toNatClampNeg then none else some (.inl ((n, lv, r), M.set a (.inl (.boolean, k, .inl (upd f i.toNatClampNeg (vp_nar .boolean x))))))
    | some (.inl (.byte, k, .inl f)) => if i < 0 ∨ k ≤ i.toNatClampNeg then none else some (.inl ((n, lv, r), M.set a (.inl (.byte, k, .inl (upd f i.toNatClampNeg (vp_nar .byte x))))))
    | _ => none
  | _ => none
theorem dg_bast {tb : Nat → dm_Me} {own : String} {cc : ByteArray} {nL : Nat} {ret : Option FieldType} {isI : Bool} {sc : Option (Nat × (Nat → Int32))} {pc : Nat} (hd : decode cc pc = .ok (.bastore, 1)) : dm_Good tb own cc nL ret isI sc pc (dm_bast (pc + 1)) := by
  intro lv st M o h
  unfold dm_bast at h
  split at h
  · rename_i x i a r
    split at h
    · rename_i k f e1
      split at h
      · cases h
      · rename_i hc
        cases h
        refine dm_putc e1 rfl (fun p l e R s m args below meth c D ca b zb n0 Q H locs ls cells slots hC hH hS hD hl hk9 => ?_) rfl
        obtain ⟨hx, hb, hml, hown, hts, hr, hlk, hin, hK, hsz, hfr, hlo, hsc⟩ := hC
        obtain ⟨t0, ht0⟩ := dm_tys_at (ty := .boolean) ca rfl
        exact va_zast hx hb hK hH.2 hD hS a t0 (dm_ws_get e1) ht0 hc hd (fun H1 locs1 hP1 _ hS1 => hk9 H1 locs1 hP1 hS1)
    · rename_i k f e1
      split at h
      · cases h
      · rename_i hc
        cases h
        refine dm_putc e1 rfl (fun p l e R s m args below meth c D ca b zb n0 Q H locs ls cells slots hC hH hS hD hl hk9 => ?_) rfl
        obtain ⟨hx, hb, hml, hown, hts, hr, hlk, hin, hK, hsz, hfr, hlo, hsc⟩ := hC
        obtain ⟨t0, ht0⟩ := dm_tys_at (ty := .byte) ca rfl
        exact va_bast hx hb hK hH.2 hD hS a t0 (dm_ws_get e1) ht0 hc hd (fun H1 locs1 hP1 _ hS1 => hk9 H1 locs1 hP1 hS1)
    · cases h
  · cases h
def dm_sast (n : Nat) : dm_Sem := fun lv st M => match st with
  | .int x :: .int i :: .ref a :: r => match M[a]? with
    | some (.inl (.short, k, .inl f)) => if i < 0 ∨ k ≤ i.toNatClampNeg then none else some (.inl ((n, lv, r), M.set a (.inl (.short, k, .inl (upd f i.toNatClampNeg (vp_nar .short x))))))
    | _ => none
  | _ => none
theorem dg_sast {tb : Nat → dm_Me} {own : String} {cc : ByteArray} {nL : Nat} {ret : Option FieldType} {isI : Bool} {sc : Option (Nat × (Nat → Int32))} {pc : Nat} (hd : decode cc pc = .ok (.sastore, 1)) : dm_Good tb own cc nL ret isI sc pc (dm_sast (pc + 1)) := by
  intro lv st M o h
  unfold dm_sast at h
  split at h
  · rename_i x i a r
    split at h
    · rename_i k f e1
      split at h
      · cases h
      · rename_i hc
        cases h
        refine dm_putc e1 rfl (fun p l e R s m args below meth c D ca b zb n0 Q H locs ls cells slots hC hH hS hD hl hk9 => ?_) rfl
        obtain ⟨hx, hb, hml, hown, hts, hr, hlk, hin, hK, hsz, hfr, hlo, hsc⟩ := hC
        obtain ⟨t0, ht0⟩ := dm_tys_at (ty := .short) ca rfl
        exact va_sast hx hb hK hH.2 hD hS a t0 (dm_ws_get e1) ht0 hc hd (fun H1 locs1 hP1 _ hS1 => hk9 H1 locs1 hP1 hS1)
    · cases h
  · cases h
def dm_last (n : Nat) : dm_Sem := fun lv st M => match st with
  | .long x :: .int i :: .ref a :: r => match M[a]? with
    | some (.inl (.long, k, .inr (.inl f))) => if i < 0 ∨ k ≤ i.toNatClampNeg then none else some (.inl ((n, lv, r), M.set a (.inl (.long, k, .inr (.inl (vp_updL f i.toNatClampNeg x))))))
    | _ => none
  | _ => none
theorem dg_last {tb : Nat → dm_Me} {own : String} {cc : ByteArray} {nL : Nat} {ret : Option FieldType} {isI : Bool} {sc : Option (Nat × (Nat → Int32))} {pc : Nat} (hd : decode cc pc = .ok (.lastore, 1)) : dm_Good tb own cc nL ret isI sc pc (dm_last (pc + 1)) := by
  intro lv st M o h
  unfold dm_last at h
  split at h
  · rename_i x i a r
    split at h
    · rename_i k f e1
      split at h
      · cases h
      · rename_i hc
        cases h
        refine dm_putc e1 rfl (fun p l e R s m args below meth c D ca b zb n0 Q H locs ls cells slots hC hH hS hD hl hk9 => ?_) rfl
        obtain ⟨hx, hb, hml, hown, hts, hr, hlk, hin, hK, hsz, hfr, hlo, hsc⟩ := hC
        obtain ⟨t0, ht0⟩ := dm_tys_at (ty := .long) ca rfl
        exact va_last hx hb hK hH.2 hD hS a t0 (dm_ws_get e1) ht0 hc hd (fun H1 locs1 hP1 _ hS1 => hk9 H1 locs1 hP1 hS1)
    · cases h
  · cases h
end
section
/-! calls, returns, what the JDK does -/
/-- behind a call -/
theorem dm_call {p : Program} {l : Launch} {e : Env} {R : Room} {s : State} {m : MethodId} {args : Array Value} {below : List Frame} {meth : Method} {c : Code} {H : Heap} {locs : List Loc} {cells slots mc ms pc : Nat} {Q : State → Prop} {ls : Array Slot} {st0 rest : List Value} {a : Array Value} {D : va_G} {ca : FieldType → ClassId} {b zb : Nat} {r : Option Value} {M' : dm_Mem}
    (hr : va_Run p l e R s m args below meth c H locs cells slots mc ms (F0 m pc ls st0) rest (dm_Qc D ca b zb r M' a) (fun q => b ≤ q)) (hS : va_S (fun q => b ≤ q) s.heap H locs)
    (kk : ∀ (H1 : Heap) (locs1 : List Loc), dm_Hp D ca b zb M' H1 → va_S (fun q => b ≤ q) s.heap H1 locs1 → W p l e R s m args below meth c H1 locs1 (cells + mc) (slots + ms) Q (F0 m (pc + 3) ls ((r.map (dm_v b zb)).toList ++ rest))) : W p l e R s m args below meth c H locs cells slots Q (F0 m pc ls st0) := by
  intro T hT X
  obtain ⟨v, st₀, t, T', L, h0, X', hL, e1, e2, ⟨hv, hp, hz, hk⟩, st⟩ := hr T hT X
  have hv' : v = r.map (dm_v b zb) := Outcome.returned.inj hv
  subst hv'
  rw [h0] at hz hk
  obtain ⟨t2, a1, b1⟩ := kk T'.heap (locs ++ L) (by rw [e1]; exact hp)
    ⟨Nat.le_trans hS.1 (by rw [e1]; exact hz), fun q h1 h2 => by rw [e1, hk q (Nat.lt_of_lt_of_le h1 hS.1) h2]; exact hS.2.1 q h1 h2, fun q hq => by
      rcases List.mem_append.mp hq with h | h
      · exact hS.2.2 q h
      · exact hL q h⟩ T' rfl X'
  exact ⟨t2, st t2 a1, b1⟩
/-- a method of ours that may be called: its words are among the tables' -/
def dm_Mok (tb : Nat → dm_Me) (mi : Nat) : Prop := Cond.code (tb mi).1 (tb mi).2.1 (tb mi).2.2.1 (tb mi).2.2.2.1 ∈ dm_W ∧ Cond.initialized (tb mi).1.cls ∈ dm_W ∧ ((tb mi).1.cls ≠ "java/lang/invoke/MethodHandle" ∧ (tb mi).1.cls ≠ "java/lang/invoke/VarHandle") ∧ (tb mi).2.2.1 ≤ 45 ∧ plainName (tb mi).1.cls = true
theorem dm_wo_good {tb : Nat → dm_Me} {mi : Nat} (h : dm_Mok tb mi) : GoodIn dm_W (dm_wo (tb mi)) := by
  intro w hw
  rcases List.mem_cons.mp hw with rfl | hw
  · exact ⟨h.1, dm_goodW h.1⟩
  · exact ⟨hw, dm_goodW hw⟩
theorem dm_blind {D : va_G} {ca : FieldType → ClassId} {b zb : Nat} {M : dm_Mem} {av : List Value} : FrameBlind (va_Pc av (fun U => dm_Hp D ca b zb M U.heap ∧ va_K D vwCl (dm_tys ca) U)) :=
  fun a U g mk q => ⟨q.1, q.2.1, va_K.moved (u := U) (U := U.calling g mk a) (Vm.Alike.refl U.vm) q.2.2⟩
def dm_inv (n mi na ci : Nat) : dm_Sem := fun lv st M => match st.drop na with
  | .ref a :: r => if (r.map fun v => v.category).sum ≤ 8 then match M[a]? with
      | some (.inr o) => if o.1 = ci then some (.inr (.inl (mi, .ref a :: (st.take na).reverse, (n, lv, r)))) else none
      | _ => none
    else none
  | _ => none
def dm_ini (n mi na : Nat) : dm_Sem := fun lv st _ => match st.drop na with
  | .ref a :: r => if (r.map fun v => v.category).sum ≤ 8 then some (.inr (.inl (mi, .ref a :: (st.take na).reverse, (n, lv, r)))) else none
  | _ => none
def dm_ins (n mi na : Nat) : dm_Sem := fun lv st _ => if na ≤ st.length ∧ ((st.drop na).map fun v => v.category).sum ≤ 8 then some (.inr (.inl (mi, (st.take na).reverse, (n, lv, st.drop na)))) else none
theorem dm_stk {st r : List Value} {na : Nat} {x : Value} (h : st.drop na = x :: r) : st = (st.take na).reverse.reverse ++ x :: r ∧ ((st.take na).reverse).length = na := by
  have h1 : st = st.take na ++ st.drop na := (List.take_append_drop na st).symm
  have h2 : na < st.length := by
    by_cases h3 : na < st.length
    · exact h3
    · rw [List.drop_eq_nil_of_le (by omega)] at h
      cases h
  refine ⟨by rw [List.reverse_reverse, ← h]; exact h1, ?_⟩
  rw [List.length_reverse, List.length_take]
  omega
theorem dm_mapstk {st r : List Value} {na : Nat} {x : Value} (b zb : Nat) (h : st.drop na = x :: r) : st.map (dm_v b zb) = (((st.take na).reverse).map (dm_v b zb)).reverse ++ dm_v b zb x :: r.map (dm_v b zb) := by
  have h1 := (dm_stk h).1
  have h2 : st.map (dm_v b zb) = ((st.take na).reverse.reverse ++ x :: r).map (dm_v b zb) := congrArg (List.map (dm_v b zb)) h1
  rw [h2, List.map_append, List.map_cons, List.map_reverse]
theorem dm_toL (b zb : Nat) (r : Option Value) (st : List Value) : (r.map (dm_v b zb)).toList ++ st.map (dm_v b zb) = (r.toList ++ st).map (dm_v b zb) := by
  cases r <;> rfl
theorem dg_inv {tb : Nat → dm_Me} {own : String} {cc : ByteArray} {nL : Nat} {ret : Option FieldType} {isI : Bool} {sc : Option (Nat × (Nat → Int32))} {pc : Nat} {mi na ci idx : Nat} {q : vw_C} (hd : decode cc pc = .ok (.invokevirtual idx, 3)) (hok : dm_Mok tb mi) (hc : vwCl[ci]? = some q) (hq : (tb mi).1.cls = q.1) (hl1 : Cond.methodLink own idx (tb mi).1 ∈ dm_W) (hl2 : Cond.instanceMethod (tb mi).1 ∈ dm_W) (hl3 : Cond.selects q.1 (tb mi).1 (tb mi).1 ∈ dm_W) (hn : (parseMethodDescriptor (tb mi).1.desc).map (fun d => d.parameters.length) = some na) : dm_Good tb own cc nL ret isI sc pc (dm_inv (pc + 3) mi na ci) := by
  intro lv st M o h
  unfold dm_inv at h
  split at h
  · rename_i a r e1
    split at h
    · rename_i e2
      split at h
      · rename_i ob e3
        split at h
        · rename_i e4
          cases h
          intro p l e R s m args below meth c D ca b zb n0 s0 Q d r' M' hC g1 g2 g3 g4 g5 g6 hM hk H locs ls hH hS hl
          obtain ⟨hx, hb, hml, hown, hts, hr, hlk, hin, hK, hsz, hfr, hlo, hsc⟩ := hC
          obtain ⟨⟨m1, m2⟩, hMet⟩ := hM
          obtain ⟨k1, k2, k3, k4, k5⟩ := id hok
          have hcw := cwV (R := R) (C := q.1) (index := idx) (own := own) (rm := { frames := d, cells := M'.length - M.length, slots := dm_slots M' - dm_slots M, locals := 64 * d }) na hts (ws := dm_wo (tb mi)) (fun w hw => by
              rcases List.mem_append.mp hw with h | h
              · have h9 : w ∈ dm_W := by
                  simp only [List.mem_cons, List.not_mem_nil, or_false] at h
                  rcases h with rfl | rfl | rfl | rfl
                  · exact hl1
                  · exact hl2
                  · exact hl3
                  · rw [← hq]; exact k2
                exact ⟨h9, dm_goodW h9⟩
              · exact dm_wo_good hok w h) rfl rfl rfl ⟨hq, k3.1, k3.2, hn⟩ ⟨g5, by show 8 + ((tb mi).2.2.1 + 11) + 64 * d ≤ R.locals; omega⟩
          have hrun := va_runV (As := ((st.take na).reverse).map (dm_v b zb)) (b := b + a) (rest := r.map (dm_v b zb)) (g := F0 m pc ls (st.map (dm_v b zb))) (locs := locs) (cells := M.length - n0) (slots := dm_slots M - s0) (H := H) (e := e) (p := p) (below := below) (meth := meth) ⟨hx, hb, hml, hown, hts⟩ (hMet D ca b zb) hcw
            ⟨dm_blind, va_recv hK hH.2 (ci := ci) (q0 := a) hc (by rw [dm_ws_get e3, ← e4]; rfl), fun U hU hW => ⟨rfl, by rw [hU]; exact hH, va_K.moved hW.alike hK⟩⟩ rfl (by rw [List.length_map]; exact (dm_stk e1).2) hl.1 (dm_mapstk b zb e1) (lv_room (by rw [dm_cats]; exact e2)) hd ⟨by show M.length - n0 + (M'.length - M.length) ≤ _; omega, by show dm_slots M - s0 + (dm_slots M' - dm_slots M) ≤ _; omega⟩
          refine dm_call hrun hS (fun H1 locs1 hH1 hS1 => ?_)
          have h9 := hk H1 locs1 ls hH1 hS1 hl
          rw [show M.length - n0 + (M'.length - M.length) = M'.length - n0 by omega, show dm_slots M - s0 + (dm_slots M' - dm_slots M) = dm_slots M' - s0 by omega, dm_toL]
          exact h9
        · cases h
      · cases h
    · cases h
  · cases h
theorem dg_ini {tb : Nat → dm_Me} {own : String} {cc : ByteArray} {nL : Nat} {ret : Option FieldType} {isI : Bool} {sc : Option (Nat × (Nat → Int32))} {pc : Nat} {mi na idx : Nat} (hd : decode cc pc = .ok (.invokespecial idx, 3)) (hok : dm_Mok tb mi) (hrt : (tb mi).2.2.2.1 = none) (hnm : (tb mi).1.name = "<init>") (hl1 : Cond.methodLink own idx (tb mi).1 ∈ dm_W) (hl2 : Cond.instanceMethod (tb mi).1 ∈ dm_W) (hn : (parseMethodDescriptor (tb mi).1.desc).map (fun d => d.parameters.length) = some na) : dm_Good tb own cc nL ret isI sc pc (dm_ini (pc + 3) mi na) := by
  intro lv st M o h
  unfold dm_ini at h
  split at h
  · rename_i a r e1
    split at h
    · rename_i e2
      cases h
      intro p l e R s m args below meth c D ca b zb n0 s0 Q d r' M' hC g1 g2 g3 g4 g5 g6 hM hk H locs ls hH hS hl
      obtain ⟨hx, hb, hml, hown, hts, hr, hlk, hin, hK, hsz, hfr, hlo, hsc⟩ := hC
      obtain ⟨⟨m1, m2⟩, hMet⟩ := hM
      obtain ⟨k1, k2, k3, k4, k5⟩ := id hok
      have hcw := cwI (R := R) (index := idx) (own := own) (y := (tb mi).1) (bytes := (tb mi).2.1) (maxL := (tb mi).2.2.1) (ws' := dm_W) (rm := { frames := d, cells := M'.length - M.length, slots := dm_slots M' - dm_slots M, locals := 64 * d }) na hts (ws := dm_wo (tb mi)) (dm_wo_good hok) (by unfold dm_wo; rw [hrt]) rfl rfl (hts _ k2) (hts _ hl1) (hts _ hl2) hnm ⟨k3.1, k3.2, hn⟩ ⟨g5, by show 8 + ((tb mi).2.2.1 + 11) + 64 * d ≤ R.locals; omega⟩
      have hrun := va_runI (As := ((st.take na).reverse).map (dm_v b zb)) (b := b + a) (rest := r.map (dm_v b zb)) (g := F0 m pc ls (st.map (dm_v b zb))) (locs := locs) (cells := M.length - n0) (slots := dm_slots M - s0) (H := H) (e := e) (p := p) (below := below) (meth := meth) ⟨hx, hb, hml, hown, hts⟩ (hMet D ca b zb) hcw
        ⟨dm_blind, fun U hU hW => ⟨rfl, by rw [hU]; exact hH, va_K.moved hW.alike hK⟩⟩ rfl (by rw [List.length_map]; exact (dm_stk e1).2) hl.1 (dm_mapstk b zb e1) (lv_room (by rw [dm_cats]; exact e2)) hd ⟨by show M.length - n0 + (M'.length - M.length) ≤ _; omega, by show dm_slots M - s0 + (dm_slots M' - dm_slots M) ≤ _; omega⟩
      refine dm_call hrun hS (fun H1 locs1 hH1 hS1 => ?_)
      have h9 := hk H1 locs1 ls hH1 hS1 hl
      rw [show M.length - n0 + (M'.length - M.length) = M'.length - n0 by omega, show dm_slots M - s0 + (dm_slots M' - dm_slots M) = dm_slots M' - s0 by omega, dm_toL]
      exact h9
    · cases h
  · cases h
theorem dg_iniN {tb : Nat → dm_Me} {own host : String} {cc : ByteArray} {nL : Nat} {ret : Option FieldType} {isI : Bool} {sc : Option (Nat × (Nat → Int32))} {pc : Nat} {mi na idx : Nat} (hd : decode cc pc = .ok (.invokespecial idx, 3)) (hok : dm_Mok tb mi) (hrt : (tb mi).2.2.2.1 = none) (hnm : (tb mi).1.name = "<init>") (hl1 : Cond.methodLinkNest own idx (tb mi).1 host ∈ dm_W) (hl2 : Cond.instanceMethod (tb mi).1 ∈ dm_W) (hn : (parseMethodDescriptor (tb mi).1.desc).map (fun d => d.parameters.length) = some na) : dm_Good tb own cc nL ret isI sc pc (dm_ini (pc + 3) mi na) := by
  intro lv st M o h
  unfold dm_ini at h
  split at h
  · rename_i a r e1
    split at h
    · rename_i e2
      cases h
      intro p l e R s m args below meth c D ca b zb n0 s0 Q d r' M' hC g1 g2 g3 g4 g5 g6 hM hk H locs ls hH hS hl
      obtain ⟨hx, hb, hml, hown, hts, hr, hlk, hin, hK, hsz, hfr, hlo, hsc⟩ := hC
      obtain ⟨⟨m1, m2⟩, hMet⟩ := hM
      obtain ⟨k1, k2, k3, k4, k5⟩ := id hok
      have hcw := va_cnB (R := R) (index := idx) (own := own) (host := host) (y := (tb mi).1) (bytes := (tb mi).2.1) (maxL := (tb mi).2.2.1) (ret := none) (ws' := dm_W) (rm := { frames := d, cells := M'.length - M.length, slots := dm_slots M' - dm_slots M, locals := 64 * d }) na hts (ws := dm_wo (tb mi)) (dm_wo_good hok) (by unfold dm_wo; rw [hrt]) rfl rfl (va_Nw.of rfl (hts _ hl1)) (hts _ k2) ⟨k3.1, k3.2, hn⟩ ⟨g5, by show 8 + ((tb mi).2.2.1 + 11) + 64 * d ≤ R.locals; omega⟩
      have hrun := va_runIN (As := ((st.take na).reverse).map (dm_v b zb)) (b := b + a) (rest := r.map (dm_v b zb)) (g := F0 m pc ls (st.map (dm_v b zb))) (locs := locs) (cells := M.length - n0) (slots := dm_slots M - s0) (H := H) (e := e) (p := p) (below := below) (meth := meth) ⟨hx, hb, hml, hown, hts⟩ (hMet D ca b zb) ⟨hcw, hnm, hts _ hl2⟩
        ⟨dm_blind, fun U hU hW => ⟨rfl, by rw [hU]; exact hH, va_K.moved hW.alike hK⟩⟩ rfl (by rw [List.length_map]; exact (dm_stk e1).2) hl.1 (dm_mapstk b zb e1) (lv_room (by rw [dm_cats]; exact e2)) hd ⟨by show M.length - n0 + (M'.length - M.length) ≤ _; omega, by show dm_slots M - s0 + (dm_slots M' - dm_slots M) ≤ _; omega⟩
      refine dm_call hrun hS (fun H1 locs1 hH1 hS1 => ?_)
      have h9 := hk H1 locs1 ls hH1 hS1 hl
      rw [show M.length - n0 + (M'.length - M.length) = M'.length - n0 by omega, show dm_slots M - s0 + (dm_slots M' - dm_slots M) = dm_slots M' - s0 by omega, dm_toL]
      exact h9
    · cases h
  · cases h
theorem dm_mapst0 {st : List Value} {na : Nat} (b zb : Nat) : st.map (dm_v b zb) = (((st.take na).reverse).map (dm_v b zb)).reverse ++ (st.drop na).map (dm_v b zb) := by
  rw [List.map_reverse, List.reverse_reverse, ← List.map_append, List.take_append_drop]
theorem dg_ins {tb : Nat → dm_Me} {own : String} {cc : ByteArray} {nL : Nat} {ret : Option FieldType} {isI : Bool} {sc : Option (Nat × (Nat → Int32))} {pc : Nat} {mi na idx : Nat} (hd : decode cc pc = .ok (.invokestatic idx, 3)) (hok : dm_Mok tb mi) (hl1 : Cond.methodLink own idx (tb mi).1 ∈ dm_W) (hl2 : Cond.static (tb mi).1 ∈ dm_W) (hn : (parseMethodDescriptor (tb mi).1.desc).map (fun d => d.parameters.length) = some na) : dm_Good tb own cc nL ret isI sc pc (dm_ins (pc + 3) mi na) := by
  intro lv st M o h
  unfold dm_ins at h
  split at h
  · rename_i e2
    cases h
    intro p l e R s m args below meth c D ca b zb n0 s0 Q d r' M' hC g1 g2 g3 g4 g5 g6 hM hk H locs ls hH hS hl
    obtain ⟨hx, hb, hml, hown, hts, hr, hlk, hin, hK, hsz, hfr, hlo, hsc⟩ := hC
    obtain ⟨⟨m1, m2⟩, hMet⟩ := hM
    obtain ⟨k1, k2, k3, k4, k5⟩ := id hok
    have hcw := callB_of (R := R) (index := idx) (own := own) (rm := { frames := d, cells := M'.length - M.length, slots := dm_slots M' - dm_slots M, locals := 64 * d }) na hts (ws := dm_wo (tb mi)) (dm_wo_good hok) rfl rfl rfl (hts _ k2) (hts _ hl1) ⟨k3.1, k3.2, hn⟩ ⟨g5, by show 8 + ((tb mi).2.2.1 + 11) + 64 * d ≤ R.locals; omega⟩
    have hrun := va_runS (As := ((st.take na).reverse).map (dm_v b zb)) (rest := (st.drop na).map (dm_v b zb)) (g := F0 m pc ls (st.map (dm_v b zb))) (locs := locs) (cells := M.length - n0) (slots := dm_slots M - s0) (H := H) (e := e) (p := p) (below := below) (meth := meth) ⟨hx, hb, hml, hown, hts⟩ (hMet D ca b zb) ⟨hcw, hts _ hl2⟩
      ⟨dm_blind, fun U hU hW => ⟨rfl, by rw [hU]; exact hH, va_K.moved hW.alike hK⟩⟩ rfl (by rw [List.length_map, List.length_reverse, List.length_take]; omega) hl.1 (dm_mapst0 b zb) (lv_room (by rw [dm_cats]; exact e2.2)) hd ⟨by show M.length - n0 + (M'.length - M.length) ≤ _; omega, by show dm_slots M - s0 + (dm_slots M' - dm_slots M) ≤ _; omega⟩
    refine dm_call hrun hS (fun H1 locs1 hH1 hS1 => ?_)
    have h9 := hk H1 locs1 ls hH1 hS1 hl
    rw [show M.length - n0 + (M'.length - M.length) = M'.length - n0 by omega, show dm_slots M - s0 + (dm_slots M' - dm_slots M) = dm_slots M' - s0 by omega, dm_toL]
    exact h9
  · cases h
theorem dg_insN {tb : Nat → dm_Me} {own host : String} {cc : ByteArray} {nL : Nat} {ret : Option FieldType} {isI : Bool} {sc : Option (Nat × (Nat → Int32))} {pc : Nat} {mi na idx : Nat} (hd : decode cc pc = .ok (.invokestatic idx, 3)) (hok : dm_Mok tb mi) (hl1 : Cond.methodLinkNest own idx (tb mi).1 host ∈ dm_W) (hl2 : Cond.static (tb mi).1 ∈ dm_W) (hn : (parseMethodDescriptor (tb mi).1.desc).map (fun d => d.parameters.length) = some na) : dm_Good tb own cc nL ret isI sc pc (dm_ins (pc + 3) mi na) := by
  intro lv st M o h
  unfold dm_ins at h
  split at h
  · rename_i e2
    cases h
    intro p l e R s m args below meth c D ca b zb n0 s0 Q d r' M' hC g1 g2 g3 g4 g5 g6 hM hk H locs ls hH hS hl
    obtain ⟨hx, hb, hml, hown, hts, hr, hlk, hin, hK, hsz, hfr, hlo, hsc⟩ := hC
    obtain ⟨⟨m1, m2⟩, hMet⟩ := hM
    obtain ⟨k1, k2, k3, k4, k5⟩ := id hok
    have hcw := va_cnB (R := R) (index := idx) (own := own) (host := host) (rm := { frames := d, cells := M'.length - M.length, slots := dm_slots M' - dm_slots M, locals := 64 * d }) na hts (ws := dm_wo (tb mi)) (dm_wo_good hok) rfl rfl rfl (va_Nw.of rfl (hts _ hl1)) (hts _ k2) ⟨k3.1, k3.2, hn⟩ ⟨g5, by show 8 + ((tb mi).2.2.1 + 11) + 64 * d ≤ R.locals; omega⟩
    have hrun := va_runSN (As := ((st.take na).reverse).map (dm_v b zb)) (rest := (st.drop na).map (dm_v b zb)) (g := F0 m pc ls (st.map (dm_v b zb))) (locs := locs) (cells := M.length - n0) (slots := dm_slots M - s0) (H := H) (e := e) (p := p) (below := below) (meth := meth) ⟨hx, hb, hml, hown, hts⟩ (hMet D ca b zb) ⟨hcw, hts _ hl2, trivial⟩
      ⟨dm_blind, fun U hU hW => ⟨rfl, by rw [hU]; exact hH, va_K.moved hW.alike hK⟩⟩ rfl (by rw [List.length_map, List.length_reverse, List.length_take]; omega) hl.1 (dm_mapst0 b zb) (lv_room (by rw [dm_cats]; exact e2.2)) hd ⟨by show M.length - n0 + (M'.length - M.length) ≤ _; omega, by show dm_slots M - s0 + (dm_slots M' - dm_slots M) ≤ _; omega⟩
    refine dm_call hrun hS (fun H1 locs1 hH1 hS1 => ?_)
    have h9 := hk H1 locs1 ls hH1 hS1 hl
    rw [show M.length - n0 + (M'.length - M.length) = M'.length - n0 by omega, show dm_slots M - s0 + (dm_slots M' - dm_slots M) = dm_slots M' - s0 by omega, dm_toL]
    exact h9
  · cases h
-- ===== Object(), Math.max, Math.min, System.arraycopy =====
def dm_oin (n : Nat) : dm_Sem := fun lv st M => match st with
  | .ref _ :: r => if (r.map fun v => v.category).sum ≤ 8 then some (.inl ((n, lv, r), M)) else none
  | _ => none
theorem dg_oin {tb : Nat → dm_Me} {own : String} {cc : ByteArray} {nL : Nat} {ret : Option FieldType} {isI : Bool} {sc : Option (Nat × (Nat → Int32))} {pc : Nat} {idx : Nat} (hd : decode cc pc = .ok (.invokespecial idx, 3)) (hl1 : Cond.methodLink own idx Lib.objectInit ∈ dm_W) (hl2 : Cond.instanceMethod Lib.objectInit ∈ dm_W) (hl3 : Cond.code Lib.objectInit ⟨#[0xb1]⟩ 1 none ∈ dm_W) : dm_Good tb own cc nL ret isI sc pc (dm_oin (pc + 3)) := by
  intro lv st M o h
  unfold dm_oin at h
  split at h
  · split at h
    · rename_i e2
      cases h
      refine dm_pure (fun p l e R s m args below meth c D ca b zb n0 Q H locs ls cells slots hC hH hl h1 h2 hk => ?_)
      obtain ⟨hx, hb, hml, hown, hts, hr, hlk, hin, hK, hsz, hf, hlo, hsc⟩ := hC
      exact W.objInit hx hb hown (hts _ hl1) (hts _ hl2) (hts _ hl3) rfl (by rw [hml]; exact hl.1) rfl hd hf (by rw [dm_cats]; show 2 * 0 + _ + 12 ≤ _; omega) (hk ls hl)
    · cases h
  · cases h
def dm_mx (n : Nat) : dm_Sem := fun lv st M => match st with
  | .int y :: .int x :: r => if (r.map fun v => v.category).sum ≤ 8 then some (.inl ((n, lv, .int (if x < y then y else x) :: r), M)) else none
  | _ => none
def dm_mn (n : Nat) : dm_Sem := fun lv st M => match st with
  | .int y :: .int x :: r => if (r.map fun v => v.category).sum ≤ 8 then some (.inl ((n, lv, .int (if y < x then y else x) :: r), M)) else none
  | _ => none
theorem dg_mx {tb : Nat → dm_Me} {own : String} {cc : ByteArray} {nL : Nat} {ret : Option FieldType} {isI : Bool} {sc : Option (Nat × (Nat → Int32))} {pc : Nat} {idx : Nat} (hd : decode cc pc = .ok (.invokestatic idx, 3)) (hl1 : Cond.methodLink own idx Lib.Math.max.name ∈ dm_W) (hl2 : Cond.static Lib.Math.max.name ∈ dm_W) (hl3 : Cond.initialized "java/lang/Math" ∈ dm_W) (hl4 : Cond.code Lib.Math.max.name Lib.Math.max.code 2 (some .int) ∈ dm_W) : dm_Good tb own cc nL ret isI sc pc (dm_mx (pc + 3)) := by
  intro lv st M o h
  unfold dm_mx at h
  split at h
  · split at h
    · rename_i e2
      cases h
      refine dm_pure (fun p l e R s m args below meth c D ca b zb n0 Q H locs ls cells slots hC hH hl h1 h2 hk => ?_)
      obtain ⟨hx, hb, hml, hown, hts, hr, hlk, hin, hK, hsz, hf, hlo, hsc⟩ := hC
      exact va_mmax hx hb (by rw [hml]; exact hl.1.symm) hown (hts _ hl1) (hts _ hl2) (hts _ hl3) (hts _ hl4) hf (by rw [dm_cats]; omega) h1 h2 hd (hk ls hl)
    · cases h
  · cases h
theorem dg_mn {tb : Nat → dm_Me} {own : String} {cc : ByteArray} {nL : Nat} {ret : Option FieldType} {isI : Bool} {sc : Option (Nat × (Nat → Int32))} {pc : Nat} {idx : Nat} (hd : decode cc pc = .ok (.invokestatic idx, 3)) (hl1 : Cond.methodLink own idx Lib.Math.min.name ∈ dm_W) (hl2 : Cond.static Lib.Math.min.name ∈ dm_W) (hl3 : Cond.initialized "java/lang/Math" ∈ dm_W) (hl4 : Cond.code Lib.Math.min.name Lib.Math.min.code 2 (some .int) ∈ dm_W) : dm_Good tb own cc nL ret isI sc pc (dm_mn (pc + 3)) := by
  intro lv st M o h
  unfold dm_mn at h
  split at h
  · split at h
    · rename_i e2
      cases h
      refine dm_pure (fun p l e R s m args below meth c D ca b zb n0 Q H locs ls cells slots hC hH hl h1 h2 hk => ?_)
      obtain ⟨hx, hb, hml, hown, hts, hr, hlk, hin, hK, hsz, hf, hlo, hsc⟩ := hC
      exact va_mmin hx hb (by rw [hml]; exact hl.1.symm) hown (hts _ hl1) (hts _ hl2) (hts _ hl3) (hts _ hl4) hf (by rw [dm_cats]; omega) h1 h2 hd (hk ls hl)
    · cases h
  · cases h
def dm_acp (n : Nat) : dm_Sem := fun lv st M => match st with
  | .int k :: .int dp :: .ref a1 :: .int sp :: .ref a0 :: r => match M[a0]? with
    | some (.inl (.int, n0, .inl f)) => match M[a1]? with
      | some (.inl (.int, n1, .inl g)) => if (r.map fun v => v.category).sum ≤ 8 ∧ ¬ sp < 0 ∧ ¬ dp < 0 ∧ ¬ k < 0 ∧ sp.toNatClampNeg + k.toNatClampNeg ≤ n0 ∧ dp.toNatClampNeg + k.toNatClampNeg ≤ n1 then some (.inl ((n, lv, r), M.set a1 (.inl (.int, n1, .inl (va_cpy f g sp.toNatClampNeg dp.toNatClampNeg k.toNatClampNeg))))) else none
      | _ => none
    | _ => none
  | _ => none
theorem dg_acp {tb : Nat → dm_Me} {own : String} {cc : ByteArray} {nL : Nat} {ret : Option FieldType} {isI : Bool} {sc : Option (Nat × (Nat → Int32))} {pc : Nat} {idx : Nat} (hd : decode cc pc = .ok (.invokestatic idx, 3)) (hl1 : Cond.methodLink own idx arraycopyName ∈ dm_W) (hl2 : Cond.native arraycopyName ∈ dm_W) (hl3 : Cond.static arraycopyName ∈ dm_W) (hl4 : Cond.initialized "java/lang/System" ∈ dm_W) : dm_Good tb own cc nL ret isI sc pc (dm_acp (pc + 3)) := by
  intro lv st M o h
  unfold dm_acp at h
  split at h
  · rename_i k dp a1 sp a0 r
    split at h
    · rename_i n0 f e0
      split at h
      · rename_i n1 g e1
        split at h
        · rename_i e2
          obtain ⟨c0, c1, c2, c3, c4, c5⟩ := e2
          cases h
          refine dm_putc e1 rfl (fun p l e R s m args below meth c D ca b zb n0' Q H locs ls cells slots hC hH hS hD hl hk9 => ?_) rfl
          obtain ⟨hx, hb, hml, hown, hts, hr, hlk, hin, hK, hsz, hfr, hlo, hsc⟩ := hC
          obtain ⟨t0, ht0⟩ := dm_tys_at (ty := .int) ca rfl
          have hnw : nativeFrameWords "java/lang/System" "arraycopy" 5 = 7 := by decide
          exact va_copyi hx hb (by rw [hml]; exact hl.1.symm) hown (hts _ hl1) (hts _ hl2) (hts _ hl3) (hts _ hl4) hK hH.2 hD hS a0 a1 t0 t0 (dm_ws_get e0) (dm_ws_get e1) ht0 ht0 rfl c1 c2 c3 c4 c5 (fun _ _ => rfl) hfr (by rw [dm_cats, hnw]; omega) hd (fun H1 locs1 hP1 _ hS1 => hk9 H1 locs1 hP1 hS1)
        · cases h
      · cases h
    · cases h
  · cases h
-- ===== returns =====
def dm_rfit : FieldType → Int32 → Bool
  | .int, _ => true
  | .boolean, v => v == 0 || v == 1
  | _, _ => false
def dm_ret (ty : FieldType) : dm_Sem := fun _ st _ => match st with
  | [.int v] => if dm_rfit ty v = true then some (.inr (.inr (some (.int v)))) else none
  | _ => none
theorem dm_SF {b n0 : Nat} {s t : State} {H : Heap} {locs : List Loc} (hS : va_S (fun q => b ≤ q) s.heap H locs) (ht : t.heap = H) : va_F (fun q => b ≤ q) s t := hS.F ht
theorem dg_ret {tb : Nat → dm_Me} {own : String} {cc : ByteArray} {nL : Nat} {isI : Bool} {sc : Option (Nat × (Nat → Int32))} {pc : Nat} {ty : FieldType} (hd : decode cc pc = .ok (.ireturn, 1)) : dm_Good tb own cc nL (some ty) isI sc pc (dm_ret ty) := by
  intro lv st M o h
  unfold dm_ret at h
  split at h
  · rename_i v
    split at h
    · rename_i e1
      cases h
      intro p l e R s m args below meth c D ca b zb n0 s0 hC H locs ls hH hS hl
      obtain ⟨hx, hb, hml, hown, hts, hr, hlk, hin, hK, hsz, hf, hlo, hsc⟩ := hC
      have hn : narrow ty (.int v) = .int v := by
        cases ty <;> first | (cases e1; done) | rfl | skip
        have h2 : v = 0 ∨ v = 1 := by simpa [dm_rfit] using e1
        rcases h2 with rfl | rfl <;> decide
      exact W.zret (v := v) hx hb hr hn (fun t ht hW => ⟨rfl, by rw [ht]; exact hH, hS.F ht⟩) hS.2.2 hd
    · cases h
  · cases h
def dm_lret : dm_Sem := fun _ st _ => match st with
  | [.long v] => some (.inr (.inr (some (.long v))))
  | _ => none
theorem dg_lret {tb : Nat → dm_Me} {own : String} {cc : ByteArray} {nL : Nat} {isI : Bool} {sc : Option (Nat × (Nat → Int32))} {pc : Nat} (hd : decode cc pc = .ok (.lreturn, 1)) : dm_Good tb own cc nL (some .long) isI sc pc dm_lret := by
  intro lv st M o h
  unfold dm_lret at h
  split at h
  · rename_i v
    cases h
    intro p l e R s m args below meth c D ca b zb n0 s0 hC H locs ls hH hS hl
    obtain ⟨hx, hb, hml, hown, hts, hr, hlk, hin, hK, hsz, hf, hlo, hsc⟩ := hC
    exact W.lret (v := v) hx hb hr (fun t ht hW => ⟨rfl, by rw [ht]; exact hH, hS.F ht⟩) hS.2.2 hd
  · cases h
def dm_vret : dm_Sem := fun _ st _ => match st with
  | [] => some (.inr (.inr none))
  | _ => none
theorem dg_vret {tb : Nat → dm_Me} {own : String} {cc : ByteArray} {nL : Nat} {isI : Bool} {sc : Option (Nat × (Nat → Int32))} {pc : Nat} (hd : decode cc pc = .ok (.return_, 1)) : dm_Good tb own cc nL none isI sc pc dm_vret := by
  intro lv st M o h
  unfold dm_vret at h
  split at h
  · cases h
    intro p l e R s m args below meth c D ca b zb n0 s0 hC H locs ls hH hS hl
    obtain ⟨hx, hb, hml, hown, hts, hr, hlk, hin, hK, hsz, hf, hlo, hsc⟩ := hC
    exact W.vret hx hb hr (fun t ht hW => ⟨rfl, by rw [ht]; exact hH, hS.F ht⟩) hS.2.2 hd
  · cases h
def dm_aret : dm_Sem := fun _ st _ => match st with
  | [.ref v] => some (.inr (.inr (some (.ref v))))
  | _ => none
theorem dg_aret {tb : Nat → dm_Me} {own : String} {cc : ByteArray} {nL : Nat} {isI : Bool} {sc : Option (Nat × (Nat → Int32))} {pc : Nat} {ty : FieldType} (hd : decode cc pc = .ok (.areturn, 1)) : dm_Good tb own cc nL (some (.array ty)) isI sc pc dm_aret := by
  intro lv st M o h
  unfold dm_aret at h
  split at h
  · rename_i v
    cases h
    intro p l e R s m args below meth c D ca b zb n0 s0 hC H locs ls hH hS hl
    obtain ⟨hx, hb, hml, hown, hts, hr, hlk, hin, hK, hsz, hf, hlo, hsc⟩ := hC
    exact W.aret (v := .ref (b + v)) hx hb hr (Or.inr ⟨_, rfl⟩) (Or.inr ⟨_, rfl⟩) (fun t ht hW => ⟨rfl, by rw [ht]; exact hH, hS.F ht⟩) hS.2.2 hd
  · cases h
-- ===== the law's script =====
def dm_sld (n L : Nat) (xs : Nat → Int32) : dm_Sem := fun lv st M => match st with
  | .int i :: .float _ :: r => if i < 0 ∨ L ≤ i.toNatClampNeg then none else some (.inl ((n, lv, .int (xs i.toNatClampNeg) :: r), M))
  | _ => none
def dm_sln (n L : Nat) : dm_Sem := fun lv st M => match st with
  | .float _ :: r => some (.inl ((n, lv, .int (Int32.ofNat L) :: r), M))
  | _ => none
theorem dm_pureS {own : String} {cc : ByteArray} {nL : Nat} {ret : Option FieldType} {isI : Bool} {sc : Option (Nat × (Nat → Int32))} {pc : Nat} {lv : dm_Lv} {st : List Value} {M : dm_Mem} {g : dm_Fr}
    (h : ∀ (p : Program) (l : Launch) (e : Env) (R : Room) (s : State) (m : MethodId) (args : Array Value) (below : List Frame) (meth : Method) (c : Code) (D : va_G) (ca : FieldType → ClassId) (b zb n0 : Nat) (Q : State → Prop) (H : Heap) (locs : List Loc) (ls : Array Slot) (cells slots : Nat),
      dm_Cx own cc nL ret isI sc p R s m args meth c D ca b zb n0 → va_S (fun q => b ≤ q) s.heap H locs → lv_has ls nL (dm_lv b zb lv) →
      (∀ ls' : Array Slot, lv_has ls' nL (dm_lv b zb g.2.1) → W p l e R s m args below meth c H locs cells slots Q (F0 m g.1 ls' (g.2.2.map (dm_v b zb)))) → W p l e R s m args below meth c H locs cells slots Q (F0 m pc ls (st.map (dm_v b zb)))) :
    dm_Nx own cc nL ret isI sc pc lv st M g M := by
  refine ⟨⟨Nat.le_refl _, Nat.le_refl _⟩, ?_⟩
  intro p l e R s m args below meth c D ca b zb n0 s0 Q hC _ _ h1 h2 hk H locs ls hH hS hl
  exact h p l e R s m args below meth c D ca b zb n0 Q H locs ls _ _ hC hS hl (fun ls' hl' => hk H locs ls' hH hS hl')
theorem dg_sld {tb : Nat → dm_Me} {own : String} {cc : ByteArray} {nL : Nat} {ret : Option FieldType} {isI : Bool} {pc L : Nat} {xs : Nat → Int32} (hd : decode cc pc = .ok (.iaload, 1)) : dm_Good tb own cc nL ret isI (some (L, xs)) pc (dm_sld (pc + 1) L xs) := by
  intro lv st M o h
  unfold dm_sld at h
  split at h
  · rename_i i z r
    split at h
    · cases h
    · rename_i hc
      cases h
      refine dm_pureS (fun p l e R s m args below meth c D ca b zb n0 Q H locs ls cells slots hC hS hl hk => ?_)
      obtain ⟨hx, hb, hml, hown, hts, hr, hlk, hin, hK, hsz, hf, hlo, hsc⟩ := hC
      obtain ⟨x1, x2, x3⟩ := hsc L xs rfl
      exact va_sld hx hb x1 x2 (Nat.not_le.mpr x3) hS hc hd (hk ls hl)
  · cases h
theorem dg_sln {tb : Nat → dm_Me} {own : String} {cc : ByteArray} {nL : Nat} {ret : Option FieldType} {isI : Bool} {pc L : Nat} {xs : Nat → Int32} (hd : decode cc pc = .ok (.arraylength, 1)) : dm_Good tb own cc nL ret isI (some (L, xs)) pc (dm_sln (pc + 1) L) := by
  intro lv st M o h
  unfold dm_sln at h
  split at h
  · cases h
    refine dm_pureS (fun p l e R s m args below meth c D ca b zb n0 Q H locs ls cells slots hC hS hl hk => ?_)
    obtain ⟨hx, hb, hml, hown, hts, hr, hlk, hin, hK, hsz, hf, hlo, hsc⟩ := hC
    obtain ⟨x1, x2, x3⟩ := hsc L xs rfl
    exact va_slen hx hb x1 x2 (Nat.not_le.mpr x3) hS hd (hk ls hl)
  · cases h
end
section
/-! runs of our machine, and that the JVM does the same -/
def dm_no : dm_Sem := fun _ _ _ => none
theorem dg_no {tb : Nat → dm_Me} {own : String} {cc : ByteArray} {nL : Nat} {ret : Option FieldType} {isI : Bool} {sc : Option (Nat × (Nat → Int32))} {pc : Nat} : dm_Good tb own cc nL ret isI sc pc dm_no := fun _ _ _ _ h => by cases h
abbrev dm_Code : Type := List (List dm_Sem)
def dm_fetch (t : dm_Code) (pc : Nat) : Option dm_Sem := match t[pc / 16]? with
  | some r => r[pc % 16]?
  | none => none
abbrev dm_K : Type := Nat → List Value → dm_Mem → Option (Option Value × dm_Mem)
def dm_step (K : dm_K) (t : dm_Code) (ih : dm_Fr → dm_Mem → Option (Option Value × dm_Mem)) (g : dm_Fr) (M : dm_Mem) : Option (Option Value × dm_Mem) := match dm_fetch t g.1 with
  | none => none
  | some f => match f g.2.1 g.2.2 M with
    | none => none
    | some (.inl q) => ih q.1 q.2
    | some (.inr (.inl q)) => (match K q.1 q.2.1 M with
      | none => none
      | some r => ih (q.2.2.1, q.2.2.2.1, r.1.toList ++ q.2.2.2.2) r.2)
    | some (.inr (.inr v)) => some (v, M)
noncomputable def dm_run (K : dm_K) (t : dm_Code) (n : Nat) : dm_Fr → dm_Mem → Option (Option Value × dm_Mem) := Nat.rec (fun _ _ => none) (fun _ ih => dm_step K t ih) n
noncomputable def dm_ex (tb : Nat → dm_Me) (cd : Nat → dm_Code) (N d : Nat) : dm_K := Nat.rec (fun _ _ _ => none) (fun _ ih mi as M => if (lg_sl as).length ≤ (tb mi).2.2.1 then dm_run ih (cd mi) N (0, lv_args 0 as, []) M else none) d
theorem dm_run_succ (K : dm_K) (t : dm_Code) (n : Nat) (g : dm_Fr) (M : dm_Mem) : dm_run K t (n + 1) g M = dm_step K t (dm_run K t n) g M := rfl
theorem dm_ex_succ (tb : Nat → dm_Me) (cd : Nat → dm_Code) (N d mi : Nat) (as : List Value) (M : dm_Mem) : dm_ex tb cd N (d + 1) mi as M = if (lg_sl as).length ≤ (tb mi).2.2.1 then dm_run (dm_ex tb cd N d) (cd mi) N (0, lv_args 0 as, []) M else none := rfl
/-- a step, by its kinds -/
theorem dm_step_cases {K : dm_K} {t : dm_Code} {ih : dm_Fr → dm_Mem → Option (Option Value × dm_Mem)} {g : dm_Fr} {M : dm_Mem} {o : Option Value × dm_Mem} (h : dm_step K t ih g M = some o) :
    ∃ f, dm_fetch t g.1 = some f ∧ ((∃ g' M', f g.2.1 g.2.2 M = some (.inl (g', M')) ∧ ih g' M' = some o) ∨ (∃ mi as g' r M', f g.2.1 g.2.2 M = some (.inr (.inl (mi, as, g'))) ∧ K mi as M = some (r, M') ∧ ih (g'.1, g'.2.1, r.toList ++ g'.2.2) M' = some o) ∨ (∃ v, f g.2.1 g.2.2 M = some (.inr (.inr v)) ∧ o = (v, M))) := by
  unfold dm_step at h
  split at h
  · cases h
  · rename_i f e1
    refine ⟨f, e1, ?_⟩
    split at h
    · cases h
    · rename_i q e2
      exact Or.inl ⟨q.1, q.2, e2, h⟩
    · rename_i q e2
      split at h
      · cases h
      · rename_i r e3
        exact Or.inr (Or.inl ⟨q.1, q.2.1, q.2.2, r.1, r.2, e2, e3, h⟩)
    · rename_i v e2
      exact Or.inr (Or.inr ⟨v, e2, (Option.some.inj h).symm⟩)
theorem dm_run_le {K : dm_K} {t : dm_Code} {tb : Nat → dm_Me} {l : Launch} {d : Nat} {own : String} {cc : ByteArray} {nL : Nat} {ret : Option FieldType} {isI : Bool} {sc : Option (Nat × (Nat → Int32))} (hK : ∀ mj as M r M', K mj as M = some (r, M') → dm_Met tb l d mj as M r M') (hG : ∀ pc f, dm_fetch t pc = some f → dm_Good tb own cc nL ret isI sc pc f) :
    ∀ (n : Nat) (g : dm_Fr) (M : dm_Mem) (r : Option Value) (M' : dm_Mem), dm_run K t n g M = some (r, M') → M.length ≤ M'.length ∧ dm_slots M ≤ dm_slots M' := by
  intro n
  induction n with
  | zero => intro g M r M' h; cases h
  | succ n ih =>
    intro g M r M' h
    rw [dm_run_succ] at h
    obtain ⟨f, e1, h | h | h⟩ := dm_step_cases h
    · obtain ⟨g', M1, e2, e3⟩ := h
      have a1 := (hG _ _ e1 _ _ _ _ e2).1
      have a2 := ih _ _ _ _ e3
      exact ⟨Nat.le_trans a1.1 a2.1, Nat.le_trans a1.2 a2.2⟩
    · obtain ⟨mi, as, g', r', M1, e2, e3, e4⟩ := h
      have a1 := (hK _ _ _ _ _ e3).1
      have a2 := ih _ _ _ _ e4
      exact ⟨Nat.le_trans a1.1 a2.1, Nat.le_trans a1.2 a2.2⟩
    · obtain ⟨v, e2, e3⟩ := h
      cases e3
      exact ⟨Nat.le_refl _, Nat.le_refl _⟩
/-- from where our run goes through, the JVM's does -/
theorem dm_run_at {K : dm_K} {t : dm_Code} {tb : Nat → dm_Me} {l : Launch} {d : Nat} {own : String} {cc : ByteArray} {nL : Nat} {ret : Option FieldType} {isI : Bool} {sc : Option (Nat × (Nat → Int32))} (hK : ∀ mj as M r M', K mj as M = some (r, M') → dm_Met tb l d mj as M r M') (hG : ∀ pc f, dm_fetch t pc = some f → dm_Good tb own cc nL ret isI sc pc f)
    {p : Program} {e : Env} {R : Room} {s : State} {m : MethodId} {args : Array Value} {below : List Frame} {meth : Method} {c : Code} {D : va_G} {ca : FieldType → ClassId} {b zb n0 s0 : Nat} {Q : State → Prop} (hC : dm_Cx own cc nL ret isI sc p R s m args meth c D ca b zb n0) (hfr : d + 1 ≤ R.frames) (hlo : 64 * d + 64 ≤ R.locals) {r : Option Value} {M' : dm_Mem} (hc1 : M'.length - n0 ≤ R.cells) (hc2 : dm_slots M' - s0 ≤ R.slots)
    (hQ : ∀ pc lv st f, dm_fetch t pc = some f → f lv st M' = some (.inr (.inr r)) → dm_At p l e R s m args below meth c D ca b zb n0 s0 nL Q M' (pc, lv, st)) :
    ∀ (n : Nat) (g : dm_Fr) (M : dm_Mem), n0 ≤ M.length → s0 ≤ dm_slots M → dm_run K t n g M = some (r, M') → dm_At p l e R s m args below meth c D ca b zb n0 s0 nL Q M g := by
  intro n
  induction n with
  | zero => intro g M _ _ h; cases h
  | succ n ih =>
    intro g M hn hs h
    rw [dm_run_succ] at h
    obtain ⟨pc, lv, st⟩ := g
    obtain ⟨f, e1, h | h | h⟩ := dm_step_cases h
    · obtain ⟨g', M1, e2, e3⟩ := h
      have a1 := hG _ _ e1 _ _ _ _ e2
      have a2 := dm_run_le hK hG _ _ _ _ _ e3
      exact a1.2 p l e R s m args below meth c D ca b zb n0 s0 Q hC hn hs (by show M1.length - n0 ≤ _; omega) (by show dm_slots M1 - s0 ≤ _; omega) (ih g' M1 (Nat.le_trans hn a1.1.1) (Nat.le_trans hs a1.1.2) e3)
    · obtain ⟨mi, as, g', r', M1, e2, e3, e4⟩ := h
      have a1 := hG _ _ e1 _ _ _ _ e2
      have a3 := hK _ _ _ _ _ e3
      have a2 := dm_run_le hK hG _ _ _ _ _ e4
      exact a1 p l e R s m args below meth c D ca b zb n0 s0 Q d r' M1 hC hn hs (by omega) (by omega) hfr hlo a3 (ih _ M1 (Nat.le_trans hn a3.1.1) (Nat.le_trans hs a3.1.2) e4)
    · obtain ⟨v, e2, e3⟩ := h
      cases e3
      exact hQ _ _ _ f e1 e2
/-- a method of the table: its words stand in the tables, its steps are the JVM's -/
def dm_Tok (tb : Nat → dm_Me) (cd : Nat → dm_Code) (mi : Nat) : Prop := cd mi = [] ∨ (dm_Mok tb mi ∧ ((tb mi).2.2.2.2 = true → (tb mi).1.name = "<init>") ∧ ∀ pc f, dm_fetch (cd mi) pc = some f → dm_Good tb (tb mi).1.cls (tb mi).2.1 (tb mi).2.2.1 (tb mi).2.2.2.1 (tb mi).2.2.2.2 none pc f)
theorem dm_sound {tb : Nat → dm_Me} {cd : Nat → dm_Code} (hT : ∀ mi, dm_Tok tb cd mi) (l : Launch) (N : Nat) : ∀ (d mi : Nat) (as : List Value) (M : dm_Mem) (r : Option Value) (M' : dm_Mem), dm_ex tb cd N d mi as M = some (r, M') → dm_Met tb l d mi as M r M' := by
  intro d
  induction d with
  | zero => intro mi as M r M' h; cases h
  | succ d ih =>
    intro mi as M r M' h
    rw [dm_ex_succ] at h
    split at h
    · rename_i hlen
      rcases hT mi with h0 | ⟨hok, hin, hG⟩
      · rw [h0] at h
        cases N with
        | zero => cases h
        | succ N => rw [dm_run_succ] at h; cases h
      · have hle := dm_run_le (fun mj as M r M' h => ih mj as M r M' h) hG _ _ _ _ _ h
        refine ⟨hle, fun D ca b zb => ?_⟩
        refine Met.ofW (cc := (tb mi).2.1) (maxL := (tb mi).2.2.1) (ret := (tb mi).2.2.2.1) hok.2.2.2.2 rfl ?_
        intro p e s m args below meth c s₁ B hml hv
        obtain ⟨rfl, hH, hKs⟩ := hv
        have hts0 := atoms_spec (ws := dm_wo (tb mi)) B.pre
        have hC : dm_Cx (tb mi).1.cls (tb mi).2.1 (tb mi).2.2.1 (tb mi).2.2.2.1 (tb mi).2.2.2.2 none p (headSpec (dm_wo (tb mi)) { frames := d + 1, cells := M'.length - M.length, slots := dm_slots M' - dm_slots M, locals := 64 * (d + 1) }).room s m (as.map (dm_v b zb)).toArray meth c D ca b zb M.length :=
          ⟨B.exec, B.bytes, hml, findClass_of_methodNamed B.named, fun w hw => hts0 w (List.mem_cons_of_mem _ hw), B.returns, B.notSynchronized, fun hi => by
            rw [(name_of_methodNamed B.named B.method).1]; exact hin hi, hKs, hH.1, by show 1 ≤ d + 1; omega, by show 64 ≤ 64 * (d + 1); omega, fun _ _ h => by cases h⟩
        have hat := dm_run_at (s0 := dm_slots M) (e := e) (below := below) (Q := MQ below (dm_Qc D ca b zb r M') (as.map (dm_v b zb)).toArray s (M'.length - M.length) (dm_slots M' - dm_slots M) (fun q => b ≤ q)) (fun mj as M r M' h => ih mj as M r M' h) hG hC (by show d + 1 ≤ d + 1; omega) (by show 64 * d + 64 ≤ 64 * (d + 1); omega) (Nat.le_refl _) (Nat.le_refl _)
          (fun pc lv st f e1 e2 => (hG pc f e1 lv st M' _ e2) p l e _ s m _ below meth c D ca b zb M.length (dm_slots M) hC) N (0, lv_args 0 as, []) M (Nat.le_refl _) (Nat.le_refl _) h
        have hl := lv_entry (as.map (dm_v b zb)) (n := (tb mi).2.2.1) (by rw [dm_lg_sl]; exact hlen)
        rw [dm_lv_args] at hl
        rw [lg_entry_eq]
        have h9 := hat s.heap [] _ hH va_S.rf hl
        rw [Nat.sub_self, Nat.sub_self] at h9
        exact h9
    · cases h
end
