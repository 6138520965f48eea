section
-- ===== PART A: goes FIRST, ahead of the names: the tables' words, and 'selects' of the private methods out of them =====
/-- a private method of a class that the tables say can be made, by its rows of tables_1 -/
def lw_okq (q : MethodName × Nat) : Prop := (q.1.cls ≠ "java/lang/invoke/MethodHandle" ∧ q.1.cls ≠ "java/lang/invoke/VarHandle") ∧ Cond.instantiable q.1.cls q.2 ∈ tables_1 ∧ Cond.privateMethod q.1 ∈ tables_1 ∧ Cond.instanceMethod q.1 ∈ tables_1
theorem lw_p0 : lw_okq (⟨"SplitClocks", "plant", "()V"⟩, 11) := ⟨⟨by decide +kernel, by decide +kernel⟩, List.mem_of_getElem? (i := 22) (by decide +kernel), List.mem_of_getElem? (i := 177) (by decide +kernel), List.mem_of_getElem? (i := 178) (by decide +kernel)⟩
theorem lw_p1 : lw_okq (⟨"SplitClocks$Numbers", "widen", "(I)V"⟩, 2) := ⟨⟨by decide +kernel, by decide +kernel⟩, List.mem_of_getElem? (i := 42) (by decide +kernel), List.mem_of_getElem? (i := 197) (by decide +kernel), List.mem_of_getElem? (i := 198) (by decide +kernel)⟩
theorem lw_p2 : lw_okq (⟨"SplitClocks", "settle", "(IIII)Z"⟩, 11) := ⟨⟨by decide +kernel, by decide +kernel⟩, List.mem_of_getElem? (i := 22) (by decide +kernel), List.mem_of_getElem? (i := 369) (by decide +kernel), List.mem_of_getElem? (i := 370) (by decide +kernel)⟩
theorem lw_p3 : lw_okq (⟨"SplitClocks", "makeEvent", "(I)I"⟩, 11) := ⟨⟨by decide +kernel, by decide +kernel⟩, List.mem_of_getElem? (i := 22) (by decide +kernel), List.mem_of_getElem? (i := 399) (by decide +kernel), List.mem_of_getElem? (i := 400) (by decide +kernel)⟩
theorem lw_p4 : lw_okq (⟨"SplitClocks", "canMelt", "(II)Z"⟩, 11) := ⟨⟨by decide +kernel, by decide +kernel⟩, List.mem_of_getElem? (i := 22) (by decide +kernel), List.mem_of_getElem? (i := 448) (by decide +kernel), List.mem_of_getElem? (i := 449) (by decide +kernel)⟩
theorem lw_p5 : lw_okq (⟨"SplitClocks", "makeJoin", "(III)I"⟩, 11) := ⟨⟨by decide +kernel, by decide +kernel⟩, List.mem_of_getElem? (i := 22) (by decide +kernel), List.mem_of_getElem? (i := 453) (by decide +kernel), List.mem_of_getElem? (i := 454) (by decide +kernel)⟩
theorem lw_p6 : lw_okq (⟨"SplitClocks", "makePeek", "(I)I"⟩, 11) := ⟨⟨by decide +kernel, by decide +kernel⟩, List.mem_of_getElem? (i := 22) (by decide +kernel), List.mem_of_getElem? (i := 467) (by decide +kernel), List.mem_of_getElem? (i := 468) (by decide +kernel)⟩
theorem lw_p7 : lw_okq (⟨"SplitClocks", "leads", "(II)Z"⟩, 11) := ⟨⟨by decide +kernel, by decide +kernel⟩, List.mem_of_getElem? (i := 22) (by decide +kernel), List.mem_of_getElem? (i := 492) (by decide +kernel), List.mem_of_getElem? (i := 493) (by decide +kernel)⟩
theorem lw_p8 : lw_okq (⟨"SplitClocks", "draftOf", "(I)I"⟩, 11) := ⟨⟨by decide +kernel, by decide +kernel⟩, List.mem_of_getElem? (i := 22) (by decide +kernel), List.mem_of_getElem? (i := 570) (by decide +kernel), List.mem_of_getElem? (i := 571) (by decide +kernel)⟩
theorem lw_p9 : lw_okq (⟨"SplitClocks", "isAboveAt", "(IIJI)Z"⟩, 11) := ⟨⟨by decide +kernel, by decide +kernel⟩, List.mem_of_getElem? (i := 22) (by decide +kernel), List.mem_of_getElem? (i := 633) (by decide +kernel), List.mem_of_getElem? (i := 634) (by decide +kernel)⟩
theorem lw_p10 : lw_okq (⟨"SplitClocks$Reader", "blame", "(I)V"⟩, 3) := ⟨⟨by decide +kernel, by decide +kernel⟩, List.mem_of_getElem? (i := 161) (by decide +kernel), List.mem_of_getElem? (i := 684) (by decide +kernel), List.mem_of_getElem? (i := 685) (by decide +kernel)⟩
theorem lw_p11 : lw_okq (⟨"SplitClocks$Reader", "isFaulty", "()Z"⟩, 3) := ⟨⟨by decide +kernel, by decide +kernel⟩, List.mem_of_getElem? (i := 161) (by decide +kernel), List.mem_of_getElem? (i := 688) (by decide +kernel), List.mem_of_getElem? (i := 689) (by decide +kernel)⟩
theorem lw_p12 : lw_okq (⟨"SplitClocks$Reader", "twoBits", "()I"⟩, 3) := ⟨⟨by decide +kernel, by decide +kernel⟩, List.mem_of_getElem? (i := 161) (by decide +kernel), List.mem_of_getElem? (i := 692) (by decide +kernel), List.mem_of_getElem? (i := 693) (by decide +kernel)⟩
theorem lw_p13 : lw_okq (⟨"SplitClocks$Reader", "oneBit", "()I"⟩, 3) := ⟨⟨by decide +kernel, by decide +kernel⟩, List.mem_of_getElem? (i := 161) (by decide +kernel), List.mem_of_getElem? (i := 696) (by decide +kernel), List.mem_of_getElem? (i := 697) (by decide +kernel)⟩
theorem lw_p14 : lw_okq (⟨"SplitClocks$Reader", "numberHere", "()I"⟩, 3) := ⟨⟨by decide +kernel, by decide +kernel⟩, List.mem_of_getElem? (i := 161) (by decide +kernel), List.mem_of_getElem? (i := 705) (by decide +kernel), List.mem_of_getElem? (i := 706) (by decide +kernel)⟩
theorem lw_p15 : lw_okq (⟨"java/lang/Throwable", "fillInStackTrace", "(I)Ljava/lang/Throwable;"⟩, 6) := ⟨⟨by decide +kernel, by decide +kernel⟩, List.mem_of_getElem? (i := 813) (by decide +kernel), List.mem_of_getElem? (i := 811) (by decide +kernel), List.mem_of_getElem? (i := 812) (by decide +kernel)⟩
def lw_privs_1 : List (MethodName × Nat) := [(⟨"SplitClocks", "plant", "()V"⟩, 11), (⟨"SplitClocks$Numbers", "widen", "(I)V"⟩, 2), (⟨"SplitClocks", "settle", "(IIII)Z"⟩, 11), (⟨"SplitClocks", "makeEvent", "(I)I"⟩, 11), (⟨"SplitClocks", "canMelt", "(II)Z"⟩, 11), (⟨"SplitClocks", "makeJoin", "(III)I"⟩, 11), (⟨"SplitClocks", "makePeek", "(I)I"⟩, 11), (⟨"SplitClocks", "leads", "(II)Z"⟩, 11), (⟨"SplitClocks", "draftOf", "(I)I"⟩, 11), (⟨"SplitClocks", "isAboveAt", "(IIJI)Z"⟩, 11), (⟨"SplitClocks$Reader", "blame", "(I)V"⟩, 3), (⟨"SplitClocks$Reader", "isFaulty", "()Z"⟩, 3), (⟨"SplitClocks$Reader", "twoBits", "()I"⟩, 3), (⟨"SplitClocks$Reader", "oneBit", "()I"⟩, 3), (⟨"SplitClocks$Reader", "numberHere", "()I"⟩, 3), (⟨"java/lang/Throwable", "fillInStackTrace", "(I)Ljava/lang/Throwable;"⟩, 6)]
theorem lw_r1 : ∀ q ∈ lw_privs_1, lw_okq q := List.forall_mem_cons.mpr ⟨lw_p0, List.forall_mem_cons.mpr ⟨lw_p1, List.forall_mem_cons.mpr ⟨lw_p2, List.forall_mem_cons.mpr ⟨lw_p3, List.forall_mem_cons.mpr ⟨lw_p4, List.forall_mem_cons.mpr ⟨lw_p5, List.forall_mem_cons.mpr ⟨lw_p6, List.forall_mem_cons.mpr ⟨lw_p7, List.forall_mem_cons.mpr ⟨lw_p8, List.forall_mem_cons.mpr ⟨lw_p9, List.forall_mem_cons.mpr ⟨lw_p10, List.forall_mem_cons.mpr ⟨lw_p11, List.forall_mem_cons.mpr ⟨lw_p12, List.forall_mem_cons.mpr ⟨lw_p13, List.forall_mem_cons.mpr ⟨lw_p14, List.forall_mem_cons.mpr ⟨lw_p15, fun _ h => absurd h List.not_mem_nil⟩⟩⟩⟩⟩⟩⟩⟩⟩⟩⟩⟩⟩⟩⟩⟩
theorem lw_p16 : lw_okq (⟨"SplitClocksModel", "make", "(III)I"⟩, 68) := ⟨⟨by decide +kernel, by decide +kernel⟩, List.mem_of_getElem? (i := 850) (by decide +kernel), List.mem_of_getElem? (i := 861) (by decide +kernel), List.mem_of_getElem? (i := 862) (by decide +kernel)⟩
theorem lw_p17 : lw_okq (⟨"SplitClocksModel", "shareNodes", "(JJ)I"⟩, 68) := ⟨⟨by decide +kernel, by decide +kernel⟩, List.mem_of_getElem? (i := 850) (by decide +kernel), List.mem_of_getElem? (i := 865) (by decide +kernel), List.mem_of_getElem? (i := 866) (by decide +kernel)⟩
theorem lw_p18 : lw_okq (⟨"SplitClocksModel", "part", "(JJ)I"⟩, 68) := ⟨⟨by decide +kernel, by decide +kernel⟩, List.mem_of_getElem? (i := 850) (by decide +kernel), List.mem_of_getElem? (i := 869) (by decide +kernel), List.mem_of_getElem? (i := 870) (by decide +kernel)⟩
theorem lw_p19 : lw_okq (⟨"SplitClocksModel", "heightNodes", "(JJ)I"⟩, 68) := ⟨⟨by decide +kernel, by decide +kernel⟩, List.mem_of_getElem? (i := 850) (by decide +kernel), List.mem_of_getElem? (i := 874) (by decide +kernel), List.mem_of_getElem? (i := 875) (by decide +kernel)⟩
theorem lw_p20 : lw_okq (⟨"SplitClocksModel", "isFlat", "(JJ)Z"⟩, 68) := ⟨⟨by decide +kernel, by decide +kernel⟩, List.mem_of_getElem? (i := 850) (by decide +kernel), List.mem_of_getElem? (i := 878) (by decide +kernel), List.mem_of_getElem? (i := 879) (by decide +kernel)⟩
theorem lw_p21 : lw_okq (⟨"SplitClocksModel", "at", "(J)I"⟩, 68) := ⟨⟨by decide +kernel, by decide +kernel⟩, List.mem_of_getElem? (i := 850) (by decide +kernel), List.mem_of_getElem? (i := 882) (by decide +kernel), List.mem_of_getElem? (i := 883) (by decide +kernel)⟩
theorem lw_p22 : lw_okq (⟨"SplitClocksModel", "behind", "(I)J"⟩, 68) := ⟨⟨by decide +kernel, by decide +kernel⟩, List.mem_of_getElem? (i := 850) (by decide +kernel), List.mem_of_getElem? (i := 886) (by decide +kernel), List.mem_of_getElem? (i := 887) (by decide +kernel)⟩
theorem lw_p23 : lw_okq (⟨"SplitClocksModel", "isAlive", "(I)Z"⟩, 68) := ⟨⟨by decide +kernel, by decide +kernel⟩, List.mem_of_getElem? (i := 850) (by decide +kernel), List.mem_of_getElem? (i := 1107) (by decide +kernel), List.mem_of_getElem? (i := 1108) (by decide +kernel)⟩
theorem lw_p24 : lw_okq (⟨"SplitClocksModel", "is", "(I)Z"⟩, 68) := ⟨⟨by decide +kernel, by decide +kernel⟩, List.mem_of_getElem? (i := 850) (by decide +kernel), List.mem_of_getElem? (i := 1111) (by decide +kernel), List.mem_of_getElem? (i := 1112) (by decide +kernel)⟩
theorem lw_p25 : lw_okq (⟨"SplitClocksModel", "owns", "(I)Z"⟩, 68) := ⟨⟨by decide +kernel, by decide +kernel⟩, List.mem_of_getElem? (i := 850) (by decide +kernel), List.mem_of_getElem? (i := 1115) (by decide +kernel), List.mem_of_getElem? (i := 1116) (by decide +kernel)⟩
theorem lw_p26 : lw_okq (⟨"SplitClocksModel", "takeOwn", "(I)V"⟩, 68) := ⟨⟨by decide +kernel, by decide +kernel⟩, List.mem_of_getElem? (i := 850) (by decide +kernel), List.mem_of_getElem? (i := 1119) (by decide +kernel), List.mem_of_getElem? (i := 1120) (by decide +kernel)⟩
theorem lw_p27 : lw_okq (⟨"SplitClocksModel", "cut", "(IJJ)V"⟩, 68) := ⟨⟨by decide +kernel, by decide +kernel⟩, List.mem_of_getElem? (i := 850) (by decide +kernel), List.mem_of_getElem? (i := 1123) (by decide +kernel), List.mem_of_getElem? (i := 1124) (by decide +kernel)⟩
theorem lw_p28 : lw_okq (⟨"SplitClocksModel", "hasRoom", "(II)Z"⟩, 68) := ⟨⟨by decide +kernel, by decide +kernel⟩, List.mem_of_getElem? (i := 850) (by decide +kernel), List.mem_of_getElem? (i := 1127) (by decide +kernel), List.mem_of_getElem? (i := 1128) (by decide +kernel)⟩
theorem lw_p29 : lw_okq (⟨"SplitClocksModel", "note", "(II)V"⟩, 68) := ⟨⟨by decide +kernel, by decide +kernel⟩, List.mem_of_getElem? (i := 850) (by decide +kernel), List.mem_of_getElem? (i := 1131) (by decide +kernel), List.mem_of_getElem? (i := 1132) (by decide +kernel)⟩
theorem lw_p30 : lw_okq (⟨"SplitClocksModel", "takeKnown", "(I)V"⟩, 68) := ⟨⟨by decide +kernel, by decide +kernel⟩, List.mem_of_getElem? (i := 850) (by decide +kernel), List.mem_of_getElem? (i := 1135) (by decide +kernel), List.mem_of_getElem? (i := 1136) (by decide +kernel)⟩
theorem lw_p31 : lw_okq (⟨"SplitClocksModel", "spend", "(I)V"⟩, 68) := ⟨⟨by decide +kernel, by decide +kernel⟩, List.mem_of_getElem? (i := 850) (by decide +kernel), List.mem_of_getElem? (i := 1139) (by decide +kernel), List.mem_of_getElem? (i := 1140) (by decide +kernel)⟩
def lw_privs_2 : List (MethodName × Nat) := [(⟨"SplitClocksModel", "make", "(III)I"⟩, 68), (⟨"SplitClocksModel", "shareNodes", "(JJ)I"⟩, 68), (⟨"SplitClocksModel", "part", "(JJ)I"⟩, 68), (⟨"SplitClocksModel", "heightNodes", "(JJ)I"⟩, 68), (⟨"SplitClocksModel", "isFlat", "(JJ)Z"⟩, 68), (⟨"SplitClocksModel", "at", "(J)I"⟩, 68), (⟨"SplitClocksModel", "behind", "(I)J"⟩, 68), (⟨"SplitClocksModel", "isAlive", "(I)Z"⟩, 68), (⟨"SplitClocksModel", "is", "(I)Z"⟩, 68), (⟨"SplitClocksModel", "owns", "(I)Z"⟩, 68), (⟨"SplitClocksModel", "takeOwn", "(I)V"⟩, 68), (⟨"SplitClocksModel", "cut", "(IJJ)V"⟩, 68), (⟨"SplitClocksModel", "hasRoom", "(II)Z"⟩, 68), (⟨"SplitClocksModel", "note", "(II)V"⟩, 68), (⟨"SplitClocksModel", "takeKnown", "(I)V"⟩, 68), (⟨"SplitClocksModel", "spend", "(I)V"⟩, 68)]
theorem lw_r2 : ∀ q ∈ lw_privs_2, lw_okq q := List.forall_mem_cons.mpr ⟨lw_p16, List.forall_mem_cons.mpr ⟨lw_p17, List.forall_mem_cons.mpr ⟨lw_p18, List.forall_mem_cons.mpr ⟨lw_p19, List.forall_mem_cons.mpr ⟨lw_p20, List.forall_mem_cons.mpr ⟨lw_p21, List.forall_mem_cons.mpr ⟨lw_p22, List.forall_mem_cons.mpr ⟨lw_p23, List.forall_mem_cons.mpr ⟨lw_p24, List.forall_mem_cons.mpr ⟨lw_p25, List.forall_mem_cons.mpr ⟨lw_p26, List.forall_mem_cons.mpr ⟨lw_p27, List.forall_mem_cons.mpr ⟨lw_p28, List.forall_mem_cons.mpr ⟨lw_p29, List.forall_mem_cons.mpr ⟨lw_p30, List.forall_mem_cons.mpr ⟨lw_p31, fun _ h => absurd h List.not_mem_nil⟩⟩⟩⟩⟩⟩⟩⟩⟩⟩⟩⟩⟩⟩⟩⟩
theorem lw_p32 : lw_okq (⟨"SplitClocksModel", "happen", "()V"⟩, 68) := ⟨⟨by decide +kernel, by decide +kernel⟩, List.mem_of_getElem? (i := 850) (by decide +kernel), List.mem_of_getElem? (i := 1147) (by decide +kernel), List.mem_of_getElem? (i := 1148) (by decide +kernel)⟩
theorem lw_p33 : lw_okq (⟨"SplitClocksModel", "fill", "(JJ)V"⟩, 68) := ⟨⟨by decide +kernel, by decide +kernel⟩, List.mem_of_getElem? (i := 850) (by decide +kernel), List.mem_of_getElem? (i := 1151) (by decide +kernel), List.mem_of_getElem? (i := 1152) (by decide +kernel)⟩
theorem lw_p34 : lw_okq (⟨"SplitClocksModel", "most", "(JJ)I"⟩, 68) := ⟨⟨by decide +kernel, by decide +kernel⟩, List.mem_of_getElem? (i := 850) (by decide +kernel), List.mem_of_getElem? (i := 1155) (by decide +kernel), List.mem_of_getElem? (i := 1156) (by decide +kernel)⟩
theorem lw_p35 : lw_okq (⟨"SplitClocksModel", "set", "(JJIZ)V"⟩, 68) := ⟨⟨by decide +kernel, by decide +kernel⟩, List.mem_of_getElem? (i := 850) (by decide +kernel), List.mem_of_getElem? (i := 1159) (by decide +kernel), List.mem_of_getElem? (i := 1160) (by decide +kernel)⟩
theorem lw_p36 : lw_okq (⟨"SplitClocksModel", "lay", "(IJI)I"⟩, 68) := ⟨⟨by decide +kernel, by decide +kernel⟩, List.mem_of_getElem? (i := 850) (by decide +kernel), List.mem_of_getElem? (i := 1163) (by decide +kernel), List.mem_of_getElem? (i := 1164) (by decide +kernel)⟩
theorem lw_p37 : lw_okq (⟨"SplitClocksModel", "become", "(I)V"⟩, 68) := ⟨⟨by decide +kernel, by decide +kernel⟩, List.mem_of_getElem? (i := 850) (by decide +kernel), List.mem_of_getElem? (i := 1167) (by decide +kernel), List.mem_of_getElem? (i := 1168) (by decide +kernel)⟩
theorem lw_p38 : lw_okq (⟨"SplitClocksModel", "least", "(JJ)I"⟩, 68) := ⟨⟨by decide +kernel, by decide +kernel⟩, List.mem_of_getElem? (i := 850) (by decide +kernel), List.mem_of_getElem? (i := 1171) (by decide +kernel), List.mem_of_getElem? (i := 1172) (by decide +kernel)⟩
theorem lw_p39 : lw_okq (⟨"SplitClocksModel", "grow", "(JJ)I"⟩, 68) := ⟨⟨by decide +kernel, by decide +kernel⟩, List.mem_of_getElem? (i := 850) (by decide +kernel), List.mem_of_getElem? (i := 1176) (by decide +kernel), List.mem_of_getElem? (i := 1177) (by decide +kernel)⟩
theorem lw_p40 : lw_okq (⟨"SplitClocksModel", "mark", "(I)V"⟩, 68) := ⟨⟨by decide +kernel, by decide +kernel⟩, List.mem_of_getElem? (i := 850) (by decide +kernel), List.mem_of_getElem? (i := 1180) (by decide +kernel), List.mem_of_getElem? (i := 1181) (by decide +kernel)⟩
theorem lw_p41 : lw_okq (⟨"SplitClocksModel", "joined", "(III)I"⟩, 68) := ⟨⟨by decide +kernel, by decide +kernel⟩, List.mem_of_getElem? (i := 850) (by decide +kernel), List.mem_of_getElem? (i := 1188) (by decide +kernel), List.mem_of_getElem? (i := 1189) (by decide +kernel)⟩
theorem lw_p42 : lw_okq (⟨"SplitClocksModel", "together", "(II)V"⟩, 68) := ⟨⟨by decide +kernel, by decide +kernel⟩, List.mem_of_getElem? (i := 850) (by decide +kernel), List.mem_of_getElem? (i := 1192) (by decide +kernel), List.mem_of_getElem? (i := 1193) (by decide +kernel)⟩
theorem lw_p43 : lw_okq (⟨"SplitClocksModel", "share", "(II)V"⟩, 68) := ⟨⟨by decide +kernel, by decide +kernel⟩, List.mem_of_getElem? (i := 850) (by decide +kernel), List.mem_of_getElem? (i := 1196) (by decide +kernel), List.mem_of_getElem? (i := 1197) (by decide +kernel)⟩
theorem lw_p44 : lw_okq (⟨"SplitClocksModel", "leads", "(II)Z"⟩, 68) := ⟨⟨by decide +kernel, by decide +kernel⟩, List.mem_of_getElem? (i := 850) (by decide +kernel), List.mem_of_getElem? (i := 1220) (by decide +kernel), List.mem_of_getElem? (i := 1221) (by decide +kernel)⟩
theorem lw_p45 : lw_okq (⟨"SplitClocksModel", "heightAt", "(IJ)I"⟩, 68) := ⟨⟨by decide +kernel, by decide +kernel⟩, List.mem_of_getElem? (i := 850) (by decide +kernel), List.mem_of_getElem? (i := 1254) (by decide +kernel), List.mem_of_getElem? (i := 1255) (by decide +kernel)⟩
theorem lw_p46 : lw_okq (⟨"SplitClocksModel", "written", "(Z)I"⟩, 68) := ⟨⟨by decide +kernel, by decide +kernel⟩, List.mem_of_getElem? (i := 850) (by decide +kernel), List.mem_of_getElem? (i := 1266) (by decide +kernel), List.mem_of_getElem? (i := 1267) (by decide +kernel)⟩
theorem lw_p47 : lw_okq (⟨"SplitClocksModel", "writeShare", "(JJ)V"⟩, 68) := ⟨⟨by decide +kernel, by decide +kernel⟩, List.mem_of_getElem? (i := 850) (by decide +kernel), List.mem_of_getElem? (i := 1270) (by decide +kernel), List.mem_of_getElem? (i := 1271) (by decide +kernel)⟩
def lw_privs_3 : List (MethodName × Nat) := [(⟨"SplitClocksModel", "happen", "()V"⟩, 68), (⟨"SplitClocksModel", "fill", "(JJ)V"⟩, 68), (⟨"SplitClocksModel", "most", "(JJ)I"⟩, 68), (⟨"SplitClocksModel", "set", "(JJIZ)V"⟩, 68), (⟨"SplitClocksModel", "lay", "(IJI)I"⟩, 68), (⟨"SplitClocksModel", "become", "(I)V"⟩, 68), (⟨"SplitClocksModel", "least", "(JJ)I"⟩, 68), (⟨"SplitClocksModel", "grow", "(JJ)I"⟩, 68), (⟨"SplitClocksModel", "mark", "(I)V"⟩, 68), (⟨"SplitClocksModel", "joined", "(III)I"⟩, 68), (⟨"SplitClocksModel", "together", "(II)V"⟩, 68), (⟨"SplitClocksModel", "share", "(II)V"⟩, 68), (⟨"SplitClocksModel", "leads", "(II)Z"⟩, 68), (⟨"SplitClocksModel", "heightAt", "(IJ)I"⟩, 68), (⟨"SplitClocksModel", "written", "(Z)I"⟩, 68), (⟨"SplitClocksModel", "writeShare", "(JJ)V"⟩, 68)]
theorem lw_r3 : ∀ q ∈ lw_privs_3, lw_okq q := List.forall_mem_cons.mpr ⟨lw_p32, List.forall_mem_cons.mpr ⟨lw_p33, List.forall_mem_cons.mpr ⟨lw_p34, List.forall_mem_cons.mpr ⟨lw_p35, List.forall_mem_cons.mpr ⟨lw_p36, List.forall_mem_cons.mpr ⟨lw_p37, List.forall_mem_cons.mpr ⟨lw_p38, List.forall_mem_cons.mpr ⟨lw_p39, List.forall_mem_cons.mpr ⟨lw_p40, List.forall_mem_cons.mpr ⟨lw_p41, List.forall_mem_cons.mpr ⟨lw_p42, List.forall_mem_cons.mpr ⟨lw_p43, List.forall_mem_cons.mpr ⟨lw_p44, List.forall_mem_cons.mpr ⟨lw_p45, List.forall_mem_cons.mpr ⟨lw_p46, List.forall_mem_cons.mpr ⟨lw_p47, fun _ h => absurd h List.not_mem_nil⟩⟩⟩⟩⟩⟩⟩⟩⟩⟩⟩⟩⟩⟩⟩⟩
theorem lw_p48 : lw_okq (⟨"SplitClocksModel", "bit", "(Z)V"⟩, 68) := ⟨⟨by decide +kernel, by decide +kernel⟩, List.mem_of_getElem? (i := 850) (by decide +kernel), List.mem_of_getElem? (i := 1274) (by decide +kernel), List.mem_of_getElem? (i := 1275) (by decide +kernel)⟩
theorem lw_p49 : lw_okq (⟨"SplitClocksModel", "writeHeight", "(JJI)V"⟩, 68) := ⟨⟨by decide +kernel, by decide +kernel⟩, List.mem_of_getElem? (i := 850) (by decide +kernel), List.mem_of_getElem? (i := 1278) (by decide +kernel), List.mem_of_getElem? (i := 1279) (by decide +kernel)⟩
theorem lw_p50 : lw_okq (⟨"SplitClocksModel", "number", "(I)V"⟩, 68) := ⟨⟨by decide +kernel, by decide +kernel⟩, List.mem_of_getElem? (i := 850) (by decide +kernel), List.mem_of_getElem? (i := 1282) (by decide +kernel), List.mem_of_getElem? (i := 1283) (by decide +kernel)⟩
theorem lw_p51 : lw_okq (⟨"SplitClocksModel", "history", "(I)I"⟩, 68) := ⟨⟨by decide +kernel, by decide +kernel⟩, List.mem_of_getElem? (i := 850) (by decide +kernel), List.mem_of_getElem? (i := 1287) (by decide +kernel), List.mem_of_getElem? (i := 1288) (by decide +kernel)⟩
theorem lw_p52 : lw_okq (⟨"SplitClocksModel", "turn", "(IIJZ)J"⟩, 68) := ⟨⟨by decide +kernel, by decide +kernel⟩, List.mem_of_getElem? (i := 850) (by decide +kernel), List.mem_of_getElem? (i := 1295) (by decide +kernel), List.mem_of_getElem? (i := 1296) (by decide +kernel)⟩
theorem lw_p53 : lw_okq (⟨"SplitClocksModel", "readShare", "(I)I"⟩, 68) := ⟨⟨by decide +kernel, by decide +kernel⟩, List.mem_of_getElem? (i := 850) (by decide +kernel), List.mem_of_getElem? (i := 1331) (by decide +kernel), List.mem_of_getElem? (i := 1332) (by decide +kernel)⟩
theorem lw_p54 : lw_okq (⟨"SplitClocksModel", "fails", "(I)V"⟩, 68) := ⟨⟨by decide +kernel, by decide +kernel⟩, List.mem_of_getElem? (i := 850) (by decide +kernel), List.mem_of_getElem? (i := 1335) (by decide +kernel), List.mem_of_getElem? (i := 1336) (by decide +kernel)⟩
theorem lw_p55 : lw_okq (⟨"SplitClocksModel", "next", "()I"⟩, 68) := ⟨⟨by decide +kernel, by decide +kernel⟩, List.mem_of_getElem? (i := 850) (by decide +kernel), List.mem_of_getElem? (i := 1339) (by decide +kernel), List.mem_of_getElem? (i := 1340) (by decide +kernel)⟩
theorem lw_p56 : lw_okq (⟨"SplitClocksModel", "readHeight", "(IJI)I"⟩, 68) := ⟨⟨by decide +kernel, by decide +kernel⟩, List.mem_of_getElem? (i := 850) (by decide +kernel), List.mem_of_getElem? (i := 1343) (by decide +kernel), List.mem_of_getElem? (i := 1344) (by decide +kernel)⟩
theorem lw_p57 : lw_okq (⟨"SplitClocksModel", "readNumber", "()I"⟩, 68) := ⟨⟨by decide +kernel, by decide +kernel⟩, List.mem_of_getElem? (i := 850) (by decide +kernel), List.mem_of_getElem? (i := 1347) (by decide +kernel), List.mem_of_getElem? (i := 1348) (by decide +kernel)⟩
theorem lw_p58 : lw_okq (⟨"SplitClocksModel", "step", "(JI)I"⟩, 68) := ⟨⟨by decide +kernel, by decide +kernel⟩, List.mem_of_getElem? (i := 850) (by decide +kernel), List.mem_of_getElem? (i := 1351) (by decide +kernel), List.mem_of_getElem? (i := 1352) (by decide +kernel)⟩
def lw_privs_4 : List (MethodName × Nat) := [(⟨"SplitClocksModel", "bit", "(Z)V"⟩, 68), (⟨"SplitClocksModel", "writeHeight", "(JJI)V"⟩, 68), (⟨"SplitClocksModel", "number", "(I)V"⟩, 68), (⟨"SplitClocksModel", "history", "(I)I"⟩, 68), (⟨"SplitClocksModel", "turn", "(IIJZ)J"⟩, 68), (⟨"SplitClocksModel", "readShare", "(I)I"⟩, 68), (⟨"SplitClocksModel", "fails", "(I)V"⟩, 68), (⟨"SplitClocksModel", "next", "()I"⟩, 68), (⟨"SplitClocksModel", "readHeight", "(IJI)I"⟩, 68), (⟨"SplitClocksModel", "readNumber", "()I"⟩, 68), (⟨"SplitClocksModel", "step", "(JI)I"⟩, 68)]
theorem lw_r4 : ∀ q ∈ lw_privs_4, lw_okq q := List.forall_mem_cons.mpr ⟨lw_p48, List.forall_mem_cons.mpr ⟨lw_p49, List.forall_mem_cons.mpr ⟨lw_p50, List.forall_mem_cons.mpr ⟨lw_p51, List.forall_mem_cons.mpr ⟨lw_p52, List.forall_mem_cons.mpr ⟨lw_p53, List.forall_mem_cons.mpr ⟨lw_p54, List.forall_mem_cons.mpr ⟨lw_p55, List.forall_mem_cons.mpr ⟨lw_p56, List.forall_mem_cons.mpr ⟨lw_p57, List.forall_mem_cons.mpr ⟨lw_p58, fun _ h => absurd h List.not_mem_nil⟩⟩⟩⟩⟩⟩⟩⟩⟩⟩⟩
def lw_privs : List (MethodName × Nat) := lw_privs_1 ++ (lw_privs_2 ++ (lw_privs_3 ++ (lw_privs_4)))
def lw_tbl : List Cond := k2_sels lw_privs ++ tables_1
theorem lw_privs_ok : ∀ q ∈ lw_privs, lw_okq q := by
  show ∀ q ∈ lw_privs_1 ++ (lw_privs_2 ++ (lw_privs_3 ++ (lw_privs_4))), lw_okq q
  exact List.forall_mem_append.mpr ⟨lw_r1, List.forall_mem_append.mpr ⟨lw_r2, List.forall_mem_append.mpr ⟨lw_r3, lw_r4⟩⟩⟩
-- ===== end of PART A; then your names; then what follows =====
def RX0 : String := "SplitClocks$Acts"
def TX0 : u_T := fun k => match k with
  | 0 => ("SplitClocks$Acts", "stamps", "LSplitClocks$Numbers;", true)
  | 1 => ("SplitClocks$Acts", "one", "LSplitClocks$Numbers;", true)
  | 2 => ("SplitClocks$Acts", "stateOfOne", "LSplitClocks$Numbers;", true)
  | 3 => ("SplitClocks$Acts", "other", "LSplitClocks$Numbers;", true)
  | 4 => ("SplitClocks$Acts", "stateOfOther", "LSplitClocks$Numbers;", true)
  | _ => ("SplitClocks$Acts", "size", "I", false)
def tyX0 : Nat → FieldType := fun k => match k with
  | 0 => .object "SplitClocks$Numbers"
  | 1 => .object "SplitClocks$Numbers"
  | 2 => .object "SplitClocks$Numbers"
  | 3 => .object "SplitClocks$Numbers"
  | 4 => .object "SplitClocks$Numbers"
  | _ => .int
abbrev wsX00 : List Cond := u_ws RX0 TX0 6
theorem nmX0 : ∀ a, a < 6 → ∀ b, b < 6 → a ≠ b → (TX0 a).2.1 ≠ (TX0 b).2.1 := by decide +kernel
theorem tyX0_ok : ∀ k, k < 6 → parseFieldDescriptor (TX0 k).2.2.1 = some (tyX0 k) := by decide +kernel
abbrev cX0_init : ByteArray := prog_2_method_1_code
def yX0_init : MethodName := ⟨RX0, "<init>", "()V"⟩
abbrev cX0_clear : ByteArray := prog_2_method_2_code
def yX0_clear : MethodName := ⟨RX0, "clear", "()V"⟩
abbrev cX0_size : ByteArray := prog_2_method_3_code
def yX0_size : MethodName := ⟨RX0, "size", "()I"⟩
abbrev cX0_note : ByteArray := prog_2_method_4_code
def yX0_note : MethodName := ⟨RX0, "note", "(LSplitClocks$Book;III)V"⟩
abbrev cX0_takeBack : ByteArray := prog_2_method_5_code
def yX0_takeBack : MethodName := ⟨RX0, "takeBack", "(LSplitClocks$Book;)Z"⟩
def RX1 : String := "SplitClocks$Bits"
def TX1 : u_T := fun k => match k with
  | 0 => ("SplitClocks$Bits", "cells", "LSplitClocks$Numbers;", true)
  | _ => ("SplitClocks$Bits", "size", "I", false)
def tyX1 : Nat → FieldType := fun k => match k with
  | 0 => .object "SplitClocks$Numbers"
  | _ => .int
abbrev wsX10 : List Cond := u_ws RX1 TX1 2
theorem nmX1 : ∀ a, a < 2 → ∀ b, b < 2 → a ≠ b → (TX1 a).2.1 ≠ (TX1 b).2.1 := by decide +kernel
theorem tyX1_ok : ∀ k, k < 2 → parseFieldDescriptor (TX1 k).2.2.1 = some (tyX1 k) := by decide +kernel
abbrev cX1_init : ByteArray := prog_3_method_1_code
def yX1_init : MethodName := ⟨RX1, "<init>", "()V"⟩
abbrev cX1_size : ByteArray := prog_3_method_2_code
def yX1_size : MethodName := ⟨RX1, "size", "()I"⟩
abbrev cX1_bitAt : ByteArray := prog_3_method_3_code
def yX1_bitAt : MethodName := ⟨RX1, "bitAt", "(I)I"⟩
abbrev cX1_push : ByteArray := prog_3_method_4_code
def yX1_push : MethodName := ⟨RX1, "push", "(JI)V"⟩
abbrev cX1_cut : ByteArray := prog_3_method_5_code
def yX1_cut : MethodName := ⟨RX1, "cut", "(I)Z"⟩
abbrev cX1_copyFrom : ByteArray := prog_3_method_6_code
def yX1_copyFrom : MethodName := ⟨RX1, "copyFrom", "(LSplitClocks$Bits;)V"⟩
def RX2 : String := "SplitClocks$Book"
def TX2 : u_T := fun k => match k with
  | 0 => ("SplitClocks$Book", "trees", "LSplitClocks$Trees;", true)
  | 1 => ("SplitClocks$Book", "own", "LSplitClocks$Numbers;", true)
  | 2 => ("SplitClocks$Book", "known", "LSplitClocks$Numbers;", true)
  | 3 => ("SplitClocks$Book", "how", "LSplitClocks$Numbers;", true)
  | 4 => ("SplitClocks$Book", "first", "LSplitClocks$Numbers;", true)
  | 5 => ("SplitClocks$Book", "second", "LSplitClocks$Numbers;", true)
  | 6 => ("SplitClocks$Book", "state", "LSplitClocks$Numbers;", true)
  | 7 => ("SplitClocks$Book", "nodesTill", "LSplitClocks$Numbers;", true)
  | 8 => ("SplitClocks$Book", "topTill", "LSplitClocks$Numbers;", true)
  | _ => ("SplitClocks$Book", "size", "I", false)
def tyX2 : Nat → FieldType := fun k => match k with
  | 0 => .object "SplitClocks$Trees"
  | 1 => .object "SplitClocks$Numbers"
  | 2 => .object "SplitClocks$Numbers"
  | 3 => .object "SplitClocks$Numbers"
  | 4 => .object "SplitClocks$Numbers"
  | 5 => .object "SplitClocks$Numbers"
  | 6 => .object "SplitClocks$Numbers"
  | 7 => .object "SplitClocks$Numbers"
  | 8 => .object "SplitClocks$Numbers"
  | _ => .int
abbrev wsX20 : List Cond := u_ws RX2 TX2 10
theorem nmX2 : ∀ a, a < 10 → ∀ b, b < 10 → a ≠ b → (TX2 a).2.1 ≠ (TX2 b).2.1 := by decide +kernel
theorem tyX2_ok : ∀ k, k < 10 → parseFieldDescriptor (TX2 k).2.2.1 = some (tyX2 k) := by decide +kernel
abbrev cX2_init : ByteArray := prog_4_method_1_code
def yX2_init : MethodName := ⟨RX2, "<init>", "()V"⟩
abbrev cX2_clear : ByteArray := prog_4_method_2_code
def yX2_clear : MethodName := ⟨RX2, "clear", "()V"⟩
abbrev cX2_size : ByteArray := prog_4_method_3_code
def yX2_size : MethodName := ⟨RX2, "size", "()I"⟩
abbrev cX2_nodes : ByteArray := prog_4_method_4_code
def yX2_nodes : MethodName := ⟨RX2, "nodes", "()I"⟩
abbrev cX2_make : ByteArray := prog_4_method_5_code
def yX2_make : MethodName := ⟨RX2, "make", "(IIIII)I"⟩
abbrev cX2_cut : ByteArray := prog_4_method_6_code
def yX2_cut : MethodName := ⟨RX2, "cut", "(I)V"⟩
abbrev cX2_has : ByteArray := prog_4_method_7_code
def yX2_has : MethodName := ⟨RX2, "has", "(I)Z"⟩
abbrev cX2_ownOf : ByteArray := prog_4_method_8_code
def yX2_ownOf : MethodName := ⟨RX2, "ownOf", "(I)I"⟩
abbrev cX2_knownOf : ByteArray := prog_4_method_9_code
def yX2_knownOf : MethodName := ⟨RX2, "knownOf", "(I)I"⟩
abbrev cX2_howOf : ByteArray := prog_4_method_10_code
def yX2_howOf : MethodName := ⟨RX2, "howOf", "(I)I"⟩
abbrev cX2_firstOf : ByteArray := prog_4_method_11_code
def yX2_firstOf : MethodName := ⟨RX2, "firstOf", "(I)I"⟩
abbrev cX2_secondOf : ByteArray := prog_4_method_12_code
def yX2_secondOf : MethodName := ⟨RX2, "secondOf", "(I)I"⟩
abbrev cX2_stateOf : ByteArray := prog_4_method_13_code
def yX2_stateOf : MethodName := ⟨RX2, "stateOf", "(I)I"⟩
abbrev cX2_setState : ByteArray := prog_4_method_14_code
def yX2_setState : MethodName := ⟨RX2, "setState", "(II)V"⟩
abbrev cX2_ownsNothing : ByteArray := prog_4_method_15_code
def yX2_ownsNothing : MethodName := ⟨RX2, "ownsNothing", "(I)Z"⟩
abbrev cX2_isLiving : ByteArray := prog_4_method_16_code
def yX2_isLiving : MethodName := ⟨RX2, "isLiving", "(I)Z"⟩
abbrev cX2_isOwner : ByteArray := prog_4_method_17_code
def yX2_isOwner : MethodName := ⟨RX2, "isOwner", "(I)Z"⟩
abbrev cX2_isLost : ByteArray := prog_4_method_18_code
def yX2_isLost : MethodName := ⟨RX2, "isLost", "(I)Z"⟩
abbrev cX2_spend : ByteArray := prog_4_method_19_code
def yX2_spend : MethodName := ⟨RX2, "spend", "(I)V"⟩
abbrev cX2_owners : ByteArray := prog_4_method_20_code
def yX2_owners : MethodName := ⟨RX2, "owners", "()I"⟩
abbrev cX2_lostOnes : ByteArray := prog_4_method_21_code
def yX2_lostOnes : MethodName := ⟨RX2, "lostOnes", "()I"⟩
abbrev cX2_events : ByteArray := prog_4_method_22_code
def yX2_events : MethodName := ⟨RX2, "events", "()I"⟩
abbrev cX2_copyFrom : ByteArray := prog_4_method_23_code
def yX2_copyFrom : MethodName := ⟨RX2, "copyFrom", "(LSplitClocks$Book;)V"⟩
def RX3 : String := "SplitClocks$Growth"
def TX3 : u_T := fun k => match k with
  | _ => ("", "", "", false)
def tyX3 : Nat → FieldType := fun k => match k with
  | _ => .int
abbrev wsX30 : List Cond := u_ws RX3 TX3 0
theorem nmX3 : ∀ a, a < 0 → ∀ b, b < 0 → a ≠ b → (TX3 a).2.1 ≠ (TX3 b).2.1 := by decide +kernel
theorem tyX3_ok : ∀ k, k < 0 → parseFieldDescriptor (TX3 k).2.2.1 = some (tyX3 k) := by decide +kernel
abbrev cX3_canPart : ByteArray := prog_5_method_2_code
def yX3_canPart : MethodName := ⟨RX3, "canPart", "(LSplitClocks$Trees;I)Z"⟩
abbrev cX3_hasOneSide : ByteArray := prog_5_method_3_code
def yX3_hasOneSide : MethodName := ⟨RX3, "hasOneSide", "(LSplitClocks$Trees;I)Z"⟩
abbrev cX3_part : ByteArray := prog_5_method_4_code
def yX3_part : MethodName := ⟨RX3, "part", "(LSplitClocks$Trees;IZ)I"⟩
abbrev cX3_partFrom : ByteArray := prog_5_method_5_code
def yX3_partFrom : MethodName := ⟨RX3, "partFrom", "(LSplitClocks$Trees;IZI)V"⟩
abbrev cX3_higher : ByteArray := prog_5_method_6_code
def yX3_higher : MethodName := ⟨RX3, "higher", "(LSplitClocks$Trees;II)I"⟩
abbrev cX3_higherFrom : ByteArray := prog_5_method_7_code
def yX3_higherFrom : MethodName := ⟨RX3, "higherFrom", "(LSplitClocks$Trees;IIIII)V"⟩
abbrev cX3_after : ByteArray := prog_5_method_8_code
def yX3_after : MethodName := ⟨RX3, "after", "(LSplitClocks$Trees;II)I"⟩
abbrev cX3_fillFrom : ByteArray := prog_5_method_9_code
def yX3_fillFrom : MethodName := ⟨RX3, "fillFrom", "(LSplitClocks$Trees;III)V"⟩
abbrev cX3_growFrom : ByteArray := prog_5_method_10_code
def yX3_growFrom : MethodName := ⟨RX3, "growFrom", "(LSplitClocks$Trees;III)V"⟩
abbrev cX3_cost : ByteArray := prog_5_method_11_code
def yX3_cost : MethodName := ⟨RX3, "cost", "(LSplitClocks$Trees;III)I"⟩
def RX4 : String := "SplitClocks$Numbers"
def TX4 : u_T := fun k => match k with
  | 0 => ("SplitClocks$Numbers", "most", "I", true)
  | _ => ("SplitClocks$Numbers", "cells", "[I", false)
def tyX4 : Nat → FieldType := fun k => match k with
  | 0 => .int
  | _ => .array .int
abbrev wsX40 : List Cond := u_ws RX4 TX4 2
theorem nmX4 : ∀ a, a < 2 → ∀ b, b < 2 → a ≠ b → (TX4 a).2.1 ≠ (TX4 b).2.1 := by decide +kernel
theorem tyX4_ok : ∀ k, k < 2 → parseFieldDescriptor (TX4 k).2.2.1 = some (tyX4 k) := by decide +kernel
abbrev cX4_init : ByteArray := prog_6_method_1_code
def yX4_init : MethodName := ⟨RX4, "<init>", "(I)V"⟩
abbrev cX4_at : ByteArray := prog_6_method_2_code
def yX4_at : MethodName := ⟨RX4, "at", "(I)I"⟩
abbrev cX4_put : ByteArray := prog_6_method_3_code
def yX4_put : MethodName := ⟨RX4, "put", "(II)V"⟩
abbrev cX4_copyFrom : ByteArray := prog_6_method_4_code
def yX4_copyFrom : MethodName := ⟨RX4, "copyFrom", "(LSplitClocks$Numbers;I)V"⟩
abbrev cX4_widen : ByteArray := prog_6_method_5_code
def yX4_widen : MethodName := ⟨RX4, "widen", "(I)V"⟩
def RX5 : String := "SplitClocks$Past"
def TX5 : u_T := fun k => match k with
  | 0 => ("SplitClocks$Past", "mine", "LSplitClocks$Numbers;", true)
  | _ => ("SplitClocks$Past", "others", "LSplitClocks$Numbers;", true)
def tyX5 : Nat → FieldType := fun k => match k with
  | 0 => .object "SplitClocks$Numbers"
  | _ => .object "SplitClocks$Numbers"
abbrev wsX50 : List Cond := u_ws RX5 TX5 2
theorem nmX5 : ∀ a, a < 2 → ∀ b, b < 2 → a ≠ b → (TX5 a).2.1 ≠ (TX5 b).2.1 := by decide +kernel
theorem tyX5_ok : ∀ k, k < 2 → parseFieldDescriptor (TX5 k).2.2.1 = some (tyX5 k) := by decide +kernel
abbrev cX5_init : ByteArray := prog_7_method_1_code
def yX5_init : MethodName := ⟨RX5, "<init>", "()V"⟩
abbrev cX5_seen : ByteArray := prog_7_method_2_code
def yX5_seen : MethodName := ⟨RX5, "seen", "(LSplitClocks$Book;I)I"⟩
abbrev cX5_missing : ByteArray := prog_7_method_3_code
def yX5_missing : MethodName := ⟨RX5, "missing", "(LSplitClocks$Book;II)I"⟩
abbrev cX5_eventsIn : ByteArray := prog_7_method_4_code
def yX5_eventsIn : MethodName := ⟨RX5, "eventsIn", "(LSplitClocks$Book;LSplitClocks$Numbers;)I"⟩
abbrev cX5_trace : ByteArray := prog_7_method_5_code
def yX5_trace : MethodName := ⟨RX5, "trace", "(LSplitClocks$Book;ILSplitClocks$Numbers;)Z"⟩
def RX6 : String := "SplitClocks$Reader"
def TX6 : u_T := fun k => match k with
  | 0 => ("SplitClocks$Reader", "from", "LSplitClocks$Bits;", true)
  | 1 => ("SplitClocks$Reader", "next", "I", false)
  | _ => ("SplitClocks$Reader", "faultAt", "I", false)
def tyX6 : Nat → FieldType := fun k => match k with
  | 0 => .object "SplitClocks$Bits"
  | 1 => .int
  | _ => .int
abbrev wsX60 : List Cond := u_ws RX6 TX6 3
theorem nmX6 : ∀ a, a < 3 → ∀ b, b < 3 → a ≠ b → (TX6 a).2.1 ≠ (TX6 b).2.1 := by decide +kernel
theorem tyX6_ok : ∀ k, k < 3 → parseFieldDescriptor (TX6 k).2.2.1 = some (tyX6 k) := by decide +kernel
abbrev cX6_init : ByteArray := prog_8_method_1_code
def yX6_init : MethodName := ⟨RX6, "<init>", "(LSplitClocks$Bits;)V"⟩
abbrev cX6_firstFault : ByteArray := prog_8_method_2_code
def yX6_firstFault : MethodName := ⟨RX6, "firstFault", "()I"⟩
abbrev cX6_scan : ByteArray := prog_8_method_3_code
def yX6_scan : MethodName := ⟨RX6, "scan", "(LSplitClocks$Trees;)I"⟩
abbrev cX6_isFaulty : ByteArray := prog_8_method_4_code
def yX6_isFaulty : MethodName := ⟨RX6, "isFaulty", "()Z"⟩
abbrev cX6_blame : ByteArray := prog_8_method_5_code
def yX6_blame : MethodName := ⟨RX6, "blame", "(I)V"⟩
abbrev cX6_oneBit : ByteArray := prog_8_method_6_code
def yX6_oneBit : MethodName := ⟨RX6, "oneBit", "()I"⟩
abbrev cX6_twoBits : ByteArray := prog_8_method_7_code
def yX6_twoBits : MethodName := ⟨RX6, "twoBits", "()I"⟩
abbrev cX6_numberHere : ByteArray := prog_8_method_8_code
def yX6_numberHere : MethodName := ⟨RX6, "numberHere", "()I"⟩
abbrev cX6_shareFrom : ByteArray := prog_8_method_9_code
def yX6_shareFrom : MethodName := ⟨RX6, "shareFrom", "(LSplitClocks$Reader;I)I"⟩
abbrev cX6_heightFrom : ByteArray := prog_8_method_10_code
def yX6_heightFrom : MethodName := ⟨RX6, "heightFrom", "(LSplitClocks$Reader;LSplitClocks$Trees;I)V"⟩
abbrev cX6_isWellTold : ByteArray := prog_8_method_11_code
def yX6_isWellTold : MethodName := ⟨RX6, "isWellTold", "(LSplitClocks$Trees;II)Z"⟩
def RX7 : String := "SplitClocks$Sight"
def TX7 : u_T := fun k => match k with
  | _ => ("", "", "", false)
def tyX7 : Nat → FieldType := fun k => match k with
  | _ => .int
abbrev wsX70 : List Cond := u_ws RX7 TX7 0
theorem nmX7 : ∀ a, a < 0 → ∀ b, b < 0 → a ≠ b → (TX7 a).2.1 ≠ (TX7 b).2.1 := by decide +kernel
theorem tyX7_ok : ∀ k, k < 0 → parseFieldDescriptor (TX7 k).2.2.1 = some (tyX7 k) := by decide +kernel
abbrev cX7_above : ByteArray := prog_9_method_2_code
def yX7_above : MethodName := ⟨RX7, "above", "(LSplitClocks$Trees;II)Z"⟩
abbrev cX7_aboveFrom : ByteArray := prog_9_method_3_code
def yX7_aboveFrom : MethodName := ⟨RX7, "aboveFrom", "(LSplitClocks$Trees;IIII)Z"⟩
abbrev cX7_firstAbove : ByteArray := prog_9_method_4_code
def yX7_firstAbove : MethodName := ⟨RX7, "firstAbove", "(LSplitClocks$Trees;II)J"⟩
abbrev cX7_seek : ByteArray := prog_9_method_5_code
def yX7_seek : MethodName := ⟨RX7, "seek", "(LSplitClocks$Trees;IIIJI)J"⟩
abbrev cX7_overlap : ByteArray := prog_9_method_6_code
def yX7_overlap : MethodName := ⟨RX7, "overlap", "(LSplitClocks$Trees;II)Z"⟩
abbrev cX7_overlapFrom : ByteArray := prog_9_method_7_code
def yX7_overlapFrom : MethodName := ⟨RX7, "overlapFrom", "(LSplitClocks$Trees;III)Z"⟩
def RX8 : String := "SplitClocks$Trees"
def TX8 : u_T := fun k => match k with
  | 0 => ("SplitClocks$Trees", "number", "LSplitClocks$Numbers;", true)
  | 1 => ("SplitClocks$Trees", "far", "LSplitClocks$Numbers;", true)
  | _ => ("SplitClocks$Trees", "top", "I", false)
def tyX8 : Nat → FieldType := fun k => match k with
  | 0 => .object "SplitClocks$Numbers"
  | 1 => .object "SplitClocks$Numbers"
  | _ => .int
abbrev wsX80 : List Cond := u_ws RX8 TX8 3
theorem nmX8 : ∀ a, a < 3 → ∀ b, b < 3 → a ≠ b → (TX8 a).2.1 ≠ (TX8 b).2.1 := by decide +kernel
theorem tyX8_ok : ∀ k, k < 3 → parseFieldDescriptor (TX8 k).2.2.1 = some (tyX8 k) := by decide +kernel
abbrev cX8_init : ByteArray := prog_10_method_1_code
def yX8_init : MethodName := ⟨RX8, "<init>", "()V"⟩
abbrev cX8_clear : ByteArray := prog_10_method_2_code
def yX8_clear : MethodName := ⟨RX8, "clear", "()V"⟩
abbrev cX8_top : ByteArray := prog_10_method_3_code
def yX8_top : MethodName := ⟨RX8, "top", "()I"⟩
abbrev cX8_cut : ByteArray := prog_10_method_4_code
def yX8_cut : MethodName := ⟨RX8, "cut", "(I)V"⟩
abbrev cX8_numberOf : ByteArray := prog_10_method_5_code
def yX8_numberOf : MethodName := ⟨RX8, "numberOf", "(I)I"⟩
abbrev cX8_setNumber : ByteArray := prog_10_method_6_code
def yX8_setNumber : MethodName := ⟨RX8, "setNumber", "(II)V"⟩
abbrev cX8_isNumber : ByteArray := prog_10_method_7_code
def yX8_isNumber : MethodName := ⟨RX8, "isNumber", "(I)Z"⟩
abbrev cX8_isJust : ByteArray := prog_10_method_8_code
def yX8_isJust : MethodName := ⟨RX8, "isJust", "(II)Z"⟩
abbrev cX8_leftOf : ByteArray := prog_10_method_9_code
def yX8_leftOf : MethodName := ⟨RX8, "leftOf", "(I)I"⟩
abbrev cX8_rightOf : ByteArray := prog_10_method_10_code
def yX8_rightOf : MethodName := ⟨RX8, "rightOf", "(I)I"⟩
abbrev cX8_grow : ByteArray := prog_10_method_11_code
def yX8_grow : MethodName := ⟨RX8, "grow", "(I)I"⟩
abbrev cX8_turn : ByteArray := prog_10_method_12_code
def yX8_turn : MethodName := ⟨RX8, "turn", "(I)V"⟩
abbrev cX8_close : ByteArray := prog_10_method_13_code
def yX8_close : MethodName := ⟨RX8, "close", "(I)V"⟩
abbrev cX8_nodesOf : ByteArray := prog_10_method_14_code
def yX8_nodesOf : MethodName := ⟨RX8, "nodesOf", "(I)I"⟩
abbrev cX8_copy : ByteArray := prog_10_method_15_code
def yX8_copy : MethodName := ⟨RX8, "copy", "(I)V"⟩
abbrev cX8_same : ByteArray := prog_10_method_16_code
def yX8_same : MethodName := ⟨RX8, "same", "(II)Z"⟩
abbrev cX8_numberAt : ByteArray := prog_10_method_17_code
def yX8_numberAt : MethodName := ⟨RX8, "numberAt", "(IJI)I"⟩
abbrev cX8_greatestOf : ByteArray := prog_10_method_18_code
def yX8_greatestOf : MethodName := ⟨RX8, "greatestOf", "(I)I"⟩
abbrev cX8_greatest : ByteArray := prog_10_method_19_code
def yX8_greatest : MethodName := ⟨RX8, "greatest", "(LSplitClocks$Trees;II)I"⟩
abbrev cX8_copyFrom : ByteArray := prog_10_method_20_code
def yX8_copyFrom : MethodName := ⟨RX8, "copyFrom", "(LSplitClocks$Trees;)V"⟩
def RX9 : String := "SplitClocks$Writer"
def TX9 : u_T := fun k => match k with
  | _ => ("", "", "", false)
def tyX9 : Nat → FieldType := fun k => match k with
  | _ => .int
abbrev wsX90 : List Cond := u_ws RX9 TX9 0
theorem nmX9 : ∀ a, a < 0 → ∀ b, b < 0 → a ≠ b → (TX9 a).2.1 ≠ (TX9 b).2.1 := by decide +kernel
theorem tyX9_ok : ∀ k, k < 0 → parseFieldDescriptor (TX9 k).2.2.1 = some (tyX9 k) := by decide +kernel
abbrev cX9_shareFrom : ByteArray := prog_11_method_2_code
def yX9_shareFrom : MethodName := ⟨RX9, "shareFrom", "(LSplitClocks$Trees;ILSplitClocks$Bits;I)V"⟩
abbrev cX9_heightFrom : ByteArray := prog_11_method_3_code
def yX9_heightFrom : MethodName := ⟨RX9, "heightFrom", "(LSplitClocks$Trees;ILSplitClocks$Bits;I)V"⟩
abbrev cX9_pushNumber : ByteArray := prog_11_method_4_code
def yX9_pushNumber : MethodName := ⟨RX9, "pushNumber", "(ILSplitClocks$Bits;)V"⟩
def RX10 : String := "SplitClocks"
def TX10 : u_T := fun k => match k with
  | 0 => ("SplitClocks", "book", "LSplitClocks$Book;", true)
  | 1 => ("SplitClocks", "kept", "LSplitClocks$Book;", true)
  | 2 => ("SplitClocks", "acts", "LSplitClocks$Acts;", true)
  | 3 => ("SplitClocks", "past", "LSplitClocks$Past;", true)
  | 4 => ("SplitClocks", "row", "LSplitClocks$Bits;", true)
  | 5 => ("SplitClocks", "draft", "LSplitClocks$Bits;", true)
  | 6 => ("SplitClocks", "reader", "LSplitClocks$Reader;", true)
  | 7 => ("SplitClocks", "imageStands", "Z", false)
  | 8 => ("SplitClocks", "lastFault", "I", false)
  | 9 => ("SplitClocks", "toldPlace", "J", false)
  | _ => ("SplitClocks", "toldDigits", "I", false)
def tyX10 : Nat → FieldType := fun k => match k with
  | 0 => .object "SplitClocks$Book"
  | 1 => .object "SplitClocks$Book"
  | 2 => .object "SplitClocks$Acts"
  | 3 => .object "SplitClocks$Past"
  | 4 => .object "SplitClocks$Bits"
  | 5 => .object "SplitClocks$Bits"
  | 6 => .object "SplitClocks$Reader"
  | 7 => .boolean
  | 8 => .int
  | 9 => .long
  | _ => .int
abbrev wsX100 : List Cond := u_ws RX10 TX10 11
theorem nmX10 : ∀ a, a < 11 → ∀ b, b < 11 → a ≠ b → (TX10 a).2.1 ≠ (TX10 b).2.1 := by decide +kernel
theorem tyX10_ok : ∀ k, k < 11 → parseFieldDescriptor (TX10 k).2.2.1 = some (tyX10 k) := by decide +kernel
abbrev cX10_init : ByteArray := prog_1_method_1_code
def yX10_init : MethodName := ⟨RX10, "<init>", "()V"⟩
abbrev cX10_seed : ByteArray := prog_1_method_2_code
def yX10_seed : MethodName := ⟨RX10, "seed", "()V"⟩
abbrev cX10_fork : ByteArray := prog_1_method_3_code
def yX10_fork : MethodName := ⟨RX10, "fork", "(I)I"⟩
abbrev cX10_event : ByteArray := prog_1_method_4_code
def yX10_event : MethodName := ⟨RX10, "event", "(I)I"⟩
abbrev cX10_join : ByteArray := prog_1_method_5_code
def yX10_join : MethodName := ⟨RX10, "join", "(II)I"⟩
abbrev cX10_peek : ByteArray := prog_1_method_6_code
def yX10_peek : MethodName := ⟨RX10, "peek", "(I)I"⟩
abbrev cX10_send : ByteArray := prog_1_method_7_code
def yX10_send : MethodName := ⟨RX10, "send", "(I)I"⟩
abbrev cX10_take : ByteArray := prog_1_method_8_code
def yX10_take : MethodName := ⟨RX10, "take", "(II)I"⟩
abbrev cX10_lose : ByteArray := prog_1_method_9_code
def yX10_lose : MethodName := ⟨RX10, "lose", "(I)Z"⟩
abbrev cX10_home : ByteArray := prog_1_method_10_code
def yX10_home : MethodName := ⟨RX10, "home", "(II)I"⟩
abbrev cX10_undo : ByteArray := prog_1_method_11_code
def yX10_undo : MethodName := ⟨RX10, "undo", "()Z"⟩
abbrev cX10_relation : ByteArray := prog_1_method_12_code
def yX10_relation : MethodName := ⟨RX10, "relation", "(II)I"⟩
abbrev cX10_unseen : ByteArray := prog_1_method_13_code
def yX10_unseen : MethodName := ⟨RX10, "unseen", "(II)I"⟩
abbrev cX10_meets : ByteArray := prog_1_method_14_code
def yX10_meets : MethodName := ⟨RX10, "meets", "(II)Z"⟩
abbrev cX10_height : ByteArray := prog_1_method_15_code
def yX10_height : MethodName := ⟨RX10, "height", "(IJI)I"⟩
abbrev cX10_owns : ByteArray := prog_1_method_16_code
def yX10_owns : MethodName := ⟨RX10, "owns", "(IJI)Z"⟩
abbrev cX10_stamp : ByteArray := prog_1_method_17_code
def yX10_stamp : MethodName := ⟨RX10, "stamp", "(II)I"⟩
abbrev cX10_witness : ByteArray := prog_1_method_18_code
def yX10_witness : MethodName := ⟨RX10, "witness", "(III)Z"⟩
abbrev cX10_place : ByteArray := prog_1_method_19_code
def yX10_place : MethodName := ⟨RX10, "place", "()J"⟩
abbrev cX10_digits : ByteArray := prog_1_method_20_code
def yX10_digits : MethodName := ⟨RX10, "digits", "()I"⟩
abbrev cX10_check : ByteArray := prog_1_method_21_code
def yX10_check : MethodName := ⟨RX10, "check", "(IIJIJI)I"⟩
abbrev cX10_pack : ByteArray := prog_1_method_22_code
def yX10_pack : MethodName := ⟨RX10, "pack", "(I)I"⟩
abbrev cX10_bit : ByteArray := prog_1_method_23_code
def yX10_bit : MethodName := ⟨RX10, "bit", "(I)I"⟩
abbrev cX10_add : ByteArray := prog_1_method_24_code
def yX10_add : MethodName := ⟨RX10, "add", "(JI)I"⟩
abbrev cX10_end : ByteArray := prog_1_method_25_code
def yX10_end : MethodName := ⟨RX10, "end", "(I)Z"⟩
abbrev cX10_read : ByteArray := prog_1_method_26_code
def yX10_read : MethodName := ⟨RX10, "read", "()I"⟩
abbrev cX10_fault : ByteArray := prog_1_method_27_code
def yX10_fault : MethodName := ⟨RX10, "fault", "()I"⟩
abbrev cX10_image : ByteArray := prog_1_method_28_code
def yX10_image : MethodName := ⟨RX10, "image", "()Z"⟩
abbrev cX10_back : ByteArray := prog_1_method_29_code
def yX10_back : MethodName := ⟨RX10, "back", "()Z"⟩
abbrev cX10_count : ByteArray := prog_1_method_30_code
def yX10_count : MethodName := ⟨RX10, "count", "(I)I"⟩
abbrev cX10_plant : ByteArray := prog_1_method_31_code
def yX10_plant : MethodName := ⟨RX10, "plant", "()V"⟩
abbrev cX10_settle : ByteArray := prog_1_method_32_code
def yX10_settle : MethodName := ⟨RX10, "settle", "(IIII)Z"⟩
abbrev cX10_canMelt : ByteArray := prog_1_method_33_code
def yX10_canMelt : MethodName := ⟨RX10, "canMelt", "(II)Z"⟩
abbrev cX10_leads : ByteArray := prog_1_method_34_code
def yX10_leads : MethodName := ⟨RX10, "leads", "(II)Z"⟩
abbrev cX10_makeEvent : ByteArray := prog_1_method_35_code
def yX10_makeEvent : MethodName := ⟨RX10, "makeEvent", "(I)I"⟩
abbrev cX10_makeJoin : ByteArray := prog_1_method_36_code
def yX10_makeJoin : MethodName := ⟨RX10, "makeJoin", "(III)I"⟩
abbrev cX10_makePeek : ByteArray := prog_1_method_37_code
def yX10_makePeek : MethodName := ⟨RX10, "makePeek", "(I)I"⟩
abbrev cX10_isAboveAt : ByteArray := prog_1_method_38_code
def yX10_isAboveAt : MethodName := ⟨RX10, "isAboveAt", "(IIJI)Z"⟩
abbrev cX10_draftOf : ByteArray := prog_1_method_39_code
def yX10_draftOf : MethodName := ⟨RX10, "draftOf", "(I)I"⟩
abbrev cX10_isPlace : ByteArray := prog_1_method_40_code
def yX10_isPlace : MethodName := ⟨RX10, "isPlace", "(JI)Z"⟩
def RX11 : String := "SplitClocksModel"
def TX11 : u_T := fun k => match k with
  | 0 => ("SplitClocksModel", "steps", "[J", true)
  | 1 => ("SplitClocksModel", "heights", "[I", true)
  | 2 => ("SplitClocksModel", "froms", "[J", true)
  | 3 => ("SplitClocksModel", "tos", "[J", true)
  | 4 => ("SplitClocksModel", "stepFrom", "[I", true)
  | 5 => ("SplitClocksModel", "spanFrom", "[I", true)
  | 6 => ("SplitClocksModel", "lives", "[Z", true)
  | 7 => ("SplitClocksModel", "lost", "[Z", true)
  | 8 => ("SplitClocksModel", "strange", "[Z", true)
  | 9 => ("SplitClocksModel", "how", "[B", true)
  | 10 => ("SplitClocksModel", "first", "[S", true)
  | 11 => ("SplitClocksModel", "second", "[S", true)
  | 12 => ("SplitClocksModel", "ownNodes", "[I", true)
  | 13 => ("SplitClocksModel", "knownNodes", "[I", true)
  | 14 => ("SplitClocksModel", "seen", "[J", true)
  | 15 => ("SplitClocksModel", "many", "I", false)
  | 16 => ("SplitClocksModel", "events", "I", false)
  | 17 => ("SplitClocksModel", "nodes", "I", false)
  | 18 => ("SplitClocksModel", "actMany", "[S", true)
  | 19 => ("SplitClocksModel", "actEvents", "[S", true)
  | 20 => ("SplitClocksModel", "actOne", "[S", true)
  | 21 => ("SplitClocksModel", "actTwo", "[S", true)
  | 22 => ("SplitClocksModel", "actOneLived", "[Z", true)
  | 23 => ("SplitClocksModel", "actTwoLived", "[Z", true)
  | 24 => ("SplitClocksModel", "actLost", "[S", true)
  | 25 => ("SplitClocksModel", "actHome", "[S", true)
  | 26 => ("SplitClocksModel", "acts", "I", false)
  | 27 => ("SplitClocksModel", "w", "[J", true)
  | 28 => ("SplitClocksModel", "wh", "[I", true)
  | 29 => ("SplitClocksModel", "wMany", "I", false)
  | 30 => ("SplitClocksModel", "x", "[J", true)
  | 31 => ("SplitClocksModel", "xh", "[I", true)
  | 32 => ("SplitClocksModel", "of", "[J", true)
  | 33 => ("SplitClocksModel", "ot", "[J", true)
  | 34 => ("SplitClocksModel", "oMany", "I", false)
  | 35 => ("SplitClocksModel", "row", "[Z", true)
  | 36 => ("SplitClocksModel", "bits", "I", false)
  | 37 => ("SplitClocksModel", "fault", "I", false)
  | 38 => ("SplitClocksModel", "witnessPlace", "J", false)
  | 39 => ("SplitClocksModel", "witnessDigits", "I", false)
  | 40 => ("SplitClocksModel", "thrown", "I", false)
  | 41 => ("SplitClocksModel", "hasImage", "Z", false)
  | 42 => ("SplitClocksModel", "kSteps", "[J", true)
  | 43 => ("SplitClocksModel", "kHeights", "[I", true)
  | 44 => ("SplitClocksModel", "kFroms", "[J", true)
  | 45 => ("SplitClocksModel", "kTos", "[J", true)
  | 46 => ("SplitClocksModel", "kStepFrom", "[I", true)
  | 47 => ("SplitClocksModel", "kSpanFrom", "[I", true)
  | 48 => ("SplitClocksModel", "kLives", "[Z", true)
  | 49 => ("SplitClocksModel", "kLost", "[Z", true)
  | 50 => ("SplitClocksModel", "kStrange", "[Z", true)
  | 51 => ("SplitClocksModel", "kHow", "[B", true)
  | 52 => ("SplitClocksModel", "kFirst", "[S", true)
  | 53 => ("SplitClocksModel", "kSecond", "[S", true)
  | 54 => ("SplitClocksModel", "kOwnNodes", "[I", true)
  | 55 => ("SplitClocksModel", "kKnownNodes", "[I", true)
  | 56 => ("SplitClocksModel", "kSeen", "[J", true)
  | 57 => ("SplitClocksModel", "kMany", "I", false)
  | 58 => ("SplitClocksModel", "kEvents", "I", false)
  | 59 => ("SplitClocksModel", "kNodes", "I", false)
  | 60 => ("SplitClocksModel", "growFrom", "J", false)
  | 61 => ("SplitClocksModel", "growSize", "J", false)
  | 62 => ("SplitClocksModel", "oldSteps", "[J", true)
  | 63 => ("SplitClocksModel", "oldHeights", "[I", true)
  | 64 => ("SplitClocksModel", "writes", "Z", false)
  | 65 => ("SplitClocksModel", "at", "I", false)
  | 66 => ("SplitClocksModel", "wrong", "I", false)
  | _ => ("SplitClocksModel", "isNumber", "Z", false)
def tyX11 : Nat → FieldType := fun k => match k with
  | 0 => .array .long
  | 1 => .array .int
  | 2 => .array .long
  | 3 => .array .long
  | 4 => .array .int
  | 5 => .array .int
  | 6 => .array .boolean
  | 7 => .array .boolean
  | 8 => .array .boolean
  | 9 => .array .byte
  | 10 => .array .short
  | 11 => .array .short
  | 12 => .array .int
  | 13 => .array .int
  | 14 => .array .long
  | 15 => .int
  | 16 => .int
  | 17 => .int
  | 18 => .array .short
  | 19 => .array .short
  | 20 => .array .short
  | 21 => .array .short
  | 22 => .array .boolean
  | 23 => .array .boolean
  | 24 => .array .short
  | 25 => .array .short
  | 26 => .int
  | 27 => .array .long
  | 28 => .array .int
  | 29 => .int
  | 30 => .array .long
  | 31 => .array .int
  | 32 => .array .long
  | 33 => .array .long
  | 34 => .int
  | 35 => .array .boolean
  | 36 => .int
  | 37 => .int
  | 38 => .long
  | 39 => .int
  | 40 => .int
  | 41 => .boolean
  | 42 => .array .long
  | 43 => .array .int
  | 44 => .array .long
  | 45 => .array .long
  | 46 => .array .int
  | 47 => .array .int
  | 48 => .array .boolean
  | 49 => .array .boolean
  | 50 => .array .boolean
  | 51 => .array .byte
  | 52 => .array .short
  | 53 => .array .short
  | 54 => .array .int
  | 55 => .array .int
  | 56 => .array .long
  | 57 => .int
  | 58 => .int
  | 59 => .int
  | 60 => .long
  | 61 => .long
  | 62 => .array .long
  | 63 => .array .int
  | 64 => .boolean
  | 65 => .int
  | 66 => .int
  | _ => .boolean
abbrev wsX110 : List Cond := u_ws RX11 TX11 68
theorem nmX11 : ∀ a, a < 68 → ∀ b, b < 68 → a ≠ b → (TX11 a).2.1 ≠ (TX11 b).2.1 := by decide +kernel
theorem tyX11_ok : ∀ k, k < 68 → parseFieldDescriptor (TX11 k).2.2.1 = some (tyX11 k) := by decide +kernel
abbrev cX11_init : ByteArray := prog_13_method_1_code
def yX11_init : MethodName := ⟨RX11, "<init>", "()V"⟩
abbrev cX11_thrown : ByteArray := prog_13_method_2_code
def yX11_thrown : MethodName := ⟨RX11, "thrown", "()I"⟩
abbrev cX11_seed : ByteArray := prog_13_method_3_code
def yX11_seed : MethodName := ⟨RX11, "seed", "()V"⟩
abbrev cX11_is : ByteArray := prog_13_method_4_code
def yX11_is : MethodName := ⟨RX11, "is", "(I)Z"⟩
abbrev cX11_isAlive : ByteArray := prog_13_method_5_code
def yX11_isAlive : MethodName := ⟨RX11, "isAlive", "(I)Z"⟩
abbrev cX11_owns : ByteArray := prog_13_method_6_code
def yX11_owns : MethodName := ⟨RX11, "owns", "(I)Z"⟩
abbrev cX11_hasRoom : ByteArray := prog_13_method_7_code
def yX11_hasRoom : MethodName := ⟨RX11, "hasRoom", "(II)Z"⟩
abbrev cX11_make : ByteArray := prog_13_method_8_code
def yX11_make : MethodName := ⟨RX11, "make", "(III)I"⟩
abbrev cX11_takeKnown : ByteArray := prog_13_method_9_code
def yX11_takeKnown : MethodName := ⟨RX11, "takeKnown", "(I)V"⟩
abbrev cX11_takeOwn : ByteArray := prog_13_method_10_code
def yX11_takeOwn : MethodName := ⟨RX11, "takeOwn", "(I)V"⟩
abbrev cX11_at : ByteArray := prog_13_method_11_code
def yX11_at : MethodName := ⟨RX11, "at", "(J)I"⟩
abbrev cX11_behind : ByteArray := prog_13_method_12_code
def yX11_behind : MethodName := ⟨RX11, "behind", "(I)J"⟩
abbrev cX11_isFlat : ByteArray := prog_13_method_13_code
def yX11_isFlat : MethodName := ⟨RX11, "isFlat", "(JJ)Z"⟩
abbrev cX11_most : ByteArray := prog_13_method_14_code
def yX11_most : MethodName := ⟨RX11, "most", "(JJ)I"⟩
abbrev cX11_least : ByteArray := prog_13_method_15_code
def yX11_least : MethodName := ⟨RX11, "least", "(JJ)I"⟩
abbrev cX11_lay : ByteArray := prog_13_method_16_code
def yX11_lay : MethodName := ⟨RX11, "lay", "(IJI)I"⟩
abbrev cX11_become : ByteArray := prog_13_method_17_code
def yX11_become : MethodName := ⟨RX11, "become", "(I)V"⟩
abbrev cX11_set : ByteArray := prog_13_method_18_code
def yX11_set : MethodName := ⟨RX11, "set", "(JJIZ)V"⟩
abbrev cX11_heightNodes : ByteArray := prog_13_method_19_code
def yX11_heightNodes : MethodName := ⟨RX11, "heightNodes", "(JJ)I"⟩
abbrev cX11_part : ByteArray := prog_13_method_20_code
def yX11_part : MethodName := ⟨RX11, "part", "(JJ)I"⟩
abbrev cX11_shareNodes : ByteArray := prog_13_method_21_code
def yX11_shareNodes : MethodName := ⟨RX11, "shareNodes", "(JJ)I"⟩
abbrev cX11_cut : ByteArray := prog_13_method_22_code
def yX11_cut : MethodName := ⟨RX11, "cut", "(IJJ)V"⟩
abbrev cX11_note : ByteArray := prog_13_method_23_code
def yX11_note : MethodName := ⟨RX11, "note", "(II)V"⟩
abbrev cX11_spend : ByteArray := prog_13_method_24_code
def yX11_spend : MethodName := ⟨RX11, "spend", "(I)V"⟩
abbrev cX11_fork : ByteArray := prog_13_method_25_code
def yX11_fork : MethodName := ⟨RX11, "fork", "(I)I"⟩
abbrev cX11_fill : ByteArray := prog_13_method_26_code
def yX11_fill : MethodName := ⟨RX11, "fill", "(JJ)V"⟩
abbrev cX11_grow : ByteArray := prog_13_method_27_code
def yX11_grow : MethodName := ⟨RX11, "grow", "(JJ)I"⟩
abbrev cX11_happen : ByteArray := prog_13_method_28_code
def yX11_happen : MethodName := ⟨RX11, "happen", "()V"⟩
abbrev cX11_mark : ByteArray := prog_13_method_29_code
def yX11_mark : MethodName := ⟨RX11, "mark", "(I)V"⟩
abbrev cX11_event : ByteArray := prog_13_method_30_code
def yX11_event : MethodName := ⟨RX11, "event", "(I)I"⟩
abbrev cX11_together : ByteArray := prog_13_method_31_code
def yX11_together : MethodName := ⟨RX11, "together", "(II)V"⟩
abbrev cX11_share : ByteArray := prog_13_method_32_code
def yX11_share : MethodName := ⟨RX11, "share", "(II)V"⟩
abbrev cX11_joined : ByteArray := prog_13_method_33_code
def yX11_joined : MethodName := ⟨RX11, "joined", "(III)I"⟩
abbrev cX11_join : ByteArray := prog_13_method_34_code
def yX11_join : MethodName := ⟨RX11, "join", "(II)I"⟩
abbrev cX11_peek : ByteArray := prog_13_method_35_code
def yX11_peek : MethodName := ⟨RX11, "peek", "(I)I"⟩
abbrev cX11_send : ByteArray := prog_13_method_36_code
def yX11_send : MethodName := ⟨RX11, "send", "(I)I"⟩
abbrev cX11_take : ByteArray := prog_13_method_37_code
def yX11_take : MethodName := ⟨RX11, "take", "(II)I"⟩
abbrev cX11_lose : ByteArray := prog_13_method_38_code
def yX11_lose : MethodName := ⟨RX11, "lose", "(I)Z"⟩
abbrev cX11_home : ByteArray := prog_13_method_39_code
def yX11_home : MethodName := ⟨RX11, "home", "(II)I"⟩
abbrev cX11_undo : ByteArray := prog_13_method_40_code
def yX11_undo : MethodName := ⟨RX11, "undo", "()Z"⟩
abbrev cX11_leads : ByteArray := prog_13_method_41_code
def yX11_leads : MethodName := ⟨RX11, "leads", "(II)Z"⟩
abbrev cX11_relation : ByteArray := prog_13_method_42_code
def yX11_relation : MethodName := ⟨RX11, "relation", "(II)I"⟩
abbrev cX11_unseen : ByteArray := prog_13_method_43_code
def yX11_unseen : MethodName := ⟨RX11, "unseen", "(II)I"⟩
abbrev cX11_meets : ByteArray := prog_13_method_44_code
def yX11_meets : MethodName := ⟨RX11, "meets", "(II)Z"⟩
abbrev cX11_isPlace : ByteArray := prog_13_method_45_code
def yX11_isPlace : MethodName := ⟨RX11, "isPlace", "(JI)Z"⟩
abbrev cX11_heightAt : ByteArray := prog_13_method_46_code
def yX11_heightAt : MethodName := ⟨RX11, "heightAt", "(IJ)I"⟩
abbrev cX11_height : ByteArray := prog_13_method_47_code
def yX11_height : MethodName := ⟨RX11, "height", "(IJI)I"⟩
abbrev cX11_owns_ : ByteArray := prog_13_method_48_code
def yX11_owns_ : MethodName := ⟨RX11, "owns", "(IJI)Z"⟩
abbrev cX11_stamp : ByteArray := prog_13_method_49_code
def yX11_stamp : MethodName := ⟨RX11, "stamp", "(II)I"⟩
abbrev cX11_history : ByteArray := prog_13_method_50_code
def yX11_history : MethodName := ⟨RX11, "history", "(I)I"⟩
abbrev cX11_turn : ByteArray := prog_13_method_51_code
def yX11_turn : MethodName := ⟨RX11, "turn", "(IIJZ)J"⟩
abbrev cX11_witness : ByteArray := prog_13_method_52_code
def yX11_witness : MethodName := ⟨RX11, "witness", "(III)Z"⟩
abbrev cX11_place : ByteArray := prog_13_method_53_code
def yX11_place : MethodName := ⟨RX11, "place", "()J"⟩
abbrev cX11_digits : ByteArray := prog_13_method_54_code
def yX11_digits : MethodName := ⟨RX11, "digits", "()I"⟩
abbrev cX11_check : ByteArray := prog_13_method_55_code
def yX11_check : MethodName := ⟨RX11, "check", "(IIJIJI)I"⟩
abbrev cX11_bit : ByteArray := prog_13_method_56_code
def yX11_bit : MethodName := ⟨RX11, "bit", "(Z)V"⟩
abbrev cX11_number : ByteArray := prog_13_method_57_code
def yX11_number : MethodName := ⟨RX11, "number", "(I)V"⟩
abbrev cX11_writeShare : ByteArray := prog_13_method_58_code
def yX11_writeShare : MethodName := ⟨RX11, "writeShare", "(JJ)V"⟩
abbrev cX11_writeHeight : ByteArray := prog_13_method_59_code
def yX11_writeHeight : MethodName := ⟨RX11, "writeHeight", "(JJI)V"⟩
abbrev cX11_written : ByteArray := prog_13_method_60_code
def yX11_written : MethodName := ⟨RX11, "written", "(Z)I"⟩
abbrev cX11_pack : ByteArray := prog_13_method_61_code
def yX11_pack : MethodName := ⟨RX11, "pack", "(I)I"⟩
abbrev cX11_bit_ : ByteArray := prog_13_method_62_code
def yX11_bit_ : MethodName := ⟨RX11, "bit", "(I)I"⟩
abbrev cX11_add : ByteArray := prog_13_method_63_code
def yX11_add : MethodName := ⟨RX11, "add", "(JI)I"⟩
abbrev cX11_end : ByteArray := prog_13_method_64_code
def yX11_end : MethodName := ⟨RX11, "end", "(I)Z"⟩
abbrev cX11_fails : ByteArray := prog_13_method_65_code
def yX11_fails : MethodName := ⟨RX11, "fails", "(I)V"⟩
abbrev cX11_next : ByteArray := prog_13_method_66_code
def yX11_next : MethodName := ⟨RX11, "next", "()I"⟩
abbrev cX11_readNumber : ByteArray := prog_13_method_67_code
def yX11_readNumber : MethodName := ⟨RX11, "readNumber", "()I"⟩
abbrev cX11_readShare : ByteArray := prog_13_method_68_code
def yX11_readShare : MethodName := ⟨RX11, "readShare", "(I)I"⟩
abbrev cX11_readHeight : ByteArray := prog_13_method_69_code
def yX11_readHeight : MethodName := ⟨RX11, "readHeight", "(IJI)I"⟩
abbrev cX11_step : ByteArray := prog_13_method_70_code
def yX11_step : MethodName := ⟨RX11, "step", "(JI)I"⟩
abbrev cX11_read : ByteArray := prog_13_method_71_code
def yX11_read : MethodName := ⟨RX11, "read", "()I"⟩
abbrev cX11_fault : ByteArray := prog_13_method_72_code
def yX11_fault : MethodName := ⟨RX11, "fault", "()I"⟩
abbrev cX11_image : ByteArray := prog_13_method_73_code
def yX11_image : MethodName := ⟨RX11, "image", "()Z"⟩
abbrev cX11_back : ByteArray := prog_13_method_74_code
def yX11_back : MethodName := ⟨RX11, "back", "()Z"⟩
abbrev cX11_count : ByteArray := prog_13_method_75_code
def yX11_count : MethodName := ⟨RX11, "count", "(I)I"⟩
def RJx8e188 : String := "java/lang/Cloneable"
def TJx8e188 : u_T := fun k => match k with
  | _ => ("", "", "", false)
def tyJx8e188 : Nat → FieldType := fun k => match k with
  | _ => .int
abbrev wsJx8e1880 : List Cond := u_ws RJx8e188 TJx8e188 0
theorem nmJx8e188 : ∀ a, a < 0 → ∀ b, b < 0 → a ≠ b → (TJx8e188 a).2.1 ≠ (TJx8e188 b).2.1 := by decide +kernel
theorem tyJx8e188_ok : ∀ k, k < 0 → parseFieldDescriptor (TJx8e188 k).2.2.1 = some (tyJx8e188 k) := by decide +kernel
def RJ13 : String := "java/lang/Long"
def TJ13 : u_T := fun k => match k with
  | _ => ("", "", "", false)
def tyJ13 : Nat → FieldType := fun k => match k with
  | _ => .int
abbrev wsJ130 : List Cond := u_ws RJ13 TJ13 0
theorem nmJ13 : ∀ a, a < 0 → ∀ b, b < 0 → a ≠ b → (TJ13 a).2.1 ≠ (TJ13 b).2.1 := by decide +kernel
theorem tyJ13_ok : ∀ k, k < 0 → parseFieldDescriptor (TJ13 k).2.2.1 = some (tyJ13 k) := by decide +kernel
abbrev cJ13_bitCount_95d88 : ByteArray := prog_16_method_50_code
def yJ13_bitCount_95d88 : MethodName := ⟨RJ13, "bitCount", "(J)I"⟩
def RJ9 : String := "java/lang/Math"
def TJ9 : u_T := fun k => match k with
  | _ => ("", "", "", false)
def tyJ9 : Nat → FieldType := fun k => match k with
  | _ => .int
abbrev wsJ90 : List Cond := u_ws RJ9 TJ9 0
theorem nmJ9 : ∀ a, a < 0 → ∀ b, b < 0 → a ≠ b → (TJ9 a).2.1 ≠ (TJ9 b).2.1 := by decide +kernel
theorem tyJ9_ok : ∀ k, k < 0 → parseFieldDescriptor (TJ9 k).2.2.1 = some (tyJ9 k) := by decide +kernel
abbrev cJ9_max_7cf53 : ByteArray := prog_17_method_65_code
def yJ9_max_7cf53 : MethodName := ⟨RJ9, "max", "(II)I"⟩
abbrev cJ9_min_7cf53 : ByteArray := prog_17_method_69_code
def yJ9_min_7cf53 : MethodName := ⟨RJ9, "min", "(II)I"⟩
def RJ0 : String := "java/lang/String"
def TJ0 : u_T := fun k => match k with
  | _ => ("", "", "", false)
def tyJ0 : Nat → FieldType := fun k => match k with
  | _ => .int
abbrev wsJ00 : List Cond := u_ws RJ0 TJ0 0
theorem nmJ0 : ∀ a, a < 0 → ∀ b, b < 0 → a ≠ b → (TJ0 a).2.1 ≠ (TJ0 b).2.1 := by decide +kernel
theorem tyJ0_ok : ∀ k, k < 0 → parseFieldDescriptor (TJ0 k).2.2.1 = some (tyJ0 k) := by decide +kernel
def RJ10 : String := "java/lang/System"
def TJ10 : u_T := fun k => match k with
  | _ => ("", "", "", false)
def tyJ10 : Nat → FieldType := fun k => match k with
  | _ => .int
abbrev wsJ100 : List Cond := u_ws RJ10 TJ10 0
theorem nmJ10 : ∀ a, a < 0 → ∀ b, b < 0 → a ≠ b → (TJ10 a).2.1 ≠ (TJ10 b).2.1 := by decide +kernel
theorem tyJ10_ok : ∀ k, k < 0 → parseFieldDescriptor (TJ10 k).2.2.1 = some (tyJ10 k) := by decide +kernel
def RJ7 : String := "java/util/Arrays"
def TJ7 : u_T := fun k => match k with
  | _ => ("", "", "", false)
def tyJ7 : Nat → FieldType := fun k => match k with
  | _ => .int
abbrev wsJ70 : List Cond := u_ws RJ7 TJ7 0
theorem nmJ7 : ∀ a, a < 0 → ∀ b, b < 0 → a ≠ b → (TJ7 a).2.1 ≠ (TJ7 b).2.1 := by decide +kernel
theorem tyJ7_ok : ∀ k, k < 0 → parseFieldDescriptor (TJ7 k).2.2.1 = some (tyJ7 k) := by decide +kernel
abbrev cJ7_copyOf_59c91 : ByteArray := prog_22_method_123_code
def yJ7_copyOf_59c91 : MethodName := ⟨RJ7, "copyOf", "([II)[I"⟩
def RL : String := "SplitClocksLaw"
abbrev cL_height : ByteArray := method_3_code
def yL_height : MethodName := ⟨RL, "height", "(LSplitClocks;IJI[J)I"⟩
abbrev cL_owns : ByteArray := method_4_code
def yL_owns : MethodName := ⟨RL, "owns", "(LSplitClocks;IJI[J)I"⟩
abbrev cL_law : ByteArray := code
def yL_law : MethodName := ⟨RL, "law", "([I)Z"⟩
abbrev vwCl : List vw_C := [(RX0, TX0, 6), (RX1, TX1, 2), (RX2, TX2, 10), (RX4, TX4, 2), (RX5, TX5, 2), (RX6, TX6, 3), (RX8, TX8, 3), (RX10, TX10, 11), (RX11, TX11, 68)]
end
section
/-! A MACHINE OF OUR OWN over memories: cells numbered from 0 on, the cell k at the address b + k. Its runs are functions; 'dm_sound' (part 04) says that the JVM does what they do. -/
abbrev dm_Cell : Type := (FieldType × vp_A) ⊕ (Nat × List Value)
abbrev dm_Mem : Type := List dm_Cell
abbrev dm_Lv : Type := List (Nat × Value)
abbrev dm_Fr : Type := Nat × dm_Lv × List Value
abbrev dm_Rs : Type := (dm_Fr × dm_Mem) ⊕ ((Nat × List Value × dm_Fr) ⊕ Option Value)
abbrev dm_Sem : Type := dm_Lv → List Value → dm_Mem → Option dm_Rs
/-- our value as the JVM's: a number of a cell is its address; a float stands for the law's script -/
def dm_v (b zb : Nat) : Value → Value
  | .int x => .int x
  | .long x => .long x
  | .float _ => .ref zb
  | .double x => .double x
  | .null => .null
  | .ref k => .ref (b + k)
  | .retAddr k => .retAddr k
theorem dm_cat (b zb : Nat) (v : Value) : (dm_v b zb v).category = v.category := by cases v <;> rfl
def dm_sz : dm_Cell → Nat
  | .inl a => a.2.1
  | .inr o => o.2.length
def dm_slots (M : dm_Mem) : Nat := (M.map dm_sz).sum
def dm_E (ca : FieldType → ClassId) (b zb : Nat) : dm_Cell → va_E
  | .inl a => .inl (ca a.1, a.2)
  | .inr o => .inr (o.1, o.2.map (dm_v b zb))
def dm_ws (ca : FieldType → ClassId) (b zb : Nat) (M : dm_Mem) : va_W := M.mapIdx (fun k x => (b + k, dm_E ca b zb x))
def dm_lv (b zb : Nat) (lv : dm_Lv) : dm_Lv := lv.map (fun q => (q.1, dm_v b zb q.2))
def dm_tys (ca : FieldType → ClassId) : List (ClassId × FieldType) := [(ca .int, .int), (ca .long, .long), (ca .boolean, .boolean), (ca .byte, .byte), (ca .short, .short)]
def dm_Hp (D : va_G) (ca : FieldType → ClassId) (b zb : Nat) (M : dm_Mem) (H : Heap) : Prop := H.size = b + M.length ∧ va_P D vwCl (dm_ws ca b zb M) H
/-- the links to private members of nest mates -/
def dm_N : List (String × Nat × MethodName × String) := [(RX10, 9, yX2_init, RX10), (RX2, 11, yX8_init, RX10), (RX10, 21, yX0_init, RX10), (RX10, 28, yX5_init, RX10), (RX10, 35, yX1_init, RX10), (RX10, 266, yX9_shareFrom, RX10), (RX10, 272, yX9_heightFrom, RX10)]
def dm_Nk (U : State) : Prop := ∀ q ∈ dm_N, va_Nw (.methodLinkNest q.1 q.2.1 q.2.2.1 q.2.2.2) U
theorem dm_Nk.warm {s U : State} (hW : s.WarmedH U.vm) (h : dm_Nk s) : dm_Nk U := fun q hq => va_Nw.warmM hW (h q hq)
/-- the words that a method of ours stands on: the tables', as far as they hold for ever -/
def dm_W : List Cond := lw_tbl.filter goodWord
theorem dm_in {w : Cond} (h : w ∈ lw_tbl) (g : goodWord w = true) : w ∈ dm_W := List.mem_filter.mpr ⟨h, g⟩
theorem dm_at (i : Nat) {w : Cond} (h : lw_tbl[i]? = some w) (g : goodWord w = true) : w ∈ dm_W := dm_in (List.mem_of_getElem? h) g
theorem dm_goodW {w : Cond} (h : w ∈ dm_W) : (w.onTables && w.keeps) = true ∨ ∃ ty, w = .arrayClass ty := good_of_word (List.mem_filter.mp h).2
-- ===== lists =====
theorem dm_ws_get {ca : FieldType → ClassId} {b zb : Nat} {M : dm_Mem} {k : Nat} {x : dm_Cell} (h : M[k]? = some x) : (dm_ws ca b zb M)[k]? = some (b + k, dm_E ca b zb x) := by
  simp [dm_ws, List.getElem?_mapIdx, h]
theorem dm_ws_of {ca : FieldType → ClassId} {b zb : Nat} {M : dm_Mem} {k : Nat} {q : Nat × va_E} (h : (dm_ws ca b zb M)[k]? = some q) : ∃ x, M[k]? = some x ∧ q = (b + k, dm_E ca b zb x) := by
  simp only [dm_ws, List.getElem?_mapIdx] at h
  cases hm : M[k]? with
  | none => rw [hm] at h; cases h
  | some x => rw [hm] at h; exact ⟨x, rfl, (Option.some.inj h).symm⟩
theorem dm_ws_set (ca : FieldType → ClassId) (b zb : Nat) (M : dm_Mem) (k : Nat) (x : dm_Cell) : dm_ws ca b zb (M.set k x) = (dm_ws ca b zb M).set k (b + k, dm_E ca b zb x) := by
  apply List.ext_getElem?
  intro i
  simp only [dm_ws, List.getElem?_mapIdx, List.getElem?_set, List.length_mapIdx]
  by_cases h : k = i
  · subst h
    by_cases h2 : k < M.length
    · simp [h2]
    · simp [h2]
  · simp [h]
theorem dm_ws_app (ca : FieldType → ClassId) (b zb : Nat) (M : dm_Mem) (x : dm_Cell) : dm_ws ca b zb (M ++ [x]) = dm_ws ca b zb M ++ [(b + M.length, dm_E ca b zb x)] := by
  simp [dm_ws, List.mapIdx_append]
theorem dm_ws_D (ca : FieldType → ClassId) (b zb : Nat) (M : dm_Mem) : va_D (fun q => b ≤ q) (dm_ws ca b zb M) := by
  refine ⟨fun i j p q hi hj h => ?_, fun k q hk => ?_⟩
  · obtain ⟨x, -, rfl⟩ := dm_ws_of hi
    obtain ⟨y, -, rfl⟩ := dm_ws_of hj
    simp only at h
    omega
  · obtain ⟨x, -, rfl⟩ := dm_ws_of hk
    exact Nat.le_add_right _ _
theorem dm_slots_app (M : dm_Mem) (x : dm_Cell) : dm_slots (M ++ [x]) = dm_slots M + dm_sz x := by simp [dm_slots]
theorem dm_slots_set (M : dm_Mem) (k : Nat) (x y : dm_Cell) (h : M[k]? = some x) (hs : dm_sz y = dm_sz x) : dm_slots (M.set k y) = dm_slots M := by
  unfold dm_slots
  congr 1
  apply List.ext_getElem?
  intro i
  simp only [List.getElem?_map, List.getElem?_set]
  by_cases hk : k = i
  · subst hk
    have hl := (List.getElem?_eq_some_iff.mp h).1
    simp [hl, h, hs]
    have := (List.getElem?_eq_some_iff.mp h).2
    simp [this, hs]
  · simp [hk]
def dm_lget : dm_Lv → Nat → Option Value
  | [], _ => none
  | q :: r, i => bif Nat.beq q.1 i then some q.2 else dm_lget r i
theorem dm_lget_mem {lv : dm_Lv} {i : Nat} {v : Value} (h : dm_lget lv i = some v) : (i, v) ∈ lv := by
  induction lv with
  | nil => cases h
  | cons q r ih =>
    unfold dm_lget at h
    cases hb : Nat.beq q.1 i with
    | true =>
      rw [hb] at h
      have h1 : q.1 = i := Nat.eq_of_beq_eq_true hb
      have h2 : q.2 = v := Option.some.inj h
      rw [← h1, ← h2]
      exact List.mem_cons_self
    | false =>
      rw [hb] at h
      exact List.mem_cons_of_mem _ (ih h)
theorem dm_lget_at {lv : dm_Lv} {i b zb nL : Nat} {v : Value} {ls : Array Slot} (hl : lv_has ls nL (dm_lv b zb lv)) (h : dm_lget lv i = some v) : ls[i]? = some (.val (dm_v b zb v)) :=
  hl.2.2 (i, dm_v b zb v) (List.mem_map.mpr ⟨(i, v), dm_lget_mem h, rfl⟩)
/-- the locals behind a store of one word, of two words -/
def dm_set1 (lv : dm_Lv) (i : Nat) (v : Value) : dm_Lv := (i, v) :: lv.filter (fun q => !(q.1 == i) && !(q.1 + 1 == i && q.2.category == 2))
def dm_set2 (lv : dm_Lv) (i : Nat) (v : Value) : dm_Lv := (i, v) :: lv.filter (fun q => !(q.1 == i) && (!(q.1 == i + 1) && !(q.1 + 1 == i && q.2.category == 2)))
theorem dm_set1_lv (b zb : Nat) (lv : dm_Lv) (i : Nat) (v : Value) : (i, dm_v b zb v) :: (dm_lv b zb lv).filter (fun q => !(q.1 == i) && !(q.1 + 1 == i && q.2.category == 2)) = dm_lv b zb (dm_set1 lv i v) := by
  simp only [dm_lv, dm_set1, List.map_cons, List.filter_map]
  congr 2
  apply List.filter_congr
  intro q _
  simp [Function.comp, dm_cat]
theorem dm_set2_lv (b zb : Nat) (lv : dm_Lv) (i : Nat) (v : Value) : (i, dm_v b zb v) :: (dm_lv b zb lv).filter (fun q => !(q.1 == i) && (!(q.1 == i + 1) && !(q.1 + 1 == i && q.2.category == 2))) = dm_lv b zb (dm_set2 lv i v) := by
  simp only [dm_lv, dm_set2, List.map_cons, List.filter_map]
  congr 2
  apply List.filter_congr
  intro q _
  simp [Function.comp, dm_cat]
theorem dm_lv_args (b zb : Nat) (vs : List Value) : ∀ i, lv_args i (vs.map (dm_v b zb)) = dm_lv b zb (lv_args i vs) := by
  induction vs with
  | nil => intro i; rfl
  | cons v vs ih =>
    intro i
    simp only [List.map_cons, lv_args, dm_lv, dm_cat]
    rw [ih]
    rfl
theorem dm_lg_sl (b zb : Nat) (vs : List Value) : (lg_sl (vs.map (dm_v b zb))).length = (lg_sl vs).length := by
  induction vs with
  | nil => rfl
  | cons v vs ih =>
    have h1 : lg_sl (v :: vs) = (if v.category = 2 then [.val v, .second] else [.val v]) ++ lg_sl vs := by simp [lg_sl]
    have h2 : lg_sl ((v :: vs).map (dm_v b zb)) = (if v.category = 2 then [.val (dm_v b zb v), .second] else [.val (dm_v b zb v)]) ++ lg_sl (vs.map (dm_v b zb)) := by simp [lg_sl, dm_cat]
    rw [h1, h2, List.length_append, List.length_append, ih]
    by_cases h : v.category = 2 <;> simp [h]
theorem dm_cats (b zb : Nat) (st : List Value) : ((st.map (dm_v b zb)).map fun v => v.category) = st.map fun v => v.category := by
  simp [List.map_map, Function.comp, dm_cat]
-- ===== positions of the JVM, by ours =====
/-- from every heap that holds M, with the locals and the stack of g, the JVM comes to Q -/
def dm_At (p : Program) (l : Launch) (e : Env) (R : Room) (s : State) (m : MethodId) (args : Array Value) (below : List Frame) (meth : Method) (c : Code) (D : va_G) (ca : FieldType → ClassId) (b zb n0 s0 nL : Nat) (Q : State → Prop) (M : dm_Mem) (g : dm_Fr) : Prop :=
  ∀ (H : Heap) (locs : List Loc) (ls : Array Slot), dm_Hp D ca b zb M H → va_S (fun q => b ≤ q) s.heap H locs → lv_has ls nL (dm_lv b zb g.2.1) → W p l e R s m args below meth c H locs (M.length - n0) (dm_slots M - s0) Q (F0 m g.1 ls (g.2.2.map (dm_v b zb)))
/-- what stands fast while a method runs -/
def dm_Cx (own : String) (cc : ByteArray) (nL : Nat) (ret : Option FieldType) (isI : Bool) (sc : Option (Nat × (Nat → Int32))) (p : Program) (R : Room) (s : State) (m : MethodId) (args : Array Value) (meth : Method) (c : Code) (D : va_G) (ca : FieldType → ClassId) (b zb n0 : Nat) : Prop :=
  p.tables.exec = Jvm.exec ∧ c.code = cc ∧ c.maxLocals = nL ∧ s.vm.findClass own = some m.cls ∧ (∀ w ∈ dm_W, w.before args s = true) ∧ meth.sig.returnType = ret ∧ meth.locks = false ∧ (isI = true → meth.name = "<init>") ∧ va_K D vwCl (dm_tys ca) s ∧ s.heap.size = b + n0 ∧ 1 ≤ R.frames ∧ 64 ≤ R.locals ∧ (∀ (L : Nat) (xs : Nat → Int32), sc = some (L, xs) → va_X zb L xs s s.heap ∧ zb < s.heap.size ∧ zb < b) ∧ dm_Nk s
/-- one step: from M and (pc, lv, st) to M' and g -/
def dm_Nx (own : String) (cc : ByteArray) (nL : Nat) (ret : Option FieldType) (isI : Bool) (sc : Option (Nat × (Nat → Int32))) (pc : Nat) (lv : dm_Lv) (st : List Value) (M : dm_Mem) (g : dm_Fr) (M' : dm_Mem) : Prop :=
  (M.length ≤ M'.length ∧ dm_slots M ≤ dm_slots M') ∧ ∀ (p : Program) (l : Launch) (e : Env) (R : Room) (s : State) (m : MethodId) (args : Array Value) (below : List Frame) (meth : Method) (c : Code) (D : va_G) (ca : FieldType → ClassId) (b zb n0 s0 : Nat) (Q : State → Prop),
    dm_Cx own cc nL ret isI sc p R s m args meth c D ca b zb n0 → n0 ≤ M.length → s0 ≤ dm_slots M → M'.length - n0 ≤ R.cells → dm_slots M' - s0 ≤ R.slots →
    dm_At p l e R s m args below meth c D ca b zb n0 s0 nL Q M' g → dm_At p l e R s m args below meth c D ca b zb n0 s0 nL Q M (pc, lv, st)
/-- what a method leaves: its answer, the memory, nothing else -/
def dm_Qc (D : va_G) (ca : FieldType → ClassId) (b zb : Nat) (r : Option Value) (M' : dm_Mem) : Array Value → State → Outcome → State → Prop := fun _ st oc t =>
  oc = .returned (r.map (dm_v b zb)) ∧ dm_Hp D ca b zb M' t.heap ∧ va_F (fun q => b ≤ q) st t
def dm_Rt (own : String) (cc : ByteArray) (nL : Nat) (ret : Option FieldType) (isI : Bool) (sc : Option (Nat × (Nat → Int32))) (pc : Nat) (lv : dm_Lv) (st : List Value) (M : dm_Mem) (v : Option Value) : Prop :=
  ∀ (p : Program) (l : Launch) (e : Env) (R : Room) (s : State) (m : MethodId) (args : Array Value) (below : List Frame) (meth : Method) (c : Code) (D : va_G) (ca : FieldType → ClassId) (b zb n0 s0 : Nat),
    dm_Cx own cc nL ret isI sc p R s m args meth c D ca b zb n0 →
    dm_At p l e R s m args below meth c D ca b zb n0 s0 nL (MQ below (dm_Qc D ca b zb v M) args s (M.length - n0) (dm_slots M - s0) (fun q => b ≤ q)) M (pc, lv, st)
/-- a method: its name, code, locals, answer, whether it is a constructor -/
abbrev dm_Me : Type := MethodName × ByteArray × Nat × Option FieldType × Bool
def dm_wo (t : dm_Me) : List Cond := Cond.code t.1 t.2.1 t.2.2.1 t.2.2.2.1 :: dm_W
/-- its contract at one memory and one list of arguments -/
def dm_Met (tb : Nat → dm_Me) (l : Launch) (d mi : Nat) (as : List Value) (M : dm_Mem) (r : Option Value) (M' : dm_Mem) : Prop :=
  (M.length ≤ M'.length ∧ dm_slots M ≤ dm_slots M') ∧ ∀ (D : va_G) (ca : FieldType → ClassId) (b zb : Nat),
    Met l (tb mi).1 (dm_wo (tb mi)) ({ frames := d, cells := M'.length - M.length, slots := dm_slots M' - dm_slots M, locals := 64 * d }) (va_Pc (as.map (dm_v b zb)) (fun U => dm_Hp D ca b zb M U.heap ∧ va_K D vwCl (dm_tys ca) U ∧ dm_Nk U)) (dm_Qc D ca b zb r M') (M'.length - M.length) (dm_slots M' - dm_slots M) (fun q => b ≤ q)
def dm_Cl (tb : Nat → dm_Me) (own : String) (cc : ByteArray) (nL : Nat) (ret : Option FieldType) (isI : Bool) (sc : Option (Nat × (Nat → Int32))) (pc : Nat) (lv : dm_Lv) (st : List Value) (M : dm_Mem) (mi : Nat) (as : List Value) (g : dm_Fr) : Prop :=
  ∀ (p : Program) (l : Launch) (e : Env) (R : Room) (s : State) (m : MethodId) (args : Array Value) (below : List Frame) (meth : Method) (c : Code) (D : va_G) (ca : FieldType → ClassId) (b zb n0 s0 : Nat) (Q : State → Prop) (d : Nat) (r : Option Value) (M' : dm_Mem),
    dm_Cx own cc nL ret isI sc p R s m args meth c D ca b zb n0 → n0 ≤ M.length → s0 ≤ dm_slots M → M'.length - n0 ≤ R.cells → dm_slots M' - s0 ≤ R.slots → d + 1 ≤ R.frames → 64 * d + 64 ≤ R.locals → dm_Met tb l d mi as M r M' →
    dm_At p l e R s m args below meth c D ca b zb n0 s0 nL Q M' (g.1, g.2.1, r.toList ++ g.2.2) → dm_At p l e R s m args below meth c D ca b zb n0 s0 nL Q M (pc, lv, st)
def dm_Res (tb : Nat → dm_Me) (own : String) (cc : ByteArray) (nL : Nat) (ret : Option FieldType) (isI : Bool) (sc : Option (Nat × (Nat → Int32))) (pc : Nat) (lv : dm_Lv) (st : List Value) (M : dm_Mem) : dm_Rs → Prop
  | .inl q => dm_Nx own cc nL ret isI sc pc lv st M q.1 q.2
  | .inr (.inl q) => dm_Cl tb own cc nL ret isI sc pc lv st M q.1 q.2.1 q.2.2
  | .inr (.inr v) => dm_Rt own cc nL ret isI sc pc lv st M v
/-- a step of ours is the JVM's -/
def dm_Good (tb : Nat → dm_Me) (own : String) (cc : ByteArray) (nL : Nat) (ret : Option FieldType) (isI : Bool) (sc : Option (Nat × (Nat → Int32))) (pc : Nat) (f : dm_Sem) : Prop :=
  ∀ (lv : dm_Lv) (st : List Value) (M : dm_Mem) (o : dm_Rs), f lv st M = some o → dm_Res tb own cc nL ret isI sc pc lv st M o
/-- steps that leave the memory alone -/
theorem dm_pure {own : String} {cc : ByteArray} {nL : Nat} {ret : Option FieldType} {isI : Bool} {sc : Option (Nat × (Nat → Int32))} {pc : Nat} {lv : dm_Lv} {st : List Value} {M : dm_Mem} {g : dm_Fr}
    (h : ∀ (p : Program) (l : Launch) (e : Env) (R : Room) (s : State) (m : MethodId) (args : Array Value) (below : List Frame) (meth : Method) (c : Code) (D : va_G) (ca : FieldType → ClassId) (b zb n0 : Nat) (Q : State → Prop) (H : Heap) (locs : List Loc) (ls : Array Slot) (cells slots : Nat),
      dm_Cx own cc nL ret isI sc p R s m args meth c D ca b zb n0 → dm_Hp D ca b zb M H → lv_has ls nL (dm_lv b zb lv) → cells ≤ R.cells → slots ≤ R.slots →
      (∀ ls' : Array Slot, lv_has ls' nL (dm_lv b zb g.2.1) → W p l e R s m args below meth c H locs cells slots Q (F0 m g.1 ls' (g.2.2.map (dm_v b zb)))) → W p l e R s m args below meth c H locs cells slots Q (F0 m pc ls (st.map (dm_v b zb)))) :
    dm_Nx own cc nL ret isI sc pc lv st M g M := by
  refine ⟨⟨Nat.le_refl _, Nat.le_refl _⟩, ?_⟩
  intro p l e R s m args below meth c D ca b zb n0 s0 Q hC _ _ h1 h2 hk H locs ls hH hS hl
  exact h p l e R s m args below meth c D ca b zb n0 Q H locs ls _ _ hC hH hl h1 h2 (fun ls' hl' => hk H locs ls' hH hS hl')
theorem dm_size {p : Program} {l : Launch} {e : Env} {R : Room} {s : State} {m : MethodId} {args : Array Value} {below : List Frame} {meth : Method} {c : Code} {H : Heap} {locs : List Loc} {cells slots : Nat} {Q : State → Prop} {g : JFrame}
    (h : H.size ≤ s.heap.size + cells → W p l e R s m args below meth c H locs cells slots Q g) : W p l e R s m args below meth c H locs cells slots Q g := fun T hT X => h (by rw [← hT]; exact X.heapSize) T hT X
/-- steps that put one cell -/
theorem dm_putc {own : String} {cc : ByteArray} {nL : Nat} {ret : Option FieldType} {isI : Bool} {sc : Option (Nat × (Nat → Int32))} {pc : Nat} {lv : dm_Lv} {st : List Value} {M : dm_Mem} {g : dm_Fr} {k : Nat} {x y : dm_Cell} (hx : M[k]? = some x) (hy : dm_sz y = dm_sz x)
    (h : ∀ (p : Program) (l : Launch) (e : Env) (R : Room) (s : State) (m : MethodId) (args : Array Value) (below : List Frame) (meth : Method) (c : Code) (D : va_G) (ca : FieldType → ClassId) (b zb n0 : Nat) (Q : State → Prop) (H : Heap) (locs : List Loc) (ls : Array Slot) (cells slots : Nat),
      dm_Cx own cc nL ret isI sc p R s m args meth c D ca b zb n0 → dm_Hp D ca b zb M H → va_S (fun q => b ≤ q) s.heap H locs → va_D (fun q => b ≤ q) (dm_ws ca b zb M) → lv_has ls nL (dm_lv b zb lv) →
      (∀ (H1 : Heap) (locs1 : List Loc), va_P D vwCl ((dm_ws ca b zb M).set k (b + k, dm_E ca b zb y)) H1 → va_S (fun q => b ≤ q) s.heap H1 locs1 → W p l e R s m args below meth c H1 locs1 cells slots Q (F0 m g.1 ls (g.2.2.map (dm_v b zb)))) → W p l e R s m args below meth c H locs cells slots Q (F0 m pc ls (st.map (dm_v b zb))))
    (hg : g.2.1 = lv) : dm_Nx own cc nL ret isI sc pc lv st M g (M.set k y) := by
  have hs := dm_slots_set M k x y hx hy
  refine ⟨⟨by simp, by rw [hs]; exact Nat.le_refl _⟩, ?_⟩
  intro p l e R s m args below meth c D ca b zb n0 s0 Q hC hn _ h1 h2 hk H locs ls hH hS hl
  refine h p l e R s m args below meth c D ca b zb n0 Q H locs ls _ _ hC hH hS (dm_ws_D ca b zb M) hl (fun H1 locs1 hP1 hS1 => ?_)
  refine dm_size (fun hz => ?_)
  have hP2 : va_P D vwCl (dm_ws ca b zb (M.set k y)) H1 := by rw [dm_ws_set]; exact hP1
  have hlen : (M.set k y).length = M.length := by simp
  have hkl : k < M.length := (List.getElem?_eq_some_iff.mp hx).1
  have hb : s.heap.size = b + n0 := hC.2.2.2.2.2.2.2.2.2.1
  have hlast : b + (M.length - 1) < H1.size := by
    have hm : M.length - 1 < (M.set k y).length := by rw [hlen]; omega
    have := (hP2 (M.length - 1) _ (dm_ws_get (List.getElem?_eq_getElem hm))).lt
    simpa using this
  have hw := hk H1 locs1 ls ⟨by rw [hlen]; omega, hP2⟩ hS1 (by rw [hg]; exact hl)
  rw [hlen, hs] at hw
  exact hw
end
section
def dm_push (n : Nat) (v : Value) : dm_Sem := fun lv st M => some (.inl ((n, lv, v :: st), M))
theorem dg_iconst {tb : Nat → dm_Me} {own : String} {cc : ByteArray} {nL : Nat} {ret : Option FieldType} {isI : Bool} {sc : Option (Nat × (Nat → Int32))} {pc : Nat} {n : Int} {v : Int32} (hv : Int32.ofInt n = v) (hd : decode cc pc = .ok (.iconst n, 1)) : dm_Good tb own cc nL ret isI sc pc (dm_push (pc + 1) (.int v)) := by
  intro lv st M o h
  cases h
  refine dm_pure (fun p l e R s m args below meth c D ca b zb n0 Q H locs ls cells slots hC hH hl h1 h2 hk => ?_)
  obtain ⟨hx, hb, hml, hown, hts, hr, hlk, hin, hK, hsz, hf, hlo, hsc⟩ := hC
  exact lv_iconst hx hb hd hv (hk ls hl)
theorem dg_bipush {tb : Nat → dm_Me} {own : String} {cc : ByteArray} {nL : Nat} {ret : Option FieldType} {isI : Bool} {sc : Option (Nat × (Nat → Int32))} {pc : Nat} {n : Int} {v : Int32} (hv : (Int8.ofInt n).toInt32 = v) (hd : decode cc pc = .ok (.bipush n, 2)) : dm_Good tb own cc nL ret isI sc pc (dm_push (pc + 2) (.int v)) := by
  intro lv st M o h
  cases h
  refine dm_pure (fun p l e R s m args below meth c D ca b zb n0 Q H locs ls cells slots hC hH hl h1 h2 hk => ?_)
  obtain ⟨hx, hb, hml, hown, hts, hr, hlk, hin, hK, hsz, hf, hlo, hsc⟩ := hC
  exact lv_bipush hx hb hd hv (hk ls hl)
theorem dg_sipush {tb : Nat → dm_Me} {own : String} {cc : ByteArray} {nL : Nat} {ret : Option FieldType} {isI : Bool} {sc : Option (Nat × (Nat → Int32))} {pc : Nat} {n : Int} {v : Int32} (hv : (Int16.ofInt n).toInt32 = v) (hd : decode cc pc = .ok (.sipush n, 3)) : dm_Good tb own cc nL ret isI sc pc (dm_push (pc + 3) (.int v)) := by
  intro lv st M o h
  cases h
  refine dm_pure (fun p l e R s m args below meth c D ca b zb n0 Q H locs ls cells slots hC hH hl h1 h2 hk => ?_)
  obtain ⟨hx, hb, hml, hown, hts, hr, hlk, hin, hK, hsz, hf, hlo, hsc⟩ := hC
  exact lv_sipush hx hb hd hv (hk ls hl)
theorem dg_lconst {tb : Nat → dm_Me} {own : String} {cc : ByteArray} {nL : Nat} {ret : Option FieldType} {isI : Bool} {sc : Option (Nat × (Nat → Int32))} {pc : Nat} {n : Fin 2} {v : Int64} (hv : Int64.ofNat (n : Nat) = v) (hd : decode cc pc = .ok (.lconst n, 1)) : dm_Good tb own cc nL ret isI sc pc (dm_push (pc + 1) (.long v)) := by
  intro lv st M o h
  cases h
  refine dm_pure (fun p l e R s m args below meth c D ca b zb n0 Q H locs ls cells slots hC hH hl h1 h2 hk => ?_)
  obtain ⟨hx, hb, hml, hown, hts, hr, hlk, hin, hK, hsz, hf, hlo, hsc⟩ := hC
  exact lv_lconst hx hb hd hv (hk ls hl)
theorem dg_ldc {tb : Nat → dm_Me} {own : String} {cc : ByteArray} {nL : Nat} {ret : Option FieldType} {isI : Bool} {sc : Option (Nat × (Nat → Int32))} {pc : Nat} {n : Nat} {v : Int32} (hv : Cond.constant own n v ∈ dm_W) (hd : decode cc pc = .ok (.ldc n, 2)) : dm_Good tb own cc nL ret isI sc pc (dm_push (pc + 2) (.int v)) := by
  intro lv st M o h
  cases h
  refine dm_pure (fun p l e R s m args below meth c D ca b zb n0 Q H locs ls cells slots hC hH hl h1 h2 hk => ?_)
  obtain ⟨hx, hb, hml, hown, hts, hr, hlk, hin, hK, hsz, hf, hlo, hsc⟩ := hC
  exact lv_ldc hx hb hown (hts _ hv) hd (hk ls hl)
theorem dg_ldc2 {tb : Nat → dm_Me} {own : String} {cc : ByteArray} {nL : Nat} {ret : Option FieldType} {isI : Bool} {sc : Option (Nat × (Nat → Int32))} {pc : Nat} {n : Nat} {v : Int64} (hv : Cond.constantLong own n v ∈ dm_W) (hd : decode cc pc = .ok (.ldc2_w n, 3)) : dm_Good tb own cc nL ret isI sc pc (dm_push (pc + 3) (.long v)) := by
  intro lv st M o h
  cases h
  refine dm_pure (fun p l e R s m args below meth c D ca b zb n0 Q H locs ls cells slots hC hH hl h1 h2 hk => ?_)
  obtain ⟨hx, hb, hml, hown, hts, hr, hlk, hin, hK, hsz, hf, hlo, hsc⟩ := hC
  exact lv_ldc2 hx hb hown (hts _ hv) hd (hk ls hl)
def dm_ild (n i : Nat) : dm_Sem := fun lv st M => match dm_lget lv i with
  | some (.int x) => some (.inl ((n, lv, .int x :: st), M))
  | _ => none
theorem dg_iload_n {tb : Nat → dm_Me} {own : String} {cc : ByteArray} {nL : Nat} {ret : Option FieldType} {isI : Bool} {sc : Option (Nat × (Nat → Int32))} {pc : Nat} {k : Fin 4} {i : Nat} (hi : (k : Nat) = i) (hd : decode cc pc = .ok (.iload_n k, 1)) : dm_Good tb own cc nL ret isI sc pc (dm_ild (pc + 1) i) := by
  intro lv st M o h
  unfold dm_ild at h
  split at h
  · rename_i x e1
    cases h
    refine dm_pure (fun p l e R s m args below meth c D ca b zb n0 Q H locs ls cells slots hC hH hl h1 h2 hk => ?_)
    obtain ⟨hx, hb, hml, hown, hts, hr, hlk, hin, hK, hsz, hf, hlo, hsc⟩ := hC
    exact lv_iload_n hx hb hd hi (dm_lget_at hl e1) (hk ls hl)
  · cases h
theorem dg_iload {tb : Nat → dm_Me} {own : String} {cc : ByteArray} {nL : Nat} {ret : Option FieldType} {isI : Bool} {sc : Option (Nat × (Nat → Int32))} {pc : Nat} {i : Nat} (hd : decode cc pc = .ok (.iload i, 2)) : dm_Good tb own cc nL ret isI sc pc (dm_ild (pc + 2) i) := by
  intro lv st M o h
  unfold dm_ild at h
  split at h
  · rename_i x e1
    cases h
    refine dm_pure (fun p l e R s m args below meth c D ca b zb n0 Q H locs ls cells slots hC hH hl h1 h2 hk => ?_)
    obtain ⟨hx, hb, hml, hown, hts, hr, hlk, hin, hK, hsz, hf, hlo, hsc⟩ := hC
    exact lv_iload hx hb hd (dm_lget_at hl e1) (hk ls hl)
  · cases h
def dm_lld (n i : Nat) : dm_Sem := fun lv st M => match dm_lget lv i with
  | some (.long x) => some (.inl ((n, lv, .long x :: st), M))
  | _ => none
theorem dg_lload_n {tb : Nat → dm_Me} {own : String} {cc : ByteArray} {nL : Nat} {ret : Option FieldType} {isI : Bool} {sc : Option (Nat × (Nat → Int32))} {pc : Nat} {k : Fin 4} {i : Nat} (hi : (k : Nat) = i) (hd : decode cc pc = .ok (.lload_n k, 1)) : dm_Good tb own cc nL ret isI sc pc (dm_lld (pc + 1) i) := by
  intro lv st M o h
  unfold dm_lld at h
  split at h
  · rename_i x e1
    cases h
    refine dm_pure (fun p l e R s m args below meth c D ca b zb n0 Q H locs ls cells slots hC hH hl h1 h2 hk => ?_)
    obtain ⟨hx, hb, hml, hown, hts, hr, hlk, hin, hK, hsz, hf, hlo, hsc⟩ := hC
    exact lv_lload_n hx hb hd hi (dm_lget_at hl e1) (hk ls hl)
  · cases h
theorem dg_lload {tb : Nat → dm_Me} {own : String} {cc : ByteArray} {nL : Nat} {ret : Option FieldType} {isI : Bool} {sc : Option (Nat × (Nat → Int32))} {pc : Nat} {i : Nat} (hd : decode cc pc = .ok (.lload i, 2)) : dm_Good tb own cc nL ret isI sc pc (dm_lld (pc + 2) i) := by
  intro lv st M o h
  unfold dm_lld at h
  split at h
  · rename_i x e1
    cases h
    refine dm_pure (fun p l e R s m args below meth c D ca b zb n0 Q H locs ls cells slots hC hH hl h1 h2 hk => ?_)
    obtain ⟨hx, hb, hml, hown, hts, hr, hlk, hin, hK, hsz, hf, hlo, hsc⟩ := hC
    exact lv_lload hx hb hd (dm_lget_at hl e1) (hk ls hl)
  · cases h
def dm_ald (n i : Nat) : dm_Sem := fun lv st M => match dm_lget lv i with
  | some (.ref x) => some (.inl ((n, lv, .ref x :: st), M))
  | some (.float x) => some (.inl ((n, lv, .float x :: st), M))
  | _ => none
theorem dg_aload_n {tb : Nat → dm_Me} {own : String} {cc : ByteArray} {nL : Nat} {ret : Option FieldType} {isI : Bool} {sc : Option (Nat × (Nat → Int32))} {pc : Nat} {k : Fin 4} {i : Nat} (hi : (k : Nat) = i) (hd : decode cc pc = .ok (.aload_n k, 1)) : dm_Good tb own cc nL ret isI sc pc (dm_ald (pc + 1) i) := by
  intro lv st M o h
  unfold dm_ald at h
  split at h
  · rename_i x e1
    cases h
    refine dm_pure (fun p l e R s m args below meth c D ca b zb n0 Q H locs ls cells slots hC hH hl h1 h2 hk => ?_)
    obtain ⟨hx, hb, hml, hown, hts, hr, hlk, hin, hK, hsz, hf, hlo, hsc⟩ := hC
    exact lv_aload_n hx hb hd hi (dm_lget_at hl e1) (hk ls hl)
  · rename_i x e1
    cases h
    refine dm_pure (fun p l e R s m args below meth c D ca b zb n0 Q H locs ls cells slots hC hH hl h1 h2 hk => ?_)
    obtain ⟨hx, hb, hml, hown, hts, hr, hlk, hin, hK, hsz, hf, hlo, hsc⟩ := hC
    exact lv_aload_n hx hb hd hi (dm_lget_at hl e1) (hk ls hl)
  · cases h
theorem dg_aload {tb : Nat → dm_Me} {own : String} {cc : ByteArray} {nL : Nat} {ret : Option FieldType} {isI : Bool} {sc : Option (Nat × (Nat → Int32))} {pc : Nat} {i : Nat} (hd : decode cc pc = .ok (.aload i, 2)) : dm_Good tb own cc nL ret isI sc pc (dm_ald (pc + 2) i) := by
  intro lv st M o h
  unfold dm_ald at h
  split at h
  · rename_i x e1
    cases h
    refine dm_pure (fun p l e R s m args below meth c D ca b zb n0 Q H locs ls cells slots hC hH hl h1 h2 hk => ?_)
    obtain ⟨hx, hb, hml, hown, hts, hr, hlk, hin, hK, hsz, hf, hlo, hsc⟩ := hC
    exact lv_aload hx hb hd (dm_lget_at hl e1) (hk ls hl)
  · rename_i x e1
    cases h
    refine dm_pure (fun p l e R s m args below meth c D ca b zb n0 Q H locs ls cells slots hC hH hl h1 h2 hk => ?_)
    obtain ⟨hx, hb, hml, hown, hts, hr, hlk, hin, hK, hsz, hf, hlo, hsc⟩ := hC
    exact lv_aload hx hb hd (dm_lget_at hl e1) (hk ls hl)
  · cases h
def dm_ist (n i : Nat) : dm_Sem := fun lv st M => match st with
  | .int x :: r => some (.inl ((n, dm_set1 lv i (.int x), r), M))
  | _ => none
theorem dg_istore_n {tb : Nat → dm_Me} {own : String} {cc : ByteArray} {nL : Nat} {ret : Option FieldType} {isI : Bool} {sc : Option (Nat × (Nat → Int32))} {pc : Nat} {k : Fin 4} {i : Nat} (hi : (k : Nat) = i) (hn : i < nL) (hd : decode cc pc = .ok (.istore_n k, 1)) : dm_Good tb own cc nL ret isI sc pc (dm_ist (pc + 1) i) := by
  intro lv st M o h
  unfold dm_ist at h
  split at h
  · rename_i x r
    cases h
    refine dm_pure (fun p l e R s m args below meth c D ca b zb n0 Q H locs ls cells slots hC hH hl h1 h2 hk => ?_)
    obtain ⟨hx, hb, hml, hown, hts, hr, hlk, hin, hK, hsz, hf, hlo, hsc⟩ := hC
    exact lv_istore_n hx hb hd hi hl hn (dm_set1_lv b zb lv i (.int x)) (fun ls' hl' => hk ls' hl')
  · cases h
theorem dg_istore {tb : Nat → dm_Me} {own : String} {cc : ByteArray} {nL : Nat} {ret : Option FieldType} {isI : Bool} {sc : Option (Nat × (Nat → Int32))} {pc : Nat} {i : Nat} (hn : i < nL) (hd : decode cc pc = .ok (.istore i, 2)) : dm_Good tb own cc nL ret isI sc pc (dm_ist (pc + 2) i) := by
  intro lv st M o h
  unfold dm_ist at h
  split at h
  · rename_i x r
    cases h
    refine dm_pure (fun p l e R s m args below meth c D ca b zb n0 Q H locs ls cells slots hC hH hl h1 h2 hk => ?_)
    obtain ⟨hx, hb, hml, hown, hts, hr, hlk, hin, hK, hsz, hf, hlo, hsc⟩ := hC
    exact lv_istore hx hb hd hl hn (dm_set1_lv b zb lv i (.int x)) (fun ls' hl' => hk ls' hl')
  · cases h
def dm_lst (n i : Nat) : dm_Sem := fun lv st M => match st with
  | .long x :: r => some (.inl ((n, dm_set2 lv i (.long x), r), M))
  | _ => none
theorem dg_lstore_n {tb : Nat → dm_Me} {own : String} {cc : ByteArray} {nL : Nat} {ret : Option FieldType} {isI : Bool} {sc : Option (Nat × (Nat → Int32))} {pc : Nat} {k : Fin 4} {i : Nat} (hi : (k : Nat) = i) (hn : i + 1 < nL) (hd : decode cc pc = .ok (.lstore_n k, 1)) : dm_Good tb own cc nL ret isI sc pc (dm_lst (pc + 1) i) := by
  intro lv st M o h
  unfold dm_lst at h
  split at h
  · rename_i x r
    cases h
    refine dm_pure (fun p l e R s m args below meth c D ca b zb n0 Q H locs ls cells slots hC hH hl h1 h2 hk => ?_)
    obtain ⟨hx, hb, hml, hown, hts, hr, hlk, hin, hK, hsz, hf, hlo, hsc⟩ := hC
    exact lv_lstore_n hx hb hd hi hl hn (dm_set2_lv b zb lv i (.long x)) (fun ls' hl' => hk ls' hl')
  · cases h
theorem dg_lstore {tb : Nat → dm_Me} {own : String} {cc : ByteArray} {nL : Nat} {ret : Option FieldType} {isI : Bool} {sc : Option (Nat × (Nat → Int32))} {pc : Nat} {i : Nat} (hn : i + 1 < nL) (hd : decode cc pc = .ok (.lstore i, 2)) : dm_Good tb own cc nL ret isI sc pc (dm_lst (pc + 2) i) := by
  intro lv st M o h
  unfold dm_lst at h
  split at h
  · rename_i x r
    cases h
    refine dm_pure (fun p l e R s m args below meth c D ca b zb n0 Q H locs ls cells slots hC hH hl h1 h2 hk => ?_)
    obtain ⟨hx, hb, hml, hown, hts, hr, hlk, hin, hK, hsz, hf, hlo, hsc⟩ := hC
    exact lv_lstore hx hb hd hl hn (dm_set2_lv b zb lv i (.long x)) (fun ls' hl' => hk ls' hl')
  · cases h
def dm_ast (n i : Nat) : dm_Sem := fun lv st M => match st with
  | .ref x :: r => some (.inl ((n, dm_set1 lv i (.ref x), r), M))
  | _ => none
theorem dg_astore_n {tb : Nat → dm_Me} {own : String} {cc : ByteArray} {nL : Nat} {ret : Option FieldType} {isI : Bool} {sc : Option (Nat × (Nat → Int32))} {pc : Nat} {k : Fin 4} {i : Nat} (hi : (k : Nat) = i) (hn : i < nL) (hd : decode cc pc = .ok (.astore_n k, 1)) : dm_Good tb own cc nL ret isI sc pc (dm_ast (pc + 1) i) := by
  intro lv st M o h
  unfold dm_ast at h
  split at h
  · rename_i x r
    cases h
    refine dm_pure (fun p l e R s m args below meth c D ca b zb n0 Q H locs ls cells slots hC hH hl h1 h2 hk => ?_)
    obtain ⟨hx, hb, hml, hown, hts, hr, hlk, hin, hK, hsz, hf, hlo, hsc⟩ := hC
    exact lv_astore_n hx hb hd hi hl hn (dm_set1_lv b zb lv i (.ref x)) (fun ls' hl' => hk ls' hl')
  · cases h
theorem dg_astore {tb : Nat → dm_Me} {own : String} {cc : ByteArray} {nL : Nat} {ret : Option FieldType} {isI : Bool} {sc : Option (Nat × (Nat → Int32))} {pc : Nat} {i : Nat} (hn : i < nL) (hd : decode cc pc = .ok (.astore i, 2)) : dm_Good tb own cc nL ret isI sc pc (dm_ast (pc + 2) i) := by
  intro lv st M o h
  unfold dm_ast at h
  split at h
  · rename_i x r
    cases h
    refine dm_pure (fun p l e R s m args below meth c D ca b zb n0 Q H locs ls cells slots hC hH hl h1 h2 hk => ?_)
    obtain ⟨hx, hb, hml, hown, hts, hr, hlk, hin, hK, hsz, hf, hlo, hsc⟩ := hC
    exact lv_astore hx hb hd hl hn (dm_set1_lv b zb lv i (.ref x)) (fun ls' hl' => hk ls' hl')
  · cases h
def dm_iinc (n i : Nat) (d : Int32) : dm_Sem := fun lv st M => match dm_lget lv i with
  | some (.int x) => some (.inl ((n, dm_set1 lv i (.int (x + d)), st), M))
  | _ => none
theorem dg_iinc {tb : Nat → dm_Me} {own : String} {cc : ByteArray} {nL : Nat} {ret : Option FieldType} {isI : Bool} {sc : Option (Nat × (Nat → Int32))} {pc : Nat} {i : Nat} {n : Int} {d : Int32} (hv : Int32.ofInt n = d) (hn : i < nL) (hd : decode cc pc = .ok (.iinc i n, 3)) : dm_Good tb own cc nL ret isI sc pc (dm_iinc (pc + 3) i d) := by
  intro lv st M o h
  unfold dm_iinc at h
  split at h
  · rename_i x e1
    cases h
    refine dm_pure (fun p l e R s m args below meth c D ca b zb n0 Q H locs ls cells slots hC hH hl h1 h2 hk => ?_)
    obtain ⟨hx, hb, hml, hown, hts, hr, hlk, hin, hK, hsz, hf, hlo, hsc⟩ := hC
    obtain ⟨k, hk1⟩ := List.getElem?_of_mem (List.mem_map.mpr ⟨(i, Value.int x), dm_lget_mem e1, rfl⟩ : ((i, Value.int x) : Nat × Value) ∈ dm_lv b zb lv)
    exact lv_iinc (v := x + d) hx hb hd hl hk1 (by rw [hv]) hn (dm_set1_lv b zb lv i (.int (x + d))) (fun ls' hl' => hk ls' hl')
  · cases h
def dm_ii (n : Nat) (f : Int32 → Int32 → Int32) : dm_Sem := fun lv st M => match st with
  | .int y :: .int x :: r => some (.inl ((n, lv, .int (f x y) :: r), M))
  | _ => none
def dm_ll (n : Nat) (f : Int64 → Int64 → Int64) : dm_Sem := fun lv st M => match st with
  | .long y :: .long x :: r => some (.inl ((n, lv, .long (f x y) :: r), M))
  | _ => none
def dm_li (n : Nat) (f : Int64 → Int32 → Int64) : dm_Sem := fun lv st M => match st with
  | .int y :: .long x :: r => some (.inl ((n, lv, .long (f x y) :: r), M))
  | _ => none
def dm_lq (n : Nat) (f : Int64 → Int64 → Int64) : dm_Sem := fun lv st M => match st with
  | .long y :: .long x :: r => if y = 0 then none else some (.inl ((n, lv, .long (f x y) :: r), M))
  | _ => none
def dm_iq (n : Nat) (f : Int32 → Int32 → Int32) : dm_Sem := fun lv st M => match st with
  | .int y :: .int x :: r => if y = 0 then none else some (.inl ((n, lv, .int (f x y) :: r), M))
  | _ => none
def dm_lc (n : Nat) : dm_Sem := fun lv st M => match st with
  | .long y :: .long x :: r => some (.inl ((n, lv, .int (lg_cmp x y) :: r), M))
  | _ => none
theorem dg_iadd {tb : Nat → dm_Me} {own : String} {cc : ByteArray} {nL : Nat} {ret : Option FieldType} {isI : Bool} {sc : Option (Nat × (Nat → Int32))} {pc : Nat} (hd : decode cc pc = .ok (.iadd, 1)) : dm_Good tb own cc nL ret isI sc pc (dm_ii (pc + 1) (fun x y => x + y)) := by
  intro lv st M o h
  unfold dm_ii at h
  split at h
  · cases h
    refine dm_pure (fun p l e R s m args below meth c D ca b zb n0 Q H locs ls cells slots hC hH hl h1 h2 hk => ?_)
    obtain ⟨hx, hb, hml, hown, hts, hr, hlk, hin, hK, hsz, hf, hlo, hsc⟩ := hC
    exact lv_iadd hx hb hd (hk ls hl)
  · cases h
theorem dg_isub {tb : Nat → dm_Me} {own : String} {cc : ByteArray} {nL : Nat} {ret : Option FieldType} {isI : Bool} {sc : Option (Nat × (Nat → Int32))} {pc : Nat} (hd : decode cc pc = .ok (.isub, 1)) : dm_Good tb own cc nL ret isI sc pc (dm_ii (pc + 1) (fun x y => x - y)) := by
  intro lv st M o h
  unfold dm_ii at h
  split at h
  · cases h
    refine dm_pure (fun p l e R s m args below meth c D ca b zb n0 Q H locs ls cells slots hC hH hl h1 h2 hk => ?_)
    obtain ⟨hx, hb, hml, hown, hts, hr, hlk, hin, hK, hsz, hf, hlo, hsc⟩ := hC
    exact lv_isub hx hb hd (hk ls hl)
  · cases h
theorem dg_imul {tb : Nat → dm_Me} {own : String} {cc : ByteArray} {nL : Nat} {ret : Option FieldType} {isI : Bool} {sc : Option (Nat × (Nat → Int32))} {pc : Nat} (hd : decode cc pc = .ok (.imul, 1)) : dm_Good tb own cc nL ret isI sc pc (dm_ii (pc + 1) (fun x y => x * y)) := by
  intro lv st M o h
  unfold dm_ii at h
  split at h
  · cases h
    refine dm_pure (fun p l e R s m args below meth c D ca b zb n0 Q H locs ls cells slots hC hH hl h1 h2 hk => ?_)
    obtain ⟨hx, hb, hml, hown, hts, hr, hlk, hin, hK, hsz, hf, hlo, hsc⟩ := hC
    exact lv_imul hx hb hd (hk ls hl)
  · cases h
theorem dg_iand {tb : Nat → dm_Me} {own : String} {cc : ByteArray} {nL : Nat} {ret : Option FieldType} {isI : Bool} {sc : Option (Nat × (Nat → Int32))} {pc : Nat} (hd : decode cc pc = .ok (.iand, 1)) : dm_Good tb own cc nL ret isI sc pc (dm_ii (pc + 1) (fun x y => x &&& y)) := by
  intro lv st M o h
  unfold dm_ii at h
  split at h
  · cases h
    refine dm_pure (fun p l e R s m args below meth c D ca b zb n0 Q H locs ls cells slots hC hH hl h1 h2 hk => ?_)
    obtain ⟨hx, hb, hml, hown, hts, hr, hlk, hin, hK, hsz, hf, hlo, hsc⟩ := hC
    exact lv_iand hx hb hd (hk ls hl)
  · cases h
theorem dg_ishl {tb : Nat → dm_Me} {own : String} {cc : ByteArray} {nL : Nat} {ret : Option FieldType} {isI : Bool} {sc : Option (Nat × (Nat → Int32))} {pc : Nat} (hd : decode cc pc = .ok (.ishl, 1)) : dm_Good tb own cc nL ret isI sc pc (dm_ii (pc + 1) (fun x y => x <<< (y &&& 31))) := by
  intro lv st M o h
  unfold dm_ii at h
  split at h
  · cases h
    refine dm_pure (fun p l e R s m args below meth c D ca b zb n0 Q H locs ls cells slots hC hH hl h1 h2 hk => ?_)
    obtain ⟨hx, hb, hml, hown, hts, hr, hlk, hin, hK, hsz, hf, hlo, hsc⟩ := hC
    exact lv_ishl hx hb hd (hk ls hl)
  · cases h
theorem dg_ishr {tb : Nat → dm_Me} {own : String} {cc : ByteArray} {nL : Nat} {ret : Option FieldType} {isI : Bool} {sc : Option (Nat × (Nat → Int32))} {pc : Nat} (hd : decode cc pc = .ok (.ishr, 1)) : dm_Good tb own cc nL ret isI sc pc (dm_ii (pc + 1) (fun x y => x >>> (y &&& 31))) := by
  intro lv st M o h
  unfold dm_ii at h
  split at h
  · cases h
    refine dm_pure (fun p l e R s m args below meth c D ca b zb n0 Q H locs ls cells slots hC hH hl h1 h2 hk => ?_)
    obtain ⟨hx, hb, hml, hown, hts, hr, hlk, hin, hK, hsz, hf, hlo, hsc⟩ := hC
    exact lv_ishr hx hb hd (hk ls hl)
  · cases h
theorem dg_ladd {tb : Nat → dm_Me} {own : String} {cc : ByteArray} {nL : Nat} {ret : Option FieldType} {isI : Bool} {sc : Option (Nat × (Nat → Int32))} {pc : Nat} (hd : decode cc pc = .ok (.ladd, 1)) : dm_Good tb own cc nL ret isI sc pc (dm_ll (pc + 1) (fun x y => x + y)) := by
  intro lv st M o h
  unfold dm_ll at h
  split at h
  · cases h
    refine dm_pure (fun p l e R s m args below meth c D ca b zb n0 Q H locs ls cells slots hC hH hl h1 h2 hk => ?_)
    obtain ⟨hx, hb, hml, hown, hts, hr, hlk, hin, hK, hsz, hf, hlo, hsc⟩ := hC
    exact lv_ladd hx hb hd (hk ls hl)
  · cases h
theorem dg_lsub {tb : Nat → dm_Me} {own : String} {cc : ByteArray} {nL : Nat} {ret : Option FieldType} {isI : Bool} {sc : Option (Nat × (Nat → Int32))} {pc : Nat} (hd : decode cc pc = .ok (.lsub, 1)) : dm_Good tb own cc nL ret isI sc pc (dm_ll (pc + 1) (fun x y => x - y)) := by
  intro lv st M o h
  unfold dm_ll at h
  split at h
  · cases h
    refine dm_pure (fun p l e R s m args below meth c D ca b zb n0 Q H locs ls cells slots hC hH hl h1 h2 hk => ?_)
    obtain ⟨hx, hb, hml, hown, hts, hr, hlk, hin, hK, hsz, hf, hlo, hsc⟩ := hC
    exact lv_lsub hx hb hd (hk ls hl)
  · cases h
theorem dg_lmul {tb : Nat → dm_Me} {own : String} {cc : ByteArray} {nL : Nat} {ret : Option FieldType} {isI : Bool} {sc : Option (Nat × (Nat → Int32))} {pc : Nat} (hd : decode cc pc = .ok (.lmul, 1)) : dm_Good tb own cc nL ret isI sc pc (dm_ll (pc + 1) (fun x y => x * y)) := by
  intro lv st M o h
  unfold dm_ll at h
  split at h
  · cases h
    refine dm_pure (fun p l e R s m args below meth c D ca b zb n0 Q H locs ls cells slots hC hH hl h1 h2 hk => ?_)
    obtain ⟨hx, hb, hml, hown, hts, hr, hlk, hin, hK, hsz, hf, hlo, hsc⟩ := hC
    exact lv_lmul hx hb hd (hk ls hl)
  · cases h
theorem dg_land {tb : Nat → dm_Me} {own : String} {cc : ByteArray} {nL : Nat} {ret : Option FieldType} {isI : Bool} {sc : Option (Nat × (Nat → Int32))} {pc : Nat} (hd : decode cc pc = .ok (.land, 1)) : dm_Good tb own cc nL ret isI sc pc (dm_ll (pc + 1) (fun x y => x &&& y)) := by
  intro lv st M o h
  unfold dm_ll at h
  split at h
  · cases h
    refine dm_pure (fun p l e R s m args below meth c D ca b zb n0 Q H locs ls cells slots hC hH hl h1 h2 hk => ?_)
    obtain ⟨hx, hb, hml, hown, hts, hr, hlk, hin, hK, hsz, hf, hlo, hsc⟩ := hC
    exact lv_land hx hb hd (hk ls hl)
  · cases h
theorem dg_lor {tb : Nat → dm_Me} {own : String} {cc : ByteArray} {nL : Nat} {ret : Option FieldType} {isI : Bool} {sc : Option (Nat × (Nat → Int32))} {pc : Nat} (hd : decode cc pc = .ok (.lor, 1)) : dm_Good tb own cc nL ret isI sc pc (dm_ll (pc + 1) (fun x y => x ||| y)) := by
  intro lv st M o h
  unfold dm_ll at h
  split at h
  · cases h
    refine dm_pure (fun p l e R s m args below meth c D ca b zb n0 Q H locs ls cells slots hC hH hl h1 h2 hk => ?_)
    obtain ⟨hx, hb, hml, hown, hts, hr, hlk, hin, hK, hsz, hf, hlo, hsc⟩ := hC
    exact lv_lor hx hb hd (hk ls hl)
  · cases h
theorem dg_lxor {tb : Nat → dm_Me} {own : String} {cc : ByteArray} {nL : Nat} {ret : Option FieldType} {isI : Bool} {sc : Option (Nat × (Nat → Int32))} {pc : Nat} (hd : decode cc pc = .ok (.lxor, 1)) : dm_Good tb own cc nL ret isI sc pc (dm_ll (pc + 1) (fun x y => x ^^^ y)) := by
  intro lv st M o h
  unfold dm_ll at h
  split at h
  · cases h
    refine dm_pure (fun p l e R s m args below meth c D ca b zb n0 Q H locs ls cells slots hC hH hl h1 h2 hk => ?_)
    obtain ⟨hx, hb, hml, hown, hts, hr, hlk, hin, hK, hsz, hf, hlo, hsc⟩ := hC
    exact lv_lxor hx hb hd (hk ls hl)
  · cases h
theorem dg_lshl {tb : Nat → dm_Me} {own : String} {cc : ByteArray} {nL : Nat} {ret : Option FieldType} {isI : Bool} {sc : Option (Nat × (Nat → Int32))} {pc : Nat} (hd : decode cc pc = .ok (.lshl, 1)) : dm_Good tb own cc nL ret isI sc pc (dm_li (pc + 1) (fun x y => x <<< (y.toInt64 &&& 63))) := by
  intro lv st M o h
  unfold dm_li at h
  split at h
  · cases h
    refine dm_pure (fun p l e R s m args below meth c D ca b zb n0 Q H locs ls cells slots hC hH hl h1 h2 hk => ?_)
    obtain ⟨hx, hb, hml, hown, hts, hr, hlk, hin, hK, hsz, hf, hlo, hsc⟩ := hC
    exact lv_lshl hx hb hd rfl (hk ls hl)
  · cases h
theorem dg_lshr {tb : Nat → dm_Me} {own : String} {cc : ByteArray} {nL : Nat} {ret : Option FieldType} {isI : Bool} {sc : Option (Nat × (Nat → Int32))} {pc : Nat} (hd : decode cc pc = .ok (.lshr, 1)) : dm_Good tb own cc nL ret isI sc pc (dm_li (pc + 1) (fun x y => x >>> (y.toInt64 &&& 63))) := by
  intro lv st M o h
  unfold dm_li at h
  split at h
  · cases h
    refine dm_pure (fun p l e R s m args below meth c D ca b zb n0 Q H locs ls cells slots hC hH hl h1 h2 hk => ?_)
    obtain ⟨hx, hb, hml, hown, hts, hr, hlk, hin, hK, hsz, hf, hlo, hsc⟩ := hC
    exact lv_lshr hx hb hd rfl (hk ls hl)
  · cases h
theorem dg_lushr {tb : Nat → dm_Me} {own : String} {cc : ByteArray} {nL : Nat} {ret : Option FieldType} {isI : Bool} {sc : Option (Nat × (Nat → Int32))} {pc : Nat} (hd : decode cc pc = .ok (.lushr, 1)) : dm_Good tb own cc nL ret isI sc pc (dm_li (pc + 1) (fun x y => (x.toUInt64 >>> (y.toInt64.toUInt64 &&& Int64.toUInt64 63)).toInt64)) := by
  intro lv st M o h
  unfold dm_li at h
  split at h
  · cases h
    refine dm_pure (fun p l e R s m args below meth c D ca b zb n0 Q H locs ls cells slots hC hH hl h1 h2 hk => ?_)
    obtain ⟨hx, hb, hml, hown, hts, hr, hlk, hin, hK, hsz, hf, hlo, hsc⟩ := hC
    exact lv_lushr hx hb hd rfl (hk ls hl)
  · cases h
theorem dg_lcmp {tb : Nat → dm_Me} {own : String} {cc : ByteArray} {nL : Nat} {ret : Option FieldType} {isI : Bool} {sc : Option (Nat × (Nat → Int32))} {pc : Nat} (hd : decode cc pc = .ok (.lcmp, 1)) : dm_Good tb own cc nL ret isI sc pc (dm_lc (pc + 1)) := by
  intro lv st M o h
  unfold dm_lc at h
  split at h
  · cases h
    refine dm_pure (fun p l e R s m args below meth c D ca b zb n0 Q H locs ls cells slots hC hH hl h1 h2 hk => ?_)
    obtain ⟨hx, hb, hml, hown, hts, hr, hlk, hin, hK, hsz, hf, hlo, hsc⟩ := hC
    exact W.lcmp hx hb hd (hk ls hl)
  · cases h
theorem dg_ldiv {tb : Nat → dm_Me} {own : String} {cc : ByteArray} {nL : Nat} {ret : Option FieldType} {isI : Bool} {sc : Option (Nat × (Nat → Int32))} {pc : Nat} (hd : decode cc pc = .ok (.ldiv, 1)) : dm_Good tb own cc nL ret isI sc pc (dm_lq (pc + 1) (fun x y => x / y)) := by
  intro lv st M o h
  unfold dm_lq at h
  split at h
  · split at h
    · cases h
    · rename_i hne
      cases h
      refine dm_pure (fun p l e R s m args below meth c D ca b zb n0 Q H locs ls cells slots hC hH hl h1 h2 hk => ?_)
      obtain ⟨hx, hb, hml, hown, hts, hr, hlk, hin, hK, hsz, hf, hlo, hsc⟩ := hC
      exact lv_ldiv hx hb hd hne (hk ls hl)
  · cases h
theorem dg_lrem {tb : Nat → dm_Me} {own : String} {cc : ByteArray} {nL : Nat} {ret : Option FieldType} {isI : Bool} {sc : Option (Nat × (Nat → Int32))} {pc : Nat} (hd : decode cc pc = .ok (.lrem, 1)) : dm_Good tb own cc nL ret isI sc pc (dm_lq (pc + 1) (fun x y => x - x / y * y)) := by
  intro lv st M o h
  unfold dm_lq at h
  split at h
  · split at h
    · cases h
    · rename_i hne
      cases h
      refine dm_pure (fun p l e R s m args below meth c D ca b zb n0 Q H locs ls cells slots hC hH hl h1 h2 hk => ?_)
      obtain ⟨hx, hb, hml, hown, hts, hr, hlk, hin, hK, hsz, hf, hlo, hsc⟩ := hC
      exact lv_lrem hx hb hd hne (hk ls hl)
  · cases h
theorem dg_idiv {tb : Nat → dm_Me} {own : String} {cc : ByteArray} {nL : Nat} {ret : Option FieldType} {isI : Bool} {sc : Option (Nat × (Nat → Int32))} {pc : Nat} (hd : decode cc pc = .ok (.idiv, 1)) : dm_Good tb own cc nL ret isI sc pc (dm_iq (pc + 1) (fun x y => x / y)) := by
  intro lv st M o h
  unfold dm_iq at h
  split at h
  · split at h
    · cases h
    · rename_i hne
      cases h
      refine dm_pure (fun p l e R s m args below meth c D ca b zb n0 Q H locs ls cells slots hC hH hl h1 h2 hk => ?_)
      obtain ⟨hx, hb, hml, hown, hts, hr, hlk, hin, hK, hsz, hf, hlo, hsc⟩ := hC
      exact lv_idiv hx hb hd hne (hk ls hl)
  · cases h
def dm_i1 (n : Nat) (f : Int32 → Value) : dm_Sem := fun lv st M => match st with
  | .int x :: r => some (.inl ((n, lv, f x :: r), M))
  | _ => none
def dm_l1 (n : Nat) (f : Int64 → Value) : dm_Sem := fun lv st M => match st with
  | .long x :: r => some (.inl ((n, lv, f x :: r), M))
  | _ => none
theorem dg_i2l {tb : Nat → dm_Me} {own : String} {cc : ByteArray} {nL : Nat} {ret : Option FieldType} {isI : Bool} {sc : Option (Nat × (Nat → Int32))} {pc : Nat} (hd : decode cc pc = .ok (.i2l, 1)) : dm_Good tb own cc nL ret isI sc pc (dm_i1 (pc + 1) (fun x => .long x.toInt64)) := by
  intro lv st M o h
  unfold dm_i1 at h
  split at h
  · cases h
    refine dm_pure (fun p l e R s m args below meth c D ca b zb n0 Q H locs ls cells slots hC hH hl h1 h2 hk => ?_)
    obtain ⟨hx, hb, hml, hown, hts, hr, hlk, hin, hK, hsz, hf, hlo, hsc⟩ := hC
    exact lv_i2l hx hb hd rfl (hk ls hl)
  · cases h
theorem dg_i2b {tb : Nat → dm_Me} {own : String} {cc : ByteArray} {nL : Nat} {ret : Option FieldType} {isI : Bool} {sc : Option (Nat × (Nat → Int32))} {pc : Nat} (hd : decode cc pc = .ok (.i2b, 1)) : dm_Good tb own cc nL ret isI sc pc (dm_i1 (pc + 1) (fun x => .int x.toInt8.toInt32)) := by
  intro lv st M o h
  unfold dm_i1 at h
  split at h
  · cases h
    refine dm_pure (fun p l e R s m args below meth c D ca b zb n0 Q H locs ls cells slots hC hH hl h1 h2 hk => ?_)
    obtain ⟨hx, hb, hml, hown, hts, hr, hlk, hin, hK, hsz, hf, hlo, hsc⟩ := hC
    exact lv_i2b hx hb hd rfl (hk ls hl)
  · cases h
theorem dg_i2s {tb : Nat → dm_Me} {own : String} {cc : ByteArray} {nL : Nat} {ret : Option FieldType} {isI : Bool} {sc : Option (Nat × (Nat → Int32))} {pc : Nat} (hd : decode cc pc = .ok (.i2s, 1)) : dm_Good tb own cc nL ret isI sc pc (dm_i1 (pc + 1) (fun x => .int x.toInt16.toInt32)) := by
  intro lv st M o h
  unfold dm_i1 at h
  split at h
  · cases h
    refine dm_pure (fun p l e R s m args below meth c D ca b zb n0 Q H locs ls cells slots hC hH hl h1 h2 hk => ?_)
    obtain ⟨hx, hb, hml, hown, hts, hr, hlk, hin, hK, hsz, hf, hlo, hsc⟩ := hC
    exact lv_i2s hx hb hd rfl (hk ls hl)
  · cases h
theorem dg_l2i {tb : Nat → dm_Me} {own : String} {cc : ByteArray} {nL : Nat} {ret : Option FieldType} {isI : Bool} {sc : Option (Nat × (Nat → Int32))} {pc : Nat} (hd : decode cc pc = .ok (.l2i, 1)) : dm_Good tb own cc nL ret isI sc pc (dm_l1 (pc + 1) (fun x => .int x.toInt32)) := by
  intro lv st M o h
  unfold dm_l1 at h
  split at h
  · cases h
    refine dm_pure (fun p l e R s m args below meth c D ca b zb n0 Q H locs ls cells slots hC hH hl h1 h2 hk => ?_)
    obtain ⟨hx, hb, hml, hown, hts, hr, hlk, hin, hK, hsz, hf, hlo, hsc⟩ := hC
    exact lv_l2i hx hb hd rfl (hk ls hl)
  · cases h
def dm_dup (n : Nat) : dm_Sem := fun lv st M => match st with
  | v :: r => if v.category = 1 then some (.inl ((n, lv, v :: v :: r), M)) else none
  | _ => none
theorem dg_dup {tb : Nat → dm_Me} {own : String} {cc : ByteArray} {nL : Nat} {ret : Option FieldType} {isI : Bool} {sc : Option (Nat × (Nat → Int32))} {pc : Nat} (hd : decode cc pc = .ok (.dup, 1)) : dm_Good tb own cc nL ret isI sc pc (dm_dup (pc + 1)) := by
  intro lv st M o h
  unfold dm_dup at h
  split at h
  · split at h
    · rename_i hc
      cases h
      refine dm_pure (fun p l e R s m args below meth c D ca b zb n0 Q H locs ls cells slots hC hH hl h1 h2 hk => ?_)
      obtain ⟨hx, hb, hml, hown, hts, hr, hlk, hin, hK, hsz, hf, hlo, hsc⟩ := hC
      exact lv_dup hx hb hd (by rw [dm_cat]; exact hc) (hk ls hl)
    · cases h
  · cases h
def dm_pop (n : Nat) : dm_Sem := fun lv st M => match st with
  | v :: r => if v.category = 1 then some (.inl ((n, lv, r), M)) else none
  | _ => none
theorem dg_pop {tb : Nat → dm_Me} {own : String} {cc : ByteArray} {nL : Nat} {ret : Option FieldType} {isI : Bool} {sc : Option (Nat × (Nat → Int32))} {pc : Nat} (hd : decode cc pc = .ok (.pop, 1)) : dm_Good tb own cc nL ret isI sc pc (dm_pop (pc + 1)) := by
  intro lv st M o h
  unfold dm_pop at h
  split at h
  · split at h
    · rename_i hc
      cases h
      refine dm_pure (fun p l e R s m args below meth c D ca b zb n0 Q H locs ls cells slots hC hH hl h1 h2 hk => ?_)
      obtain ⟨hx, hb, hml, hown, hts, hr, hlk, hin, hK, hsz, hf, hlo, hsc⟩ := hC
      exact lv_pop hx hb hd (by rw [dm_cat]; exact hc) (hk ls hl)
    · cases h
  · cases h
def dm_dup2 (n : Nat) : dm_Sem := fun lv st M => match st with
  | v :: w :: r => if v.category = 1 ∧ w.category = 1 then some (.inl ((n, lv, v :: w :: v :: w :: r), M)) else none
  | _ => none
theorem dg_dup2 {tb : Nat → dm_Me} {own : String} {cc : ByteArray} {nL : Nat} {ret : Option FieldType} {isI : Bool} {sc : Option (Nat × (Nat → Int32))} {pc : Nat} (hd : decode cc pc = .ok (.dup2, 1)) : dm_Good tb own cc nL ret isI sc pc (dm_dup2 (pc + 1)) := by
  intro lv st M o h
  unfold dm_dup2 at h
  split at h
  · split at h
    · rename_i hc
      cases h
      refine dm_pure (fun p l e R s m args below meth c D ca b zb n0 Q H locs ls cells slots hC hH hl h1 h2 hk => ?_)
      obtain ⟨hx, hb, hml, hown, hts, hr, hlk, hin, hK, hsz, hf, hlo, hsc⟩ := hC
      exact lv_dup2_11 hx hb hd (by rw [dm_cat]; exact hc.1) (by rw [dm_cat]; exact hc.2) (hk ls hl)
    · cases h
  · cases h
def dm_if_eq (n t : Nat) : dm_Sem := fun lv st M => match st with
  | .int x :: r => some (.inl ((if x = 0 then t else n, lv, r), M))
  | _ => none
def dm_if_ne (n t : Nat) : dm_Sem := fun lv st M => match st with
  | .int x :: r => some (.inl ((if ¬ x = 0 then t else n, lv, r), M))
  | _ => none
def dm_if_lt (n t : Nat) : dm_Sem := fun lv st M => match st with
  | .int x :: r => some (.inl ((if x < 0 then t else n, lv, r), M))
  | _ => none
def dm_if_ge (n t : Nat) : dm_Sem := fun lv st M => match st with
  | .int x :: r => some (.inl ((if 0 ≤ x then t else n, lv, r), M))
  | _ => none
def dm_if_gt (n t : Nat) : dm_Sem := fun lv st M => match st with
  | .int x :: r => some (.inl ((if 0 < x then t else n, lv, r), M))
  | _ => none
def dm_if_le (n t : Nat) : dm_Sem := fun lv st M => match st with
  | .int x :: r => some (.inl ((if x ≤ 0 then t else n, lv, r), M))
  | _ => none
def dm_ic_eq (n t : Nat) : dm_Sem := fun lv st M => match st with
  | .int y :: .int x :: r => some (.inl ((if x = y then t else n, lv, r), M))
  | _ => none
def dm_ic_ne (n t : Nat) : dm_Sem := fun lv st M => match st with
  | .int y :: .int x :: r => some (.inl ((if ¬ x = y then t else n, lv, r), M))
  | _ => none
def dm_ic_lt (n t : Nat) : dm_Sem := fun lv st M => match st with
  | .int y :: .int x :: r => some (.inl ((if x < y then t else n, lv, r), M))
  | _ => none
def dm_ic_ge (n t : Nat) : dm_Sem := fun lv st M => match st with
  | .int y :: .int x :: r => some (.inl ((if y ≤ x then t else n, lv, r), M))
  | _ => none
def dm_ic_gt (n t : Nat) : dm_Sem := fun lv st M => match st with
  | .int y :: .int x :: r => some (.inl ((if y < x then t else n, lv, r), M))
  | _ => none
def dm_ic_le (n t : Nat) : dm_Sem := fun lv st M => match st with
  | .int y :: .int x :: r => some (.inl ((if x ≤ y then t else n, lv, r), M))
  | _ => none
theorem dg_if_eq {tb : Nat → dm_Me} {own : String} {cc : ByteArray} {nL : Nat} {ret : Option FieldType} {isI : Bool} {sc : Option (Nat × (Nat → Int32))} {pc : Nat} {off : Int} {t : Nat} (ht : (pc : Int) + off = (t : Int)) (hd : decode cc pc = .ok (.ifCond .eq off, 3)) : dm_Good tb own cc nL ret isI sc pc (dm_if_eq (pc + 3) t) := by
  intro lv st M o h
  unfold dm_if_eq at h
  split at h
  · cases h
    refine dm_pure (fun p l e R s m args below meth c D ca b zb n0 Q H locs ls cells slots hC hH hl h1 h2 hk => ?_)
    obtain ⟨hx, hb, hml, hown, hts, hr, hlk, hin, hK, hsz, hf, hlo, hsc⟩ := hC
    have h9 := hk ls hl
    dsimp only at h9
    refine lv_if_eq hx hb hd ht (fun q => ?_) (fun q => ?_)
    · rw [if_pos q] at h9
      exact h9
    · rw [if_neg (by first | exact q | exact fun z => z q)] at h9
      exact h9
  · cases h
theorem dg_if_ne {tb : Nat → dm_Me} {own : String} {cc : ByteArray} {nL : Nat} {ret : Option FieldType} {isI : Bool} {sc : Option (Nat × (Nat → Int32))} {pc : Nat} {off : Int} {t : Nat} (ht : (pc : Int) + off = (t : Int)) (hd : decode cc pc = .ok (.ifCond .ne off, 3)) : dm_Good tb own cc nL ret isI sc pc (dm_if_ne (pc + 3) t) := by
  intro lv st M o h
  unfold dm_if_ne at h
  split at h
  · cases h
    refine dm_pure (fun p l e R s m args below meth c D ca b zb n0 Q H locs ls cells slots hC hH hl h1 h2 hk => ?_)
    obtain ⟨hx, hb, hml, hown, hts, hr, hlk, hin, hK, hsz, hf, hlo, hsc⟩ := hC
    have h9 := hk ls hl
    dsimp only at h9
    refine lv_if_ne hx hb hd ht (fun q => ?_) (fun q => ?_)
    · rw [if_pos q] at h9
      exact h9
    · rw [if_neg (by first | exact q | exact fun z => z q)] at h9
      exact h9
  · cases h
theorem dg_if_lt {tb : Nat → dm_Me} {own : String} {cc : ByteArray} {nL : Nat} {ret : Option FieldType} {isI : Bool} {sc : Option (Nat × (Nat → Int32))} {pc : Nat} {off : Int} {t : Nat} (ht : (pc : Int) + off = (t : Int)) (hd : decode cc pc = .ok (.ifCond .lt off, 3)) : dm_Good tb own cc nL ret isI sc pc (dm_if_lt (pc + 3) t) := by
  intro lv st M o h
  unfold dm_if_lt at h
  split at h
  · cases h
    refine dm_pure (fun p l e R s m args below meth c D ca b zb n0 Q H locs ls cells slots hC hH hl h1 h2 hk => ?_)
    obtain ⟨hx, hb, hml, hown, hts, hr, hlk, hin, hK, hsz, hf, hlo, hsc⟩ := hC
    have h9 := hk ls hl
    dsimp only at h9
    refine lv_if_lt hx hb hd ht (fun q => ?_) (fun q => ?_)
    · rw [if_pos q] at h9
      exact h9
    · rw [if_neg (by first | exact q | exact fun z => z q)] at h9
      exact h9
  · cases h
theorem dg_if_ge {tb : Nat → dm_Me} {own : String} {cc : ByteArray} {nL : Nat} {ret : Option FieldType} {isI : Bool} {sc : Option (Nat × (Nat → Int32))} {pc : Nat} {off : Int} {t : Nat} (ht : (pc : Int) + off = (t : Int)) (hd : decode cc pc = .ok (.ifCond .ge off, 3)) : dm_Good tb own cc nL ret isI sc pc (dm_if_ge (pc + 3) t) := by
  intro lv st M o h
  unfold dm_if_ge at h
  split at h
  · cases h
    refine dm_pure (fun p l e R s m args below meth c D ca b zb n0 Q H locs ls cells slots hC hH hl h1 h2 hk => ?_)
    obtain ⟨hx, hb, hml, hown, hts, hr, hlk, hin, hK, hsz, hf, hlo, hsc⟩ := hC
    have h9 := hk ls hl
    dsimp only at h9
    refine lv_if_ge hx hb hd ht (fun q => ?_) (fun q => ?_)
    · rw [if_pos q] at h9
      exact h9
    · rw [if_neg (by first | exact q | exact fun z => z q)] at h9
      exact h9
  · cases h
theorem dg_if_gt {tb : Nat → dm_Me} {own : String} {cc : ByteArray} {nL : Nat} {ret : Option FieldType} {isI : Bool} {sc : Option (Nat × (Nat → Int32))} {pc : Nat} {off : Int} {t : Nat} (ht : (pc : Int) + off = (t : Int)) (hd : decode cc pc = .ok (.ifCond .gt off, 3)) : dm_Good tb own cc nL ret isI sc pc (dm_if_gt (pc + 3) t) := by
  intro lv st M o h
  unfold dm_if_gt at h
  split at h
  · cases h
    refine dm_pure (fun p l e R s m args below meth c D ca b zb n0 Q H locs ls cells slots hC hH hl h1 h2 hk => ?_)
    obtain ⟨hx, hb, hml, hown, hts, hr, hlk, hin, hK, hsz, hf, hlo, hsc⟩ := hC
    have h9 := hk ls hl
    dsimp only at h9
    refine lv_if_gt hx hb hd ht (fun q => ?_) (fun q => ?_)
    · rw [if_pos q] at h9
      exact h9
    · rw [if_neg (by first | exact q | exact fun z => z q)] at h9
      exact h9
  · cases h
theorem dg_if_le {tb : Nat → dm_Me} {own : String} {cc : ByteArray} {nL : Nat} {ret : Option FieldType} {isI : Bool} {sc : Option (Nat × (Nat → Int32))} {pc : Nat} {off : Int} {t : Nat} (ht : (pc : Int) + off = (t : Int)) (hd : decode cc pc = .ok (.ifCond .le off, 3)) : dm_Good tb own cc nL ret isI sc pc (dm_if_le (pc + 3) t) := by
  intro lv st M o h
  unfold dm_if_le at h
  split at h
  · cases h
    refine dm_pure (fun p l e R s m args below meth c D ca b zb n0 Q H locs ls cells slots hC hH hl h1 h2 hk => ?_)
    obtain ⟨hx, hb, hml, hown, hts, hr, hlk, hin, hK, hsz, hf, hlo, hsc⟩ := hC
    have h9 := hk ls hl
    dsimp only at h9
    refine lv_if_le hx hb hd ht (fun q => ?_) (fun q => ?_)
    · rw [if_pos q] at h9
      exact h9
    · rw [if_neg (by first | exact q | exact fun z => z q)] at h9
      exact h9
  · cases h
theorem dg_ic_eq {tb : Nat → dm_Me} {own : String} {cc : ByteArray} {nL : Nat} {ret : Option FieldType} {isI : Bool} {sc : Option (Nat × (Nat → Int32))} {pc : Nat} {off : Int} {t : Nat} (ht : (pc : Int) + off = (t : Int)) (hd : decode cc pc = .ok (.if_icmp .eq off, 3)) : dm_Good tb own cc nL ret isI sc pc (dm_ic_eq (pc + 3) t) := by
  intro lv st M o h
  unfold dm_ic_eq at h
  split at h
  · cases h
    refine dm_pure (fun p l e R s m args below meth c D ca b zb n0 Q H locs ls cells slots hC hH hl h1 h2 hk => ?_)
    obtain ⟨hx, hb, hml, hown, hts, hr, hlk, hin, hK, hsz, hf, hlo, hsc⟩ := hC
    have h9 := hk ls hl
    dsimp only at h9
    refine lv_icmp_eq hx hb hd ht (fun q => ?_) (fun q => ?_)
    · rw [if_pos q] at h9
      exact h9
    · rw [if_neg (by first | exact q | exact fun z => z q)] at h9
      exact h9
  · cases h
theorem dg_ic_ne {tb : Nat → dm_Me} {own : String} {cc : ByteArray} {nL : Nat} {ret : Option FieldType} {isI : Bool} {sc : Option (Nat × (Nat → Int32))} {pc : Nat} {off : Int} {t : Nat} (ht : (pc : Int) + off = (t : Int)) (hd : decode cc pc = .ok (.if_icmp .ne off, 3)) : dm_Good tb own cc nL ret isI sc pc (dm_ic_ne (pc + 3) t) := by
  intro lv st M o h
  unfold dm_ic_ne at h
  split at h
  · cases h
    refine dm_pure (fun p l e R s m args below meth c D ca b zb n0 Q H locs ls cells slots hC hH hl h1 h2 hk => ?_)
    obtain ⟨hx, hb, hml, hown, hts, hr, hlk, hin, hK, hsz, hf, hlo, hsc⟩ := hC
    have h9 := hk ls hl
    dsimp only at h9
    refine lv_icmp_ne hx hb hd ht (fun q => ?_) (fun q => ?_)
    · rw [if_pos q] at h9
      exact h9
    · rw [if_neg (by first | exact q | exact fun z => z q)] at h9
      exact h9
  · cases h
theorem dg_ic_lt {tb : Nat → dm_Me} {own : String} {cc : ByteArray} {nL : Nat} {ret : Option FieldType} {isI : Bool} {sc : Option (Nat × (Nat → Int32))} {pc : Nat} {off : Int} {t : Nat} (ht : (pc : Int) + off = (t : Int)) (hd : decode cc pc = .ok (.if_icmp .lt off, 3)) : dm_Good tb own cc nL ret isI sc pc (dm_ic_lt (pc + 3) t) := by
  intro lv st M o h
  unfold dm_ic_lt at h
  split at h
  · cases h
    refine dm_pure (fun p l e R s m args below meth c D ca b zb n0 Q H locs ls cells slots hC hH hl h1 h2 hk => ?_)
    obtain ⟨hx, hb, hml, hown, hts, hr, hlk, hin, hK, hsz, hf, hlo, hsc⟩ := hC
    have h9 := hk ls hl
    dsimp only at h9
    refine lv_icmp_lt hx hb hd ht (fun q => ?_) (fun q => ?_)
    · rw [if_pos q] at h9
      exact h9
    · rw [if_neg (by first | exact q | exact fun z => z q)] at h9
      exact h9
  · cases h
theorem dg_ic_ge {tb : Nat → dm_Me} {own : String} {cc : ByteArray} {nL : Nat} {ret : Option FieldType} {isI : Bool} {sc : Option (Nat × (Nat → Int32))} {pc : Nat} {off : Int} {t : Nat} (ht : (pc : Int) + off = (t : Int)) (hd : decode cc pc = .ok (.if_icmp .ge off, 3)) : dm_Good tb own cc nL ret isI sc pc (dm_ic_ge (pc + 3) t) := by
  intro lv st M o h
  unfold dm_ic_ge at h
  split at h
  · cases h
    refine dm_pure (fun p l e R s m args below meth c D ca b zb n0 Q H locs ls cells slots hC hH hl h1 h2 hk => ?_)
    obtain ⟨hx, hb, hml, hown, hts, hr, hlk, hin, hK, hsz, hf, hlo, hsc⟩ := hC
    have h9 := hk ls hl
    dsimp only at h9
    refine lv_icmp_ge hx hb hd ht (fun q => ?_) (fun q => ?_)
    · rw [if_pos q] at h9
      exact h9
    · rw [if_neg (by first | exact q | exact fun z => z q)] at h9
      exact h9
  · cases h
theorem dg_ic_gt {tb : Nat → dm_Me} {own : String} {cc : ByteArray} {nL : Nat} {ret : Option FieldType} {isI : Bool} {sc : Option (Nat × (Nat → Int32))} {pc : Nat} {off : Int} {t : Nat} (ht : (pc : Int) + off = (t : Int)) (hd : decode cc pc = .ok (.if_icmp .gt off, 3)) : dm_Good tb own cc nL ret isI sc pc (dm_ic_gt (pc + 3) t) := by
  intro lv st M o h
  unfold dm_ic_gt at h
  split at h
  · cases h
    refine dm_pure (fun p l e R s m args below meth c D ca b zb n0 Q H locs ls cells slots hC hH hl h1 h2 hk => ?_)
    obtain ⟨hx, hb, hml, hown, hts, hr, hlk, hin, hK, hsz, hf, hlo, hsc⟩ := hC
    have h9 := hk ls hl
    dsimp only at h9
    refine lv_icmp_gt hx hb hd ht (fun q => ?_) (fun q => ?_)
    · rw [if_pos q] at h9
      exact h9
    · rw [if_neg (by first | exact q | exact fun z => z q)] at h9
      exact h9
  · cases h
theorem dg_ic_le {tb : Nat → dm_Me} {own : String} {cc : ByteArray} {nL : Nat} {ret : Option FieldType} {isI : Bool} {sc : Option (Nat × (Nat → Int32))} {pc : Nat} {off : Int} {t : Nat} (ht : (pc : Int) + off = (t : Int)) (hd : decode cc pc = .ok (.if_icmp .le off, 3)) : dm_Good tb own cc nL ret isI sc pc (dm_ic_le (pc + 3) t) := by
  intro lv st M o h
  unfold dm_ic_le at h
  split at h
  · cases h
    refine dm_pure (fun p l e R s m args below meth c D ca b zb n0 Q H locs ls cells slots hC hH hl h1 h2 hk => ?_)
    obtain ⟨hx, hb, hml, hown, hts, hr, hlk, hin, hK, hsz, hf, hlo, hsc⟩ := hC
    have h9 := hk ls hl
    dsimp only at h9
    refine lv_icmp_le hx hb hd ht (fun q => ?_) (fun q => ?_)
    · rw [if_pos q] at h9
      exact h9
    · rw [if_neg (by first | exact q | exact fun z => z q)] at h9
      exact h9
  · cases h
def dm_goto (t : Nat) : dm_Sem := fun lv st M => some (.inl ((t, lv, st), M))
theorem dg_goto {tb : Nat → dm_Me} {own : String} {cc : ByteArray} {nL : Nat} {ret : Option FieldType} {isI : Bool} {sc : Option (Nat × (Nat → Int32))} {pc : Nat} {off : Int} {t : Nat} (ht : (pc : Int) + off = (t : Int)) (hd : decode cc pc = .ok (.goto off, 3)) : dm_Good tb own cc nL ret isI sc pc (dm_goto t) := by
  intro lv st M o h
  cases h
  refine dm_pure (fun p l e R s m args below meth c D ca b zb n0 Q H locs ls cells slots hC hH hl h1 h2 hk => ?_)
  obtain ⟨hx, hb, hml, hown, hts, hr, hlk, hin, hK, hsz, hf, hlo, hsc⟩ := hC
  exact lv_goto hx hb hd ht (hk ls hl)
def dm_tsw (lo hi : Int) (d : Nat) (ts : List Nat) : dm_Sem := fun lv st M => match st with
  | .int x :: r => if x.toInt < lo ∨ hi < x.toInt then some (.inl ((d, lv, r), M)) else match ts[(x.toInt - lo).toNat]? with
    | some t => some (.inl ((t, lv, r), M))
    | none => none
  | _ => none
theorem dg_tsw {tb : Nat → dm_Me} {own : String} {cc : ByteArray} {nL : Nat} {ret : Option FieldType} {isI : Bool} {sc : Option (Nat × (Nat → Int32))} {pc : Nat} {dflt lo hi : Int} {offs : Array Int} {len d : Nat} {ts : List Nat} (hd : decode cc pc = .ok (.tableswitch dflt lo hi offs, len)) (h0 : (pc : Int) + dflt = (d : Int)) (h1 : offs.toList.map (fun q => (pc : Int) + q) = ts.map (fun q : Nat => (q : Int))) : dm_Good tb own cc nL ret isI sc pc (dm_tsw lo hi d ts) := by
  intro lv st M o h
  unfold dm_tsw at h
  split at h
  · rename_i x r
    split at h
    · rename_i hc
      cases h
      refine dm_pure (fun p l e R s m args below meth c D ca b zb n0 Q H locs ls cells slots hC hH hl g1 g2 hk => ?_)
      obtain ⟨hx, hb, hml, hown, hts, hr, hlk, hin, hK, hsz, hf, hlo, hsc⟩ := hC
      exact lv_tableOut hx hb hd hc h0 (hk ls hl)
    · rename_i hc
      have hc1 : ¬ x.toInt < lo := fun q => hc (Or.inl q)
      have hc2 : ¬ hi < x.toInt := fun q => hc (Or.inr q)
      split at h
      · rename_i t e1
        cases h
        have e2 : (ts.map (fun q : Nat => (q : Int)))[(x.toInt - lo).toNat]? = some (t : Int) := by rw [List.getElem?_map, e1]; rfl
        rw [← h1, List.getElem?_map] at e2
        cases e3 : offs.toList[(x.toInt - lo).toNat]? with
        | none => rw [e3] at e2; cases e2
        | some q =>
          rw [e3] at e2
          have e4 : (pc : Int) + q = (t : Int) := Option.some.inj e2
          refine dm_pure (fun p l e R s m args below meth c D ca b zb n0 Q H locs ls cells slots hC hH hl g1 g2 hk => ?_)
          obtain ⟨hx, hb, hml, hown, hts, hr, hlk, hin, hK, hsz, hf, hlo, hsc⟩ := hC
          exact lv_tableIn hx hb hd hc1 hc2 (by rw [← Array.getElem?_toList]; exact e3) e4 (hk ls hl)
      · cases h
  · cases h
end
section
/-! steps over the memory -/
def dm_isT : FieldType → Bool
  | .int => true
  | .long => true
  | .boolean => true
  | .byte => true
  | .short => true
  | _ => false
theorem dm_tys_at {ty : FieldType} (ca : FieldType → ClassId) (h : dm_isT ty = true) : ∃ t0 : Nat, (dm_tys ca)[t0]? = some (ca ty, ty) := by
  cases ty <;> first | exact ⟨0, rfl⟩ | exact ⟨1, rfl⟩ | exact ⟨2, rfl⟩ | exact ⟨3, rfl⟩ | exact ⟨4, rfl⟩ | cases h
def dm_getf (n ci k : Nat) : dm_Sem := fun lv st M => match st with
  | .ref a :: r => match M[a]? with
    | some (.inr o) => if o.1 = ci then match o.2[k]? with
        | some v => some (.inl ((n, lv, v :: r), M))
        | none => none
      else none
    | _ => none
  | _ => none
theorem dg_getf {tb : Nat → dm_Me} {own : String} {cc : ByteArray} {nL : Nat} {ret : Option FieldType} {isI : Bool} {sc : Option (Nat × (Nat → Int32))} {pc : Nat} {C : String} {T : u_T} {N ci k idx : Nat} (hd : decode cc pc = .ok (.getfield idx, 3)) (hc : vwCl[ci]? = some (C, T, N)) (hk : k < N) (hw : ∀ w ∈ u_ws C T N, w ∈ dm_W) (hf : Cond.fieldLink own idx (T k).1 (T k).2.1 (T k).2.2.1 ∈ dm_W) : dm_Good tb own cc nL ret isI sc pc (dm_getf (pc + 3) ci k) := by
  intro lv st M o h
  unfold dm_getf at h
  split at h
  · rename_i a r
    split at h
    · rename_i q e1
      split at h
      · rename_i e2
        split at h
        · rename_i v e3
          cases h
          refine dm_pure (fun p l e R s m args below meth c D ca b zb n0 Q H locs ls cells slots hC hH hl h1 h2 hk9 => ?_)
          obtain ⟨hx, hb, hml, hown, hts, hr, hlk, hin, hK, hsz, hfr, hlo, hsc⟩ := hC
          refine va_get (D := D) (ci := ci) (v := dm_v b zb v) (C := C) (T := T) (N := N) hx hb hts hw hown hK hH.2 a (fs := q.2.map (dm_v b zb)) ?_ hc k hk (hts _ hf) (fun _ h9 => h9) (by rw [List.getElem?_map, e3]; rfl) hd (hk9 ls hl)
          rw [dm_ws_get e1, ← e2]
          rfl
        · cases h
      · cases h
    · cases h
  · cases h
def dm_fit : FieldType → Value → Bool
  | .int, .int _ => true
  | .long, .long _ => true
  | .boolean, .int v => v == 0 || v == 1
  | .object _, .ref _ => true
  | .object _, .null => true
  | .array _, .ref _ => true
  | .array _, .null => true
  | _, _ => false
theorem dm_fit_ok {ty : FieldType} {v : Value} (h : dm_fit ty v = true) (b zb : Nat) : narrow ty (dm_v b zb v) = dm_v b zb v ∧ fits ty (dm_v b zb v) = true := by
  cases ty <;> cases v <;> first | (cases h; done) | exact ⟨rfl, rfl⟩ | skip
  rename_i x
  have h2 : x = 0 ∨ x = 1 := by simpa [dm_fit] using h
  rcases h2 with rfl | rfl
  · exact ⟨(by decide : narrow .boolean (.int 0) = .int 0), (by decide : fits .boolean (.int 0) = true)⟩
  · exact ⟨(by decide : narrow .boolean (.int 1) = .int 1), (by decide : fits .boolean (.int 1) = true)⟩
def dm_putf (n ci k : Nat) (ty : FieldType) : dm_Sem := fun lv st M => match st with
  | v :: .ref a :: r => match M[a]? with
    | some (.inr o) => if o.1 = ci ∧ k < o.2.length ∧ dm_fit ty v = true then some (.inl ((n, lv, r), M.set a (.inr (ci, o.2.set k v)))) else none
    | _ => none
  | _ => none
theorem dm_putf_dec {lv : dm_Lv} {st : List Value} {M : dm_Mem} {o : dm_Rs} {n ci k : Nat} {ty : FieldType} (h : dm_putf n ci k ty lv st M = some o) : ∃ (v : Value) (a : Nat) (r fs : List Value), st = v :: .ref a :: r ∧ M[a]? = some (.inr (ci, fs)) ∧ k < fs.length ∧ dm_fit ty v = true ∧ o = .inl ((n, lv, r), M.set a (.inr (ci, fs.set k v))) := by
  unfold dm_putf at h
  split at h
  · rename_i v a r
    split at h
    · rename_i q e1
      split at h
      · rename_i e2
        obtain ⟨c, fs⟩ := q
        obtain ⟨g1, g2, g3⟩ := e2
        cases g1
        cases h
        exact ⟨v, a, r, fs, rfl, e1, g2, g3, rfl⟩
      · cases h
    · cases h
  · cases h
theorem dg_putf {tb : Nat → dm_Me} {own : String} {cc : ByteArray} {nL : Nat} {ret : Option FieldType} {isI : Bool} {sc : Option (Nat × (Nat → Int32))} {pc : Nat} {C : String} {T : u_T} {N ci k idx : Nat} {ty : FieldType} {ty0 : Nat → FieldType} (hd : decode cc pc = .ok (.putfield idx, 3)) (hc : vwCl[ci]? = some (C, T, N)) (hk : k < N) (hw : ∀ w ∈ u_ws C T N, w ∈ dm_W) (hty : ∀ k, k < N → parseFieldDescriptor (T k).2.2.1 = some (ty0 k)) (hnm : ∀ a, a < N → ∀ b, b < N → a ≠ b → (T a).2.1 ≠ (T b).2.1) (hf : Cond.fieldLink own idx (T k).1 (T k).2.1 (T k).2.2.1 ∈ dm_W) (ht : ty0 k = ty) (hfin : (T k).2.2.2 = false) : dm_Good tb own cc nL ret isI sc pc (dm_putf (pc + 3) ci k ty) := by
  intro lv st M o h
  obtain ⟨v, a, r, fs, rfl, e1, e2, e3, rfl⟩ := dm_putf_dec h
  refine dm_putc e1 (by simp [dm_sz]) (fun p l e R s m args below meth c D ca b zb n0 Q H locs ls cells slots hC hH hS hD hl hk9 => ?_) rfl
  obtain ⟨hx, hb, hml, hown, hts, hr, hlk, hin, hK, hsz, hfr, hlo, hsc⟩ := hC
  obtain ⟨f1, f2⟩ := dm_fit_ok e3 b zb
  refine va_put (D := D) (ci := ci) (v := dm_v b zb v) (ty := ty) (C := C) (T := T) (N := N) hx hb hts hw ty0 hty hnm hown hK hH.2 hD hS a (fs := fs.map (dm_v b zb)) (dm_ws_get e1) hc k hk (hts _ hf) (fun _ h9 => h9) hfin (by rw [hty k hk, ht]) f1 f2 (by rw [List.length_map]; exact e2) hd (fun H1 locs1 hP1 _ hS1 => hk9 H1 locs1 ?_ hS1)
  rw [show dm_E ca b zb (.inr (ci, fs.set k v)) = .inr (ci, (fs.map (dm_v b zb)).set k (dm_v b zb v)) by rw [← List.map_set]; rfl]
  exact hP1
theorem dg_putF {tb : Nat → dm_Me} {own : String} {cc : ByteArray} {nL : Nat} {ret : Option FieldType} {sc : Option (Nat × (Nat → Int32))} {pc : Nat} {C : String} {T : u_T} {N ci k idx : Nat} {ty : FieldType} {ty0 : Nat → FieldType} (hd : decode cc pc = .ok (.putfield idx, 3)) (hc : vwCl[ci]? = some (C, T, N)) (hk : k < N) (hw : ∀ w ∈ u_ws C T N, w ∈ dm_W) (hty : ∀ k, k < N → parseFieldDescriptor (T k).2.2.1 = some (ty0 k)) (hnm : ∀ a, a < N → ∀ b, b < N → a ≠ b → (T a).2.1 ≠ (T b).2.1) (hf : Cond.fieldLink own idx (T k).1 (T k).2.1 (T k).2.2.1 ∈ dm_W) (ht : ty0 k = ty) (hfin : (T k).2.2.2 = true) (hdecl : (T k).1 = own) : dm_Good tb own cc nL ret true sc pc (dm_putf (pc + 3) ci k ty) := by
  intro lv st M o h
  obtain ⟨v, a, r, fs, rfl, e1, e2, e3, rfl⟩ := dm_putf_dec h
  refine dm_putc e1 (by simp [dm_sz]) (fun p l e R s m args below meth c D ca b zb n0 Q H locs ls cells slots hC hH hS hD hl hk9 => ?_) rfl
  obtain ⟨hx, hb, hml, hown, hts, hr, hlk, hin, hK, hsz, hfr, hlo, hsc⟩ := hC
  obtain ⟨f1, f2⟩ := dm_fit_ok e3 b zb
  refine va_putF (D := D) (ci := ci) (v := dm_v b zb v) (ty := ty) (C := C) (T := T) (N := N) hx hb hts hw ty0 hty hnm hown hK hH.2 hD hS a (fs := fs.map (dm_v b zb)) (dm_ws_get e1) hc k hk (hts _ hf) (fun _ h9 => h9) hfin (hin rfl) hdecl (by rw [hty k hk, ht]) f1 f2 (by rw [List.length_map]; exact e2) hd (fun H1 locs1 hP1 _ hS1 => hk9 H1 locs1 ?_ hS1)
  rw [show dm_E ca b zb (.inr (ci, fs.set k v)) = .inr (ci, (fs.map (dm_v b zb)).set k (dm_v b zb v)) by rw [← List.map_set]; rfl]
  exact hP1
/-- a new cell at the end -/
theorem dm_newc {own : String} {cc : ByteArray} {nL : Nat} {ret : Option FieldType} {isI : Bool} {sc : Option (Nat × (Nat → Int32))} {pc : Nat} {lv : dm_Lv} {st : List Value} {M : dm_Mem} {g : dm_Fr} {x : dm_Cell}
    (h : ∀ (p : Program) (l : Launch) (e : Env) (R : Room) (s : State) (m : MethodId) (args : Array Value) (below : List Frame) (meth : Method) (c : Code) (D : va_G) (ca : FieldType → ClassId) (b zb n0 : Nat) (Q : State → Prop) (H : Heap) (locs : List Loc) (ls : Array Slot) (cells slots : Nat),
      dm_Cx own cc nL ret isI sc p R s m args meth c D ca b zb n0 → H.size = b + M.length → va_P D vwCl (dm_ws ca b zb M) H → lv_has ls nL (dm_lv b zb lv) → cells + 1 ≤ R.cells → slots + dm_sz x ≤ R.slots →
      (∀ (H1 : Heap), H1.size = b + M.length + 1 → (∀ q, q < b + M.length → H1[q]? = H[q]?) → va_at D vwCl (b + M.length, dm_E ca b zb x) H1 → W p l e R s m args below meth c H1 locs (cells + 1) (slots + dm_sz x) Q (F0 m g.1 ls (g.2.2.map (dm_v b zb)))) → W p l e R s m args below meth c H locs cells slots Q (F0 m pc ls (st.map (dm_v b zb))))
    (hg : g.2.1 = lv) : dm_Nx own cc nL ret isI sc pc lv st M g (M ++ [x]) := by
  have hs := dm_slots_app M x
  have hlen : (M ++ [x]).length = M.length + 1 := by simp
  refine ⟨⟨by omega, by omega⟩, ?_⟩
  intro p l e R s m args below meth c D ca b zb n0 s0 Q hC hn hn2 h1 h2 hk H locs ls hH hS hl
  refine h p l e R s m args below meth c D ca b zb n0 Q H locs ls _ _ hC hH.1 hH.2 hl (by omega) (by omega) (fun H1 z1 o1 ha => ?_)
  have hP2 : va_P D vwCl (dm_ws ca b zb (M ++ [x])) H1 := by
    rw [dm_ws_app]
    refine (hH.2.kept (fun k q hq => o1 q.1 ?_)).app (fun k q hq => ?_)
    · have := (hH.2 k q hq).lt
      rw [hH.1] at this
      exact this
    · have hz : k < 1 := (List.getElem?_eq_some_iff.mp hq).1
      rw [show k = 0 by omega] at hq
      cases hq
      exact ha
  have hS2 : va_S (fun q => b ≤ q) s.heap H1 locs := ⟨Nat.le_trans hS.1 (by rw [z1, hH.1]; omega), fun q q1 q2 => by
    rw [o1 q (by have := hS.1; rw [hH.1] at this; omega)]
    exact hS.2.1 q q1 q2, hS.2.2⟩
  have hw := hk H1 locs ls ⟨by rw [hlen]; omega, hP2⟩ hS2 (by rw [hg]; exact hl)
  rw [hlen, hs] at hw
  rw [show M.length + 1 - n0 = M.length - n0 + 1 by omega, show dm_slots M + dm_sz x - s0 = dm_slots M - s0 + dm_sz x by omega] at hw
  exact hw
def dm_new (n ci : Nat) (fs : List Value) : dm_Sem := fun lv st M => some (.inl ((n, lv, .ref M.length :: st), M ++ [.inr (ci, fs)]))
theorem dg_new {tb : Nat → dm_Me} {own : String} {cc : ByteArray} {nL : Nat} {ret : Option FieldType} {isI : Bool} {sc : Option (Nat × (Nat → Int32))} {pc : Nat} {C : String} {T : u_T} {N ci idx : Nat} {ty : Nat → FieldType} {fs : List Value} (hd : decode cc pc = .ok (.new idx, 3)) (hc : vwCl[ci]? = some (C, T, N)) (hw : ∀ w ∈ u_ws C T N, w ∈ dm_W) (hty : ∀ k, k < N → parseFieldDescriptor (T k).2.2.1 = some (ty k)) (hl1 : Cond.classLink own idx C ∈ dm_W) (hl2 : Cond.instantiable C N ∈ dm_W) (hl3 : Cond.initialized C ∈ dm_W) (hlen : fs.length = N) (hfs : ∀ j, j < N → defaultValue (ty j) = vp_V fs j) (hm : ∀ b zb, fs.map (dm_v b zb) = fs) : dm_Good tb own cc nL ret isI sc pc (dm_new (pc + 3) ci fs) := by
  intro lv st M o h
  cases h
  refine dm_newc (fun p l e R s m args below meth c D ca b zb n0 Q H locs ls cells slots hC hz hP hl h1 h2 hk => ?_) rfl
  obtain ⟨hx, hb, hml, hown, hts, hr, hlk, hin, hK, hsz, hfr, hlo, hsc⟩ := hC
  have hKn := hK.1 ci _ hc
  have h2' : slots + N ≤ R.slots := by rw [← hlen]; exact h2
  refine W.newcK hx hb hown (hts _ hl1) (hts _ hl2) (hts _ hl3) rfl hd h1 h2' hKn.2.1 hz fun H1 kC hkC e1 z1 o1 => ?_
  have h9 := hk H1 z1 o1 ⟨_, hc, by
    show t_OB _ _ _ _ _ (vp_V (fs.map (dm_v b zb)))
    rw [hm]
    exact (u_born ty hts hw hKn hkC e1 hty).to hfs⟩
  have e9 : dm_sz (.inr (ci, fs)) = N := hlen
  rw [e9] at h9
  exact h9
def dm_zero : FieldType → ((Nat → Int32) ⊕ (Nat → Int64) ⊕ (Nat → UInt32) ⊕ (Nat → UInt64) ⊕ (Nat → Option Nat))
  | .long => .inr (.inl (fun _ => 0))
  | _ => .inl (fun _ => 0)
def dm_newa (n : Nat) (ty : FieldType) : dm_Sem := fun lv st M => match st with
  | .int z :: r => if z < 0 ∨ 50000000 < z.toNatClampNeg then none else some (.inl ((n, lv, .ref M.length :: r), M ++ [.inl (ty, z.toNatClampNeg, dm_zero ty)]))
  | _ => none
theorem dg_newa {tb : Nat → dm_Me} {own : String} {cc : ByteArray} {nL : Nat} {ret : Option FieldType} {isI : Bool} {sc : Option (Nat × (Nat → Int32))} {pc : Nat} {atype : ArrayType} {ty : FieldType} (hd : decode cc pc = .ok (.newarray atype, 2)) (hty : newarray.typeOf atype = ty) (hT : dm_isT ty = true) (hw : Cond.arrayClass ty ∈ dm_W) : dm_Good tb own cc nL ret isI sc pc (dm_newa (pc + 2) ty) := by
  intro lv st M o h
  unfold dm_newa at h
  split at h
  · rename_i z r
    split at h
    · cases h
    · rename_i hc
      cases h
      refine dm_newc (fun p l e R s m args below meth c D ca b zb n0 Q H locs ls cells slots hC hz hP hl h1 h2 hk => ?_) rfl
      obtain ⟨hx, hb, hml, hown, hts, hr, hlk, hin, hK, hsz, hfr, hlo, hsc⟩ := hC
      have c1 : ¬ z < 0 := fun q => hc (Or.inl q)
      have c2 : z.toNatClampNeg ≤ 50000000 := Nat.not_lt.mp (fun q => hc (Or.inr q))
      subst hty
      have hbytes : z.toNatClampNeg * componentBytes (newarray.typeOf atype) ≤ 536870912 := by
        have : componentBytes (newarray.typeOf atype) ≤ 8 := by cases atype <;> decide
        calc z.toNatClampNeg * componentBytes (newarray.typeOf atype) ≤ 50000000 * 8 := Nat.mul_le_mul c2 this
          _ ≤ 536870912 := by decide
      refine va_newaK hx hb (hts _ hw) rfl hd rfl c1 rfl hbytes h1 h2 hz fun H1 cA e1 z1 o1 hAr hNm => ?_
      refine hk H1 z1 o1 ?_
      obtain ⟨t0, ht0⟩ := dm_tys_at ca hT
      have hca : ca (newarray.typeOf atype) = cA := by
        have h9 := (hK.2 t0 _ ht0).2
        have h8 : s.vm.findClass ("[" ++ (newarray.typeOf atype).toString) = some (ca (newarray.typeOf atype)) := by
          cases atype <;> exact h9
        exact Option.some.inj (h8.symm.trans hNm)
      show H1[b + M.length]? = some (vp_cell (ca (newarray.typeOf atype)) _)
      rw [hca, e1]
      congr 1
      cases atype <;> first | rfl | cases hT
  · cases h
def dm_alen (n : Nat) : dm_Sem := fun lv st M => match st with
  | .ref a :: r => match M[a]? with
    | some (.inl x) => if dm_isT x.1 = true then some (.inl ((n, lv, .int (Int32.ofNat x.2.1) :: r), M)) else none
    | _ => none
  | _ => none
theorem dg_alen {tb : Nat → dm_Me} {own : String} {cc : ByteArray} {nL : Nat} {ret : Option FieldType} {isI : Bool} {sc : Option (Nat × (Nat → Int32))} {pc : Nat} (hd : decode cc pc = .ok (.arraylength, 1)) : dm_Good tb own cc nL ret isI sc pc (dm_alen (pc + 1)) := by
  intro lv st M o h
  unfold dm_alen at h
  split at h
  · rename_i a r
    split at h
    · rename_i x e1
      split at h
      · rename_i hT
        cases h
        refine dm_pure (fun p l e R s m args below meth c D ca b zb n0 Q H locs ls cells slots hC hH hl h1 h2 hk9 => ?_)
        obtain ⟨hx, hb, hml, hown, hts, hr, hlk, hin, hK, hsz, hfr, hlo, hsc⟩ := hC
        obtain ⟨t0, ht0⟩ := dm_tys_at ca hT
        exact va_alen hx hb hK hH.2 a t0 (x := x.2) (dm_ws_get e1) ht0 rfl hd (hk9 ls hl)
      · cases h
    · cases h
  · cases h
def dm_iald (n : Nat) : dm_Sem := fun lv st M => match st with
  | .int i :: .ref a :: r => match M[a]? with
    | some (.inl (.int, k, .inl f)) => if i < 0 ∨ k ≤ i.toNatClampNeg then none else some (.inl ((n, lv, .int (f i.toNatClampNeg) :: r), M))
    | _ => none
  | _ => none
theorem dg_iald {tb : Nat → dm_Me} {own : String} {cc : ByteArray} {nL : Nat} {ret : Option FieldType} {isI : Bool} {sc : Option (Nat × (Nat → Int32))} {pc : Nat} (hd : decode cc pc = .ok (.iaload, 1)) : dm_Good tb own cc nL ret isI sc pc (dm_iald (pc + 1)) := by
  intro lv st M o h
  unfold dm_iald at h
  split at h
  · rename_i i a r
    split at h
    · rename_i k f e1
      split at h
      · cases h
      · rename_i hc
        cases h
        refine dm_pure (fun p l e R s m args below meth c D ca b zb n0 Q H locs ls cells slots hC hH hl h1 h2 hk9 => ?_)
        obtain ⟨hx, hb, hml, hown, hts, hr, hlk, hin, hK, hsz, hfr, hlo, hsc⟩ := hC
        obtain ⟨t0, ht0⟩ := dm_tys_at (ty := .int) ca rfl
        exact va_iald hx hb hK hH.2 a t0 (dm_ws_get e1) ht0 hc hd (hk9 ls hl)
    · cases h
  · cases h
def dm_bald (n : Nat) : dm_Sem := fun lv st M => match st with
  | .int i :: .ref a :: r => match M[a]? with
    | some (.inl (.boolean, k, .inl f)) => if i < 0 ∨ k ≤ i.toNatClampNeg then none else some (.inl ((n, lv, .int (f i.toNatClampNeg) :: r), M))
    | some (.inl (.byte, k, .inl f)) => if i < 0 ∨ k ≤ i.toNatClampNeg then none else some (.inl ((n, lv, .int (f i.toNatClampNeg) :: r), M))
    | _ => none
  | _ => none
theorem dg_bald {tb : Nat → dm_Me} {own : String} {cc : ByteArray} {nL : Nat} {ret : Option FieldType} {isI : Bool} {sc : Option (Nat × (Nat → Int32))} {pc : Nat} (hd : decode cc pc = .ok (.baload, 1)) : dm_Good tb own cc nL ret isI sc pc (dm_bald (pc + 1)) := by
  intro lv st M o h
  unfold dm_bald at h
  split at h
  · rename_i i a r
    split at h
    · rename_i k f e1
      split at h
      · cases h
      · rename_i hc
        cases h
        refine dm_pure (fun p l e R s m args below meth c D ca b zb n0 Q H locs ls cells slots hC hH hl h1 h2 hk9 => ?_)
        obtain ⟨hx, hb, hml, hown, hts, hr, hlk, hin, hK, hsz, hfr, hlo, hsc⟩ := hC
        obtain ⟨t0, ht0⟩ := dm_tys_at (ty := .boolean) ca rfl
        exact va_zald hx hb hK hH.2 a t0 (dm_ws_get e1) ht0 hc hd (hk9 ls hl)
    · rename_i k f e1
      split at h
      · cases h
      · rename_i hc
        cases h
        refine dm_pure (fun p l e R s m args below meth c D ca b zb n0 Q H locs ls cells slots hC hH hl h1 h2 hk9 => ?_)
        obtain ⟨hx, hb, hml, hown, hts, hr, hlk, hin, hK, hsz, hfr, hlo, hsc⟩ := hC
        obtain ⟨t0, ht0⟩ := dm_tys_at (ty := .byte) ca rfl
        exact va_bald hx hb hK hH.2 a t0 (dm_ws_get e1) ht0 hc hd (hk9 ls hl)
    · cases h
  · cases h
def dm_sald (n : Nat) : dm_Sem := fun lv st M => match st with
  | .int i :: .ref a :: r => match M[a]? with
    | some (.inl (.short, k, .inl f)) => if i < 0 ∨ k ≤ i.toNatClampNeg then none else some (.inl ((n, lv, .int (f i.toNatClampNeg) :: r), M))
    | _ => none
  | _ => none
theorem dg_sald {tb : Nat → dm_Me} {own : String} {cc : ByteArray} {nL : Nat} {ret : Option FieldType} {isI : Bool} {sc : Option (Nat × (Nat → Int32))} {pc : Nat} (hd : decode cc pc = .ok (.saload, 1)) : dm_Good tb own cc nL ret isI sc pc (dm_sald (pc + 1)) := by
  intro lv st M o h
  unfold dm_sald at h
  split at h
  · rename_i i a r
    split at h
    · rename_i k f e1
      split at h
      · cases h
      · rename_i hc
        cases h
        refine dm_pure (fun p l e R s m args below meth c D ca b zb n0 Q H locs ls cells slots hC hH hl h1 h2 hk9 => ?_)
        obtain ⟨hx, hb, hml, hown, hts, hr, hlk, hin, hK, hsz, hfr, hlo, hsc⟩ := hC
        obtain ⟨t0, ht0⟩ := dm_tys_at (ty := .short) ca rfl
        exact va_sald hx hb hK hH.2 a t0 (dm_ws_get e1) ht0 hc hd (hk9 ls hl)
    · cases h
  · cases h
def dm_lald (n : Nat) : dm_Sem := fun lv st M => match st with
  | .int i :: .ref a :: r => match M[a]? with
    | some (.inl (.long, k, .inr (.inl f))) => if i < 0 ∨ k ≤ i.toNatClampNeg then none else some (.inl ((n, lv, .long (f i.toNatClampNeg) :: r), M))
    | _ => none
  | _ => none
theorem dg_lald {tb : Nat → dm_Me} {own : String} {cc : ByteArray} {nL : Nat} {ret : Option FieldType} {isI : Bool} {sc : Option (Nat × (Nat → Int32))} {pc : Nat} (hd : decode cc pc = .ok (.laload, 1)) : dm_Good tb own cc nL ret isI sc pc (dm_lald (pc + 1)) := by
  intro lv st M o h
  unfold dm_lald at h
  split at h
  · rename_i i a r
    split at h
    · rename_i k f e1
      split at h
      · cases h
      · rename_i hc
        cases h
        refine dm_pure (fun p l e R s m args below meth c D ca b zb n0 Q H locs ls cells slots hC hH hl h1 h2 hk9 => ?_)
        obtain ⟨hx, hb, hml, hown, hts, hr, hlk, hin, hK, hsz, hfr, hlo, hsc⟩ := hC
        obtain ⟨t0, ht0⟩ := dm_tys_at (ty := .long) ca rfl
        exact va_lald hx hb hK hH.2 a t0 (dm_ws_get e1) ht0 hc hd (hk9 ls hl)
    · cases h
  · cases h
def dm_iast (n : Nat) : dm_Sem := fun lv st M => match st with
  | .int x :: .int i :: .ref a :: r => match M[a]? with
    | some (.inl (.int, k, .inl f)) => if i < 0 ∨ k ≤ i.toNatClampNeg then none else some (.inl ((n, lv, r), M.set a (.inl (.int, k, .inl (upd f i.toNatClampNeg x)))))
    | _ => none
  | _ => none
theorem dg_iast {tb : Nat → dm_Me} {own : String} {cc : ByteArray} {nL : Nat} {ret : Option FieldType} {isI : Bool} {sc : Option (Nat × (Nat → Int32))} {pc : Nat} (hd : decode cc pc = .ok (.iastore, 1)) : dm_Good tb own cc nL ret isI sc pc (dm_iast (pc + 1)) := by
  intro lv st M o h
  unfold dm_iast at h
  split at h
  · rename_i x i a r
    split at h
    · rename_i k f e1
      split at h
      · cases h
      · rename_i hc
        cases h
        refine dm_putc e1 rfl (fun p l e R s m args below meth c D ca b zb n0 Q H locs ls cells slots hC hH hS hD hl hk9 => ?_) rfl
        obtain ⟨hx, hb, hml, hown, hts, hr, hlk, hin, hK, hsz, hfr, hlo, hsc⟩ := hC
        obtain ⟨t0, ht0⟩ := dm_tys_at (ty := .int) ca rfl
        exact va_iast hx hb hK hH.2 hD hS a t0 (dm_ws_get e1) ht0 hc hd (fun H1 locs1 hP1 _ hS1 => hk9 H1 locs1 hP1 hS1)
    · cases h
  · cases h
def dm_bast (n : Nat) : dm_Sem := fun lv st M => match st with
  | .int x :: .int i :: .ref a :: r => match M[a]? with
    | some (.inl (.boolean, k, .inl f)) => if i < 0 ∨ k ≤ i.toNatClampNeg then none else some (.inl ((n, lv, r), M.set a (.inl (.boolean, k, .inl (upd f i.toNatClampNeg (vp_nar .boolean x))))))
    | some (.inl (.byte, k, .inl f)) => if i < 0 ∨ k ≤ i.toNatClampNeg then none else some (.inl ((n, lv, r), M.set a (.inl (.byte, k, .inl (upd f i.toNatClampNeg (vp_nar .byte x))))))
    | _ => none
  | _ => none
theorem dg_bast {tb : Nat → dm_Me} {own : String} {cc : ByteArray} {nL : Nat} {ret : Option FieldType} {isI : Bool} {sc : Option (Nat × (Nat → Int32))} {pc : Nat} (hd : decode cc pc = .ok (.bastore, 1)) : dm_Good tb own cc nL ret isI sc pc (dm_bast (pc + 1)) := by
  intro lv st M o h
  unfold dm_bast at h
  split at h
  · rename_i x i a r
    split at h
    · rename_i k f e1
      split at h
      · cases h
      · rename_i hc
        cases h
        refine dm_putc e1 rfl (fun p l e R s m args below meth c D ca b zb n0 Q H locs ls cells slots hC hH hS hD hl hk9 => ?_) rfl
        obtain ⟨hx, hb, hml, hown, hts, hr, hlk, hin, hK, hsz, hfr, hlo, hsc⟩ := hC
        obtain ⟨t0, ht0⟩ := dm_tys_at (ty := .boolean) ca rfl
        exact va_zast hx hb hK hH.2 hD hS a t0 (dm_ws_get e1) ht0 hc hd (fun H1 locs1 hP1 _ hS1 => hk9 H1 locs1 hP1 hS1)
    · rename_i k f e1
      split at h
      · cases h
      · rename_i hc
        cases h
        refine dm_putc e1 rfl (fun p l e R s m args below meth c D ca b zb n0 Q H locs ls cells slots hC hH hS hD hl hk9 => ?_) rfl
        obtain ⟨hx, hb, hml, hown, hts, hr, hlk, hin, hK, hsz, hfr, hlo, hsc⟩ := hC
        obtain ⟨t0, ht0⟩ := dm_tys_at (ty := .byte) ca rfl
        exact va_bast hx hb hK hH.2 hD hS a t0 (dm_ws_get e1) ht0 hc hd (fun H1 locs1 hP1 _ hS1 => hk9 H1 locs1 hP1 hS1)
    · cases h
  · cases h
def dm_sast (n : Nat) : dm_Sem := fun lv st M => match st with
  | .int x :: .int i :: .ref a :: r => match M[a]? with
    | some (.inl (.short, k, .inl f)) => if i < 0 ∨ k ≤ i.toNatClampNeg then none else some (.inl ((n, lv, r), M.set a (.inl (.short, k, .inl (upd f i.toNatClampNeg (vp_nar .short x))))))
    | _ => none
  | _ => none
theorem dg_sast {tb : Nat → dm_Me} {own : String} {cc : ByteArray} {nL : Nat} {ret : Option FieldType} {isI : Bool} {sc : Option (Nat × (Nat → Int32))} {pc : Nat} (hd : decode cc pc = .ok (.sastore, 1)) : dm_Good tb own cc nL ret isI sc pc (dm_sast (pc + 1)) := by
  intro lv st M o h
  unfold dm_sast at h
  split at h
  · rename_i x i a r
    split at h
    · rename_i k f e1
      split at h
      · cases h
      · rename_i hc
        cases h
        refine dm_putc e1 rfl (fun p l e R s m args below meth c D ca b zb n0 Q H locs ls cells slots hC hH hS hD hl hk9 => ?_) rfl
        obtain ⟨hx, hb, hml, hown, hts, hr, hlk, hin, hK, hsz, hfr, hlo, hsc⟩ := hC
        obtain ⟨t0, ht0⟩ := dm_tys_at (ty := .short) ca rfl
        exact va_sast hx hb hK hH.2 hD hS a t0 (dm_ws_get e1) ht0 hc hd (fun H1 locs1 hP1 _ hS1 => hk9 H1 locs1 hP1 hS1)
    · cases h
  · cases h
def dm_last (n : Nat) : dm_Sem := fun lv st M => match st with
  | .long x :: .int i :: .ref a :: r => match M[a]? with
    | some (.inl (.long, k, .inr (.inl f))) => if i < 0 ∨ k ≤ i.toNatClampNeg then none else some (.inl ((n, lv, r), M.set a (.inl (.long, k, .inr (.inl (vp_updL f i.toNatClampNeg x))))))
    | _ => none
  | _ => none
theorem dg_last {tb : Nat → dm_Me} {own : String} {cc : ByteArray} {nL : Nat} {ret : Option FieldType} {isI : Bool} {sc : Option (Nat × (Nat → Int32))} {pc : Nat} (hd : decode cc pc = .ok (.lastore, 1)) : dm_Good tb own cc nL ret isI sc pc (dm_last (pc + 1)) := by
  intro lv st M o h
  unfold dm_last at h
  split at h
  · rename_i x i a r
    split at h
    · rename_i k f e1
      split at h
      · cases h
      · rename_i hc
        cases h
        refine dm_putc e1 rfl (fun p l e R s m args below meth c D ca b zb n0 Q H locs ls cells slots hC hH hS hD hl hk9 => ?_) rfl
        obtain ⟨hx, hb, hml, hown, hts, hr, hlk, hin, hK, hsz, hfr, hlo, hsc⟩ := hC
        obtain ⟨t0, ht0⟩ := dm_tys_at (ty := .long) ca rfl
        exact va_last hx hb hK hH.2 hD hS a t0 (dm_ws_get e1) ht0 hc hd (fun H1 locs1 hP1 _ hS1 => hk9 H1 locs1 hP1 hS1)
    · cases h
  · cases h
end
section
/-! calls, returns, what the JDK does -/
/-- behind a call -/
theorem dm_call {p : Program} {l : Launch} {e : Env} {R : Room} {s : State} {m : MethodId} {args : Array Value} {below : List Frame} {meth : Method} {c : Code} {H : Heap} {locs : List Loc} {cells slots mc ms pc : Nat} {Q : State → Prop} {ls : Array Slot} {st0 rest : List Value} {a : Array Value} {D : va_G} {ca : FieldType → ClassId} {b zb : Nat} {r : Option Value} {M' : dm_Mem}
    (hr : va_Run p l e R s m args below meth c H locs cells slots mc ms (F0 m pc ls st0) rest (dm_Qc D ca b zb r M' a) (fun q => b ≤ q)) (hS : va_S (fun q => b ≤ q) s.heap H locs)
    (kk : ∀ (H1 : Heap) (locs1 : List Loc), dm_Hp D ca b zb M' H1 → va_S (fun q => b ≤ q) s.heap H1 locs1 → W p l e R s m args below meth c H1 locs1 (cells + mc) (slots + ms) Q (F0 m (pc + 3) ls ((r.map (dm_v b zb)).toList ++ rest))) : W p l e R s m args below meth c H locs cells slots Q (F0 m pc ls st0) := by
  intro T hT X
  obtain ⟨v, st₀, t, T', L, h0, X', hL, e1, e2, ⟨hv, hp, hz, hk⟩, st⟩ := hr T hT X
  have hv' : v = r.map (dm_v b zb) := Outcome.returned.inj hv
  subst hv'
  rw [h0] at hz hk
  obtain ⟨t2, a1, b1⟩ := kk T'.heap (locs ++ L) (by rw [e1]; exact hp)
    ⟨Nat.le_trans hS.1 (by rw [e1]; exact hz), fun q h1 h2 => by rw [e1, hk q (Nat.lt_of_lt_of_le h1 hS.1) h2]; exact hS.2.1 q h1 h2, fun q hq => by
      rcases List.mem_append.mp hq with h | h
      · exact hS.2.2 q h
      · exact hL q h⟩ T' rfl X'
  exact ⟨t2, st t2 a1, b1⟩
/-- a method of ours that may be called: its words are among the tables' -/
def dm_Mok (tb : Nat → dm_Me) (mi : Nat) : Prop := Cond.code (tb mi).1 (tb mi).2.1 (tb mi).2.2.1 (tb mi).2.2.2.1 ∈ dm_W ∧ Cond.initialized (tb mi).1.cls ∈ dm_W ∧ ((tb mi).1.cls ≠ "java/lang/invoke/MethodHandle" ∧ (tb mi).1.cls ≠ "java/lang/invoke/VarHandle") ∧ (tb mi).2.2.1 ≤ 45 ∧ plainName (tb mi).1.cls = true
theorem dm_wo_good {tb : Nat → dm_Me} {mi : Nat} (h : dm_Mok tb mi) : GoodIn dm_W (dm_wo (tb mi)) := by
  intro w hw
  rcases List.mem_cons.mp hw with rfl | hw
  · exact ⟨h.1, dm_goodW h.1⟩
  · exact ⟨hw, dm_goodW hw⟩
theorem dm_blind {D : va_G} {ca : FieldType → ClassId} {b zb : Nat} {M : dm_Mem} {av : List Value} : FrameBlind (va_Pc av (fun U => dm_Hp D ca b zb M U.heap ∧ va_K D vwCl (dm_tys ca) U ∧ dm_Nk U)) :=
  fun a U g mk q => ⟨q.1, q.2.1, va_K.moved (u := U) (U := U.calling g mk a) (Vm.Alike.refl U.vm) q.2.2.1, fun w hw => va_Nw.same (u := U) (U := U.calling g mk a) rfl rfl (q.2.2.2 w hw)⟩
def dm_inv (n mi na ci : Nat) : dm_Sem := fun lv st M => match st.drop na with
  | .ref a :: r => if (r.map fun v => v.category).sum ≤ 8 then match M[a]? with
      | some (.inr o) => if o.1 = ci then some (.inr (.inl (mi, .ref a :: (st.take na).reverse, (n, lv, r)))) else none
      | _ => none
    else none
  | _ => none
def dm_ini (n mi na : Nat) : dm_Sem := fun lv st _ => match st.drop na with
  | .ref a :: r => if (r.map fun v => v.category).sum ≤ 8 then some (.inr (.inl (mi, .ref a :: (st.take na).reverse, (n, lv, r)))) else none
  | _ => none
def dm_ins (n mi na : Nat) : dm_Sem := fun lv st _ => if na ≤ st.length ∧ ((st.drop na).map fun v => v.category).sum ≤ 8 then some (.inr (.inl (mi, (st.take na).reverse, (n, lv, st.drop na)))) else none
theorem dm_stk {st r : List Value} {na : Nat} {x : Value} (h : st.drop na = x :: r) : st = (st.take na).reverse.reverse ++ x :: r ∧ ((st.take na).reverse).length = na := by
  have h1 : st = st.take na ++ st.drop na := (List.take_append_drop na st).symm
  have h2 : na < st.length := by
    by_cases h3 : na < st.length
    · exact h3
    · rw [List.drop_eq_nil_of_le (by omega)] at h
      cases h
  refine ⟨by rw [List.reverse_reverse, ← h]; exact h1, ?_⟩
  rw [List.length_reverse, List.length_take]
  omega
theorem dm_mapstk {st r : List Value} {na : Nat} {x : Value} (b zb : Nat) (h : st.drop na = x :: r) : st.map (dm_v b zb) = (((st.take na).reverse).map (dm_v b zb)).reverse ++ dm_v b zb x :: r.map (dm_v b zb) := by
  have h1 := (dm_stk h).1
  have h2 : st.map (dm_v b zb) = ((st.take na).reverse.reverse ++ x :: r).map (dm_v b zb) := congrArg (List.map (dm_v b zb)) h1
  rw [h2, List.map_append, List.map_cons, List.map_reverse]
theorem dm_toL (b zb : Nat) (r : Option Value) (st : List Value) : (r.map (dm_v b zb)).toList ++ st.map (dm_v b zb) = (r.toList ++ st).map (dm_v b zb) := by
  cases r <;> rfl
theorem dg_inv {tb : Nat → dm_Me} {own : String} {cc : ByteArray} {nL : Nat} {ret : Option FieldType} {isI : Bool} {sc : Option (Nat × (Nat → Int32))} {pc : Nat} {mi na ci idx : Nat} {q : vw_C} (hd : decode cc pc = .ok (.invokevirtual idx, 3)) (hok : dm_Mok tb mi) (hc : vwCl[ci]? = some q) (hq : (tb mi).1.cls = q.1) (hl1 : Cond.methodLink own idx (tb mi).1 ∈ dm_W) (hl2 : Cond.instanceMethod (tb mi).1 ∈ dm_W) (hl3 : Cond.selects q.1 (tb mi).1 (tb mi).1 ∈ dm_W) (hn : (parseMethodDescriptor (tb mi).1.desc).map (fun d => d.parameters.length) = some na) : dm_Good tb own cc nL ret isI sc pc (dm_inv (pc + 3) mi na ci) := by
  intro lv st M o h
  unfold dm_inv at h
  split at h
  · rename_i a r e1
    split at h
    · rename_i e2
      split at h
      · rename_i ob e3
        split at h
        · rename_i e4
          cases h
          intro p l e R s m args below meth c D ca b zb n0 s0 Q d r' M' hC g1 g2 g3 g4 g5 g6 hM hk H locs ls hH hS hl
          obtain ⟨hx, hb, hml, hown, hts, hr, hlk, hin, hK, hsz, hfr, hlo, hsc⟩ := hC
          obtain ⟨⟨m1, m2⟩, hMet⟩ := hM
          obtain ⟨k1, k2, k3, k4, k5⟩ := id hok
          have hcw := cwV (R := R) (C := q.1) (index := idx) (own := own) (rm := { frames := d, cells := M'.length - M.length, slots := dm_slots M' - dm_slots M, locals := 64 * d }) na hts (ws := dm_wo (tb mi)) (fun w hw => by
              rcases List.mem_append.mp hw with h | h
              · have h9 : w ∈ dm_W := by
                  simp only [List.mem_cons, List.not_mem_nil, or_false] at h
                  rcases h with rfl | rfl | rfl | rfl
                  · exact hl1
                  · exact hl2
                  · exact hl3
                  · rw [← hq]; exact k2
                exact ⟨h9, dm_goodW h9⟩
              · exact dm_wo_good hok w h) rfl rfl rfl ⟨hq, k3.1, k3.2, hn⟩ ⟨g5, by show 8 + ((tb mi).2.2.1 + 11) + 64 * d ≤ R.locals; omega⟩
          have hrun := va_runV (As := ((st.take na).reverse).map (dm_v b zb)) (b := b + a) (rest := r.map (dm_v b zb)) (g := F0 m pc ls (st.map (dm_v b zb))) (locs := locs) (cells := M.length - n0) (slots := dm_slots M - s0) (H := H) (e := e) (p := p) (below := below) (meth := meth) ⟨hx, hb, hml, hown, hts⟩ (hMet D ca b zb) hcw
            ⟨dm_blind, va_recv hK hH.2 (ci := ci) (q0 := a) hc (by rw [dm_ws_get e3, ← e4]; rfl), fun U hU hW => ⟨rfl, by rw [hU]; exact hH, va_K.moved hW.alike hK, dm_Nk.warm hW hsc.2⟩⟩ rfl (by rw [List.length_map]; exact (dm_stk e1).2) hl.1 (dm_mapstk b zb e1) (lv_room (by rw [dm_cats]; exact e2)) hd ⟨by show M.length - n0 + (M'.length - M.length) ≤ _; omega, by show dm_slots M - s0 + (dm_slots M' - dm_slots M) ≤ _; omega⟩
          refine dm_call hrun hS (fun H1 locs1 hH1 hS1 => ?_)
          have h9 := hk H1 locs1 ls hH1 hS1 hl
          rw [show M.length - n0 + (M'.length - M.length) = M'.length - n0 by omega, show dm_slots M - s0 + (dm_slots M' - dm_slots M) = dm_slots M' - s0 by omega, dm_toL]
          exact h9
        · cases h
      · cases h
    · cases h
  · cases h
theorem dg_ini {tb : Nat → dm_Me} {own : String} {cc : ByteArray} {nL : Nat} {ret : Option FieldType} {isI : Bool} {sc : Option (Nat × (Nat → Int32))} {pc : Nat} {mi na idx : Nat} (hd : decode cc pc = .ok (.invokespecial idx, 3)) (hok : dm_Mok tb mi) (hrt : (tb mi).2.2.2.1 = none) (hnm : (tb mi).1.name = "<init>") (hl1 : Cond.methodLink own idx (tb mi).1 ∈ dm_W) (hl2 : Cond.instanceMethod (tb mi).1 ∈ dm_W) (hn : (parseMethodDescriptor (tb mi).1.desc).map (fun d => d.parameters.length) = some na) : dm_Good tb own cc nL ret isI sc pc (dm_ini (pc + 3) mi na) := by
  intro lv st M o h
  unfold dm_ini at h
  split at h
  · rename_i a r e1
    split at h
    · rename_i e2
      cases h
      intro p l e R s m args below meth c D ca b zb n0 s0 Q d r' M' hC g1 g2 g3 g4 g5 g6 hM hk H locs ls hH hS hl
      obtain ⟨hx, hb, hml, hown, hts, hr, hlk, hin, hK, hsz, hfr, hlo, hsc⟩ := hC
      obtain ⟨⟨m1, m2⟩, hMet⟩ := hM
      obtain ⟨k1, k2, k3, k4, k5⟩ := id hok
      have hcw := cwI (R := R) (index := idx) (own := own) (y := (tb mi).1) (bytes := (tb mi).2.1) (maxL := (tb mi).2.2.1) (ws' := dm_W) (rm := { frames := d, cells := M'.length - M.length, slots := dm_slots M' - dm_slots M, locals := 64 * d }) na hts (ws := dm_wo (tb mi)) (dm_wo_good hok) (by unfold dm_wo; rw [hrt]) rfl rfl (hts _ k2) (hts _ hl1) (hts _ hl2) hnm ⟨k3.1, k3.2, hn⟩ ⟨g5, by show 8 + ((tb mi).2.2.1 + 11) + 64 * d ≤ R.locals; omega⟩
      have hrun := va_runI (As := ((st.take na).reverse).map (dm_v b zb)) (b := b + a) (rest := r.map (dm_v b zb)) (g := F0 m pc ls (st.map (dm_v b zb))) (locs := locs) (cells := M.length - n0) (slots := dm_slots M - s0) (H := H) (e := e) (p := p) (below := below) (meth := meth) ⟨hx, hb, hml, hown, hts⟩ (hMet D ca b zb) hcw
        ⟨dm_blind, fun U hU hW => ⟨rfl, by rw [hU]; exact hH, va_K.moved hW.alike hK, dm_Nk.warm hW hsc.2⟩⟩ rfl (by rw [List.length_map]; exact (dm_stk e1).2) hl.1 (dm_mapstk b zb e1) (lv_room (by rw [dm_cats]; exact e2)) hd ⟨by show M.length - n0 + (M'.length - M.length) ≤ _; omega, by show dm_slots M - s0 + (dm_slots M' - dm_slots M) ≤ _; omega⟩
      refine dm_call hrun hS (fun H1 locs1 hH1 hS1 => ?_)
      have h9 := hk H1 locs1 ls hH1 hS1 hl
      rw [show M.length - n0 + (M'.length - M.length) = M'.length - n0 by omega, show dm_slots M - s0 + (dm_slots M' - dm_slots M) = dm_slots M' - s0 by omega, dm_toL]
      exact h9
    · cases h
  · cases h
theorem dg_iniN {tb : Nat → dm_Me} {own host : String} {cc : ByteArray} {nL : Nat} {ret : Option FieldType} {isI : Bool} {sc : Option (Nat × (Nat → Int32))} {pc : Nat} {mi na idx : Nat} (hd : decode cc pc = .ok (.invokespecial idx, 3)) (hok : dm_Mok tb mi) (hrt : (tb mi).2.2.2.1 = none) (hnm : (tb mi).1.name = "<init>") (hl1 : (own, idx, (tb mi).1, host) ∈ dm_N) (hl2 : Cond.instanceMethod (tb mi).1 ∈ dm_W) (hn : (parseMethodDescriptor (tb mi).1.desc).map (fun d => d.parameters.length) = some na) : dm_Good tb own cc nL ret isI sc pc (dm_ini (pc + 3) mi na) := by
  intro lv st M o h
  unfold dm_ini at h
  split at h
  · rename_i a r e1
    split at h
    · rename_i e2
      cases h
      intro p l e R s m args below meth c D ca b zb n0 s0 Q d r' M' hC g1 g2 g3 g4 g5 g6 hM hk H locs ls hH hS hl
      obtain ⟨hx, hb, hml, hown, hts, hr, hlk, hin, hK, hsz, hfr, hlo, hsc⟩ := hC
      obtain ⟨⟨m1, m2⟩, hMet⟩ := hM
      obtain ⟨k1, k2, k3, k4, k5⟩ := id hok
      have hcw := va_cnB (R := R) (index := idx) (own := own) (host := host) (y := (tb mi).1) (bytes := (tb mi).2.1) (maxL := (tb mi).2.2.1) (ret := none) (ws' := dm_W) (rm := { frames := d, cells := M'.length - M.length, slots := dm_slots M' - dm_slots M, locals := 64 * d }) na hts (ws := dm_wo (tb mi)) (dm_wo_good hok) (by unfold dm_wo; rw [hrt]) rfl rfl (hsc.2 _ hl1) (hts _ k2) ⟨k3.1, k3.2, hn⟩ ⟨g5, by show 8 + ((tb mi).2.2.1 + 11) + 64 * d ≤ R.locals; omega⟩
      have hrun := va_runIN (As := ((st.take na).reverse).map (dm_v b zb)) (b := b + a) (rest := r.map (dm_v b zb)) (g := F0 m pc ls (st.map (dm_v b zb))) (locs := locs) (cells := M.length - n0) (slots := dm_slots M - s0) (H := H) (e := e) (p := p) (below := below) (meth := meth) ⟨hx, hb, hml, hown, hts⟩ (hMet D ca b zb) ⟨hcw, hnm, hts _ hl2⟩
        ⟨dm_blind, fun U hU hW => ⟨rfl, by rw [hU]; exact hH, va_K.moved hW.alike hK, dm_Nk.warm hW hsc.2⟩⟩ rfl (by rw [List.length_map]; exact (dm_stk e1).2) hl.1 (dm_mapstk b zb e1) (lv_room (by rw [dm_cats]; exact e2)) hd ⟨by show M.length - n0 + (M'.length - M.length) ≤ _; omega, by show dm_slots M - s0 + (dm_slots M' - dm_slots M) ≤ _; omega⟩
      refine dm_call hrun hS (fun H1 locs1 hH1 hS1 => ?_)
      have h9 := hk H1 locs1 ls hH1 hS1 hl
      rw [show M.length - n0 + (M'.length - M.length) = M'.length - n0 by omega, show dm_slots M - s0 + (dm_slots M' - dm_slots M) = dm_slots M' - s0 by omega, dm_toL]
      exact h9
    · cases h
  · cases h
theorem dm_mapst0 {st : List Value} {na : Nat} (b zb : Nat) : st.map (dm_v b zb) = (((st.take na).reverse).map (dm_v b zb)).reverse ++ (st.drop na).map (dm_v b zb) := by
  rw [List.map_reverse, List.reverse_reverse, ← List.map_append, List.take_append_drop]
theorem dg_ins {tb : Nat → dm_Me} {own : String} {cc : ByteArray} {nL : Nat} {ret : Option FieldType} {isI : Bool} {sc : Option (Nat × (Nat → Int32))} {pc : Nat} {mi na idx : Nat} (hd : decode cc pc = .ok (.invokestatic idx, 3)) (hok : dm_Mok tb mi) (hl1 : Cond.methodLink own idx (tb mi).1 ∈ dm_W) (hl2 : Cond.static (tb mi).1 ∈ dm_W) (hn : (parseMethodDescriptor (tb mi).1.desc).map (fun d => d.parameters.length) = some na) : dm_Good tb own cc nL ret isI sc pc (dm_ins (pc + 3) mi na) := by
  intro lv st M o h
  unfold dm_ins at h
  split at h
  · rename_i e2
    cases h
    intro p l e R s m args below meth c D ca b zb n0 s0 Q d r' M' hC g1 g2 g3 g4 g5 g6 hM hk H locs ls hH hS hl
    obtain ⟨hx, hb, hml, hown, hts, hr, hlk, hin, hK, hsz, hfr, hlo, hsc⟩ := hC
    obtain ⟨⟨m1, m2⟩, hMet⟩ := hM
    obtain ⟨k1, k2, k3, k4, k5⟩ := id hok
    have hcw := callB_of (R := R) (index := idx) (own := own) (rm := { frames := d, cells := M'.length - M.length, slots := dm_slots M' - dm_slots M, locals := 64 * d }) na hts (ws := dm_wo (tb mi)) (dm_wo_good hok) rfl rfl rfl (hts _ k2) (hts _ hl1) ⟨k3.1, k3.2, hn⟩ ⟨g5, by show 8 + ((tb mi).2.2.1 + 11) + 64 * d ≤ R.locals; omega⟩
    have hrun := va_runS (As := ((st.take na).reverse).map (dm_v b zb)) (rest := (st.drop na).map (dm_v b zb)) (g := F0 m pc ls (st.map (dm_v b zb))) (locs := locs) (cells := M.length - n0) (slots := dm_slots M - s0) (H := H) (e := e) (p := p) (below := below) (meth := meth) ⟨hx, hb, hml, hown, hts⟩ (hMet D ca b zb) ⟨hcw, hts _ hl2⟩
      ⟨dm_blind, fun U hU hW => ⟨rfl, by rw [hU]; exact hH, va_K.moved hW.alike hK, dm_Nk.warm hW hsc.2⟩⟩ rfl (by rw [List.length_map, List.length_reverse, List.length_take]; omega) hl.1 (dm_mapst0 b zb) (lv_room (by rw [dm_cats]; exact e2.2)) hd ⟨by show M.length - n0 + (M'.length - M.length) ≤ _; omega, by show dm_slots M - s0 + (dm_slots M' - dm_slots M) ≤ _; omega⟩
    refine dm_call hrun hS (fun H1 locs1 hH1 hS1 => ?_)
    have h9 := hk H1 locs1 ls hH1 hS1 hl
    rw [show M.length - n0 + (M'.length - M.length) = M'.length - n0 by omega, show dm_slots M - s0 + (dm_slots M' - dm_slots M) = dm_slots M' - s0 by omega, dm_toL]
    exact h9
  · cases h
theorem dg_insN {tb : Nat → dm_Me} {own host : String} {cc : ByteArray} {nL : Nat} {ret : Option FieldType} {isI : Bool} {sc : Option (Nat × (Nat → Int32))} {pc : Nat} {mi na idx : Nat} (hd : decode cc pc = .ok (.invokestatic idx, 3)) (hok : dm_Mok tb mi) (hl1 : (own, idx, (tb mi).1, host) ∈ dm_N) (hl2 : Cond.static (tb mi).1 ∈ dm_W) (hn : (parseMethodDescriptor (tb mi).1.desc).map (fun d => d.parameters.length) = some na) : dm_Good tb own cc nL ret isI sc pc (dm_ins (pc + 3) mi na) := by
  intro lv st M o h
  unfold dm_ins at h
  split at h
  · rename_i e2
    cases h
    intro p l e R s m args below meth c D ca b zb n0 s0 Q d r' M' hC g1 g2 g3 g4 g5 g6 hM hk H locs ls hH hS hl
    obtain ⟨hx, hb, hml, hown, hts, hr, hlk, hin, hK, hsz, hfr, hlo, hsc⟩ := hC
    obtain ⟨⟨m1, m2⟩, hMet⟩ := hM
    obtain ⟨k1, k2, k3, k4, k5⟩ := id hok
    have hcw := va_cnB (R := R) (index := idx) (own := own) (host := host) (rm := { frames := d, cells := M'.length - M.length, slots := dm_slots M' - dm_slots M, locals := 64 * d }) na hts (ws := dm_wo (tb mi)) (dm_wo_good hok) rfl rfl rfl (hsc.2 _ hl1) (hts _ k2) ⟨k3.1, k3.2, hn⟩ ⟨g5, by show 8 + ((tb mi).2.2.1 + 11) + 64 * d ≤ R.locals; omega⟩
    have hrun := va_runSN (As := ((st.take na).reverse).map (dm_v b zb)) (rest := (st.drop na).map (dm_v b zb)) (g := F0 m pc ls (st.map (dm_v b zb))) (locs := locs) (cells := M.length - n0) (slots := dm_slots M - s0) (H := H) (e := e) (p := p) (below := below) (meth := meth) ⟨hx, hb, hml, hown, hts⟩ (hMet D ca b zb) ⟨hcw, hts _ hl2, trivial⟩
      ⟨dm_blind, fun U hU hW => ⟨rfl, by rw [hU]; exact hH, va_K.moved hW.alike hK, dm_Nk.warm hW hsc.2⟩⟩ rfl (by rw [List.length_map, List.length_reverse, List.length_take]; omega) hl.1 (dm_mapst0 b zb) (lv_room (by rw [dm_cats]; exact e2.2)) hd ⟨by show M.length - n0 + (M'.length - M.length) ≤ _; omega, by show dm_slots M - s0 + (dm_slots M' - dm_slots M) ≤ _; omega⟩
    refine dm_call hrun hS (fun H1 locs1 hH1 hS1 => ?_)
    have h9 := hk H1 locs1 ls hH1 hS1 hl
    rw [show M.length - n0 + (M'.length - M.length) = M'.length - n0 by omega, show dm_slots M - s0 + (dm_slots M' - dm_slots M) = dm_slots M' - s0 by omega, dm_toL]
    exact h9
  · cases h
-- ===== Object(), Math.max, Math.min, System.arraycopy =====
def dm_oin (n : Nat) : dm_Sem := fun lv st M => match st with
  | .ref _ :: r => if (r.map fun v => v.category).sum ≤ 8 then some (.inl ((n, lv, r), M)) else none
  | _ => none
theorem dg_oin {tb : Nat → dm_Me} {own : String} {cc : ByteArray} {nL : Nat} {ret : Option FieldType} {isI : Bool} {sc : Option (Nat × (Nat → Int32))} {pc : Nat} {idx : Nat} (hd : decode cc pc = .ok (.invokespecial idx, 3)) (hl1 : Cond.methodLink own idx Lib.objectInit ∈ dm_W) (hl2 : Cond.instanceMethod Lib.objectInit ∈ dm_W) (hl3 : Cond.code Lib.objectInit ⟨#[0xb1]⟩ 1 none ∈ dm_W) : dm_Good tb own cc nL ret isI sc pc (dm_oin (pc + 3)) := by
  intro lv st M o h
  unfold dm_oin at h
  split at h
  · split at h
    · rename_i e2
      cases h
      refine dm_pure (fun p l e R s m args below meth c D ca b zb n0 Q H locs ls cells slots hC hH hl h1 h2 hk => ?_)
      obtain ⟨hx, hb, hml, hown, hts, hr, hlk, hin, hK, hsz, hf, hlo, hsc⟩ := hC
      exact W.objInit hx hb hown (hts _ hl1) (hts _ hl2) (hts _ hl3) rfl (by rw [hml]; exact hl.1) rfl hd hf (by rw [dm_cats]; show 2 * 0 + _ + 12 ≤ _; omega) (hk ls hl)
    · cases h
  · cases h
def dm_mx (n : Nat) : dm_Sem := fun lv st M => match st with
  | .int y :: .int x :: r => if (r.map fun v => v.category).sum ≤ 8 then some (.inl ((n, lv, .int (if x < y then y else x) :: r), M)) else none
  | _ => none
def dm_mn (n : Nat) : dm_Sem := fun lv st M => match st with
  | .int y :: .int x :: r => if (r.map fun v => v.category).sum ≤ 8 then some (.inl ((n, lv, .int (if y < x then y else x) :: r), M)) else none
  | _ => none
theorem dg_mx {tb : Nat → dm_Me} {own : String} {cc : ByteArray} {nL : Nat} {ret : Option FieldType} {isI : Bool} {sc : Option (Nat × (Nat → Int32))} {pc : Nat} {idx : Nat} (hd : decode cc pc = .ok (.invokestatic idx, 3)) (hl1 : Cond.methodLink own idx Lib.Math.max.name ∈ dm_W) (hl2 : Cond.static Lib.Math.max.name ∈ dm_W) (hl3 : Cond.initialized "java/lang/Math" ∈ dm_W) (hl4 : Cond.code Lib.Math.max.name Lib.Math.max.code 2 (some .int) ∈ dm_W) : dm_Good tb own cc nL ret isI sc pc (dm_mx (pc + 3)) := by
  intro lv st M o h
  unfold dm_mx at h
  split at h
  · split at h
    · rename_i e2
      cases h
      refine dm_pure (fun p l e R s m args below meth c D ca b zb n0 Q H locs ls cells slots hC hH hl h1 h2 hk => ?_)
      obtain ⟨hx, hb, hml, hown, hts, hr, hlk, hin, hK, hsz, hf, hlo, hsc⟩ := hC
      exact va_mmax hx hb (by rw [hml]; exact hl.1.symm) hown (hts _ hl1) (hts _ hl2) (hts _ hl3) (hts _ hl4) hf (by rw [dm_cats]; omega) h1 h2 hd (hk ls hl)
    · cases h
  · cases h
theorem dg_mn {tb : Nat → dm_Me} {own : String} {cc : ByteArray} {nL : Nat} {ret : Option FieldType} {isI : Bool} {sc : Option (Nat × (Nat → Int32))} {pc : Nat} {idx : Nat} (hd : decode cc pc = .ok (.invokestatic idx, 3)) (hl1 : Cond.methodLink own idx Lib.Math.min.name ∈ dm_W) (hl2 : Cond.static Lib.Math.min.name ∈ dm_W) (hl3 : Cond.initialized "java/lang/Math" ∈ dm_W) (hl4 : Cond.code Lib.Math.min.name Lib.Math.min.code 2 (some .int) ∈ dm_W) : dm_Good tb own cc nL ret isI sc pc (dm_mn (pc + 3)) := by
  intro lv st M o h
  unfold dm_mn at h
  split at h
  · split at h
    · rename_i e2
      cases h
      refine dm_pure (fun p l e R s m args below meth c D ca b zb n0 Q H locs ls cells slots hC hH hl h1 h2 hk => ?_)
      obtain ⟨hx, hb, hml, hown, hts, hr, hlk, hin, hK, hsz, hf, hlo, hsc⟩ := hC
      exact va_mmin hx hb (by rw [hml]; exact hl.1.symm) hown (hts _ hl1) (hts _ hl2) (hts _ hl3) (hts _ hl4) hf (by rw [dm_cats]; omega) h1 h2 hd (hk ls hl)
    · cases h
  · cases h
def dm_acp (n : Nat) : dm_Sem := fun lv st M => match st with
  | .int k :: .int dp :: .ref a1 :: .int sp :: .ref a0 :: r => match M[a0]? with
    | some (.inl (.int, n0, .inl f)) => match M[a1]? with
      | some (.inl (.int, n1, .inl g)) => if (r.map fun v => v.category).sum ≤ 8 ∧ ¬ sp < 0 ∧ ¬ dp < 0 ∧ ¬ k < 0 ∧ sp.toNatClampNeg + k.toNatClampNeg ≤ n0 ∧ dp.toNatClampNeg + k.toNatClampNeg ≤ n1 then some (.inl ((n, lv, r), M.set a1 (.inl (.int, n1, .inl (va_cpy f g sp.toNatClampNeg dp.toNatClampNeg k.toNatClampNeg))))) else none
      | _ => none
    | _ => none
  | _ => none
theorem dg_acp {tb : Nat → dm_Me} {own : String} {cc : ByteArray} {nL : Nat} {ret : Option FieldType} {isI : Bool} {sc : Option (Nat × (Nat → Int32))} {pc : Nat} {idx : Nat} (hd : decode cc pc = .ok (.invokestatic idx, 3)) (hl1 : Cond.methodLink own idx arraycopyName ∈ dm_W) (hl2 : Cond.native arraycopyName ∈ dm_W) (hl3 : Cond.static arraycopyName ∈ dm_W) (hl4 : Cond.initialized "java/lang/System" ∈ dm_W) : dm_Good tb own cc nL ret isI sc pc (dm_acp (pc + 3)) := by
  intro lv st M o h
  unfold dm_acp at h
  split at h
  · rename_i k dp a1 sp a0 r
    split at h
    · rename_i n0 f e0
      split at h
      · rename_i n1 g e1
        split at h
        · rename_i e2
          obtain ⟨c0, c1, c2, c3, c4, c5⟩ := e2
          cases h
          refine dm_putc e1 rfl (fun p l e R s m args below meth c D ca b zb n0' Q H locs ls cells slots hC hH hS hD hl hk9 => ?_) rfl
          obtain ⟨hx, hb, hml, hown, hts, hr, hlk, hin, hK, hsz, hfr, hlo, hsc⟩ := hC
          obtain ⟨t0, ht0⟩ := dm_tys_at (ty := .int) ca rfl
          have hnw : nativeFrameWords "java/lang/System" "arraycopy" 5 = 7 := by decide
          exact va_copyi hx hb (by rw [hml]; exact hl.1.symm) hown (hts _ hl1) (hts _ hl2) (hts _ hl3) (hts _ hl4) hK hH.2 hD hS a0 a1 t0 t0 (dm_ws_get e0) (dm_ws_get e1) ht0 ht0 rfl c1 c2 c3 c4 c5 (fun _ _ => rfl) hfr (by rw [dm_cats, hnw]; omega) hd (fun H1 locs1 hP1 _ hS1 => hk9 H1 locs1 hP1 hS1)
        · cases h
      · cases h
    · cases h
  · cases h
-- ===== returns =====
def dm_rfit : FieldType → Int32 → Bool
  | .int, _ => true
  | .boolean, v => v == 0 || v == 1
  | _, _ => false
def dm_ret (ty : FieldType) : dm_Sem := fun _ st _ => match st with
  | [.int v] => if dm_rfit ty v = true then some (.inr (.inr (some (.int v)))) else none
  | _ => none
theorem dm_SF {b n0 : Nat} {s t : State} {H : Heap} {locs : List Loc} (hS : va_S (fun q => b ≤ q) s.heap H locs) (ht : t.heap = H) : va_F (fun q => b ≤ q) s t := hS.F ht
theorem dg_ret {tb : Nat → dm_Me} {own : String} {cc : ByteArray} {nL : Nat} {isI : Bool} {sc : Option (Nat × (Nat → Int32))} {pc : Nat} {ty : FieldType} (hd : decode cc pc = .ok (.ireturn, 1)) : dm_Good tb own cc nL (some ty) isI sc pc (dm_ret ty) := by
  intro lv st M o h
  unfold dm_ret at h
  split at h
  · rename_i v
    split at h
    · rename_i e1
      cases h
      intro p l e R s m args below meth c D ca b zb n0 s0 hC H locs ls hH hS hl
      obtain ⟨hx, hb, hml, hown, hts, hr, hlk, hin, hK, hsz, hf, hlo, hsc⟩ := hC
      have hn : narrow ty (.int v) = .int v := by
        cases ty <;> first | (cases e1; done) | rfl | skip
        have h2 : v = 0 ∨ v = 1 := by simpa [dm_rfit] using e1
        rcases h2 with rfl | rfl <;> decide
      exact W.zret (v := v) hx hb hr hn (fun t ht hW => ⟨rfl, by rw [ht]; exact hH, hS.F ht⟩) hS.2.2 hd
    · cases h
  · cases h
def dm_lret : dm_Sem := fun _ st _ => match st with
  | [.long v] => some (.inr (.inr (some (.long v))))
  | _ => none
theorem dg_lret {tb : Nat → dm_Me} {own : String} {cc : ByteArray} {nL : Nat} {isI : Bool} {sc : Option (Nat × (Nat → Int32))} {pc : Nat} (hd : decode cc pc = .ok (.lreturn, 1)) : dm_Good tb own cc nL (some .long) isI sc pc dm_lret := by
  intro lv st M o h
  unfold dm_lret at h
  split at h
  · rename_i v
    cases h
    intro p l e R s m args below meth c D ca b zb n0 s0 hC H locs ls hH hS hl
    obtain ⟨hx, hb, hml, hown, hts, hr, hlk, hin, hK, hsz, hf, hlo, hsc⟩ := hC
    exact W.lret (v := v) hx hb hr (fun t ht hW => ⟨rfl, by rw [ht]; exact hH, hS.F ht⟩) hS.2.2 hd
  · cases h
def dm_vret : dm_Sem := fun _ st _ => match st with
  | [] => some (.inr (.inr none))
  | _ => none
theorem dg_vret {tb : Nat → dm_Me} {own : String} {cc : ByteArray} {nL : Nat} {isI : Bool} {sc : Option (Nat × (Nat → Int32))} {pc : Nat} (hd : decode cc pc = .ok (.return_, 1)) : dm_Good tb own cc nL none isI sc pc dm_vret := by
  intro lv st M o h
  unfold dm_vret at h
  split at h
  · cases h
    intro p l e R s m args below meth c D ca b zb n0 s0 hC H locs ls hH hS hl
    obtain ⟨hx, hb, hml, hown, hts, hr, hlk, hin, hK, hsz, hf, hlo, hsc⟩ := hC
    exact W.vret hx hb hr (fun t ht hW => ⟨rfl, by rw [ht]; exact hH, hS.F ht⟩) hS.2.2 hd
  · cases h
def dm_aret : dm_Sem := fun _ st _ => match st with
  | [.ref v] => some (.inr (.inr (some (.ref v))))
  | _ => none
theorem dg_aret {tb : Nat → dm_Me} {own : String} {cc : ByteArray} {nL : Nat} {isI : Bool} {sc : Option (Nat × (Nat → Int32))} {pc : Nat} {ty : FieldType} (hd : decode cc pc = .ok (.areturn, 1)) : dm_Good tb own cc nL (some (.array ty)) isI sc pc dm_aret := by
  intro lv st M o h
  unfold dm_aret at h
  split at h
  · rename_i v
    cases h
    intro p l e R s m args below meth c D ca b zb n0 s0 hC H locs ls hH hS hl
    obtain ⟨hx, hb, hml, hown, hts, hr, hlk, hin, hK, hsz, hf, hlo, hsc⟩ := hC
    exact W.aret (v := .ref (b + v)) hx hb hr (Or.inr ⟨_, rfl⟩) (Or.inr ⟨_, rfl⟩) (fun t ht hW => ⟨rfl, by rw [ht]; exact hH, hS.F ht⟩) hS.2.2 hd
  · cases h
-- ===== the law's script =====
def dm_sld (n L : Nat) (xs : Nat → Int32) : dm_Sem := fun lv st M => match st with
  | .int i :: .float _ :: r => if i < 0 ∨ L ≤ i.toNatClampNeg then none else some (.inl ((n, lv, .int (xs i.toNatClampNeg) :: r), M))
  | _ => none
def dm_sln (n L : Nat) : dm_Sem := fun lv st M => match st with
  | .float _ :: r => some (.inl ((n, lv, .int (Int32.ofNat L) :: r), M))
  | _ => none
theorem dm_pureS {own : String} {cc : ByteArray} {nL : Nat} {ret : Option FieldType} {isI : Bool} {sc : Option (Nat × (Nat → Int32))} {pc : Nat} {lv : dm_Lv} {st : List Value} {M : dm_Mem} {g : dm_Fr}
    (h : ∀ (p : Program) (l : Launch) (e : Env) (R : Room) (s : State) (m : MethodId) (args : Array Value) (below : List Frame) (meth : Method) (c : Code) (D : va_G) (ca : FieldType → ClassId) (b zb n0 : Nat) (Q : State → Prop) (H : Heap) (locs : List Loc) (ls : Array Slot) (cells slots : Nat),
      dm_Cx own cc nL ret isI sc p R s m args meth c D ca b zb n0 → va_S (fun q => b ≤ q) s.heap H locs → lv_has ls nL (dm_lv b zb lv) →
      (∀ ls' : Array Slot, lv_has ls' nL (dm_lv b zb g.2.1) → W p l e R s m args below meth c H locs cells slots Q (F0 m g.1 ls' (g.2.2.map (dm_v b zb)))) → W p l e R s m args below meth c H locs cells slots Q (F0 m pc ls (st.map (dm_v b zb)))) :
    dm_Nx own cc nL ret isI sc pc lv st M g M := by
  refine ⟨⟨Nat.le_refl _, Nat.le_refl _⟩, ?_⟩
  intro p l e R s m args below meth c D ca b zb n0 s0 Q hC _ _ h1 h2 hk H locs ls hH hS hl
  exact h p l e R s m args below meth c D ca b zb n0 Q H locs ls _ _ hC hS hl (fun ls' hl' => hk H locs ls' hH hS hl')
theorem dg_sld {tb : Nat → dm_Me} {own : String} {cc : ByteArray} {nL : Nat} {ret : Option FieldType} {isI : Bool} {pc L : Nat} {xs : Nat → Int32} (hd : decode cc pc = .ok (.iaload, 1)) : dm_Good tb own cc nL ret isI (some (L, xs)) pc (dm_sld (pc + 1) L xs) := by
  intro lv st M o h
  unfold dm_sld at h
  split at h
  · rename_i i z r
    split at h
    · cases h
    · rename_i hc
      cases h
      refine dm_pureS (fun p l e R s m args below meth c D ca b zb n0 Q H locs ls cells slots hC hS hl hk => ?_)
      obtain ⟨hx, hb, hml, hown, hts, hr, hlk, hin, hK, hsz, hf, hlo, hsc⟩ := hC
      obtain ⟨x1, x2, x3⟩ := hsc.1 L xs rfl
      exact va_sld hx hb x1 x2 (Nat.not_le.mpr x3) hS hc hd (hk ls hl)
  · cases h
theorem dg_sln {tb : Nat → dm_Me} {own : String} {cc : ByteArray} {nL : Nat} {ret : Option FieldType} {isI : Bool} {pc L : Nat} {xs : Nat → Int32} (hd : decode cc pc = .ok (.arraylength, 1)) : dm_Good tb own cc nL ret isI (some (L, xs)) pc (dm_sln (pc + 1) L) := by
  intro lv st M o h
  unfold dm_sln at h
  split at h
  · cases h
    refine dm_pureS (fun p l e R s m args below meth c D ca b zb n0 Q H locs ls cells slots hC hS hl hk => ?_)
    obtain ⟨hx, hb, hml, hown, hts, hr, hlk, hin, hK, hsz, hf, hlo, hsc⟩ := hC
    obtain ⟨x1, x2, x3⟩ := hsc.1 L xs rfl
    exact va_slen hx hb x1 x2 (Nat.not_le.mpr x3) hS hd (hk ls hl)
  · cases h
end
section
/-! runs of our machine, and that the JVM does the same -/
def dm_no : dm_Sem := fun _ _ _ => none
theorem dg_no {tb : Nat → dm_Me} {own : String} {cc : ByteArray} {nL : Nat} {ret : Option FieldType} {isI : Bool} {sc : Option (Nat × (Nat → Int32))} {pc : Nat} : dm_Good tb own cc nL ret isI sc pc dm_no := fun _ _ _ _ h => by cases h
abbrev dm_Code : Type := List (List dm_Sem)
def dm_fetch (t : dm_Code) (pc : Nat) : Option dm_Sem := match t[pc / 16]? with
  | some r => r[pc % 16]?
  | none => none
abbrev dm_K : Type := Nat → List Value → dm_Mem → Option (Option Value × dm_Mem)
def dm_step (K : dm_K) (t : dm_Code) (ih : dm_Fr → dm_Mem → Option (Option Value × dm_Mem)) (g : dm_Fr) (M : dm_Mem) : Option (Option Value × dm_Mem) := match dm_fetch t g.1 with
  | none => none
  | some f => match f g.2.1 g.2.2 M with
    | none => none
    | some (.inl q) => ih q.1 q.2
    | some (.inr (.inl q)) => (match K q.1 q.2.1 M with
      | none => none
      | some r => ih (q.2.2.1, q.2.2.2.1, r.1.toList ++ q.2.2.2.2) r.2)
    | some (.inr (.inr v)) => some (v, M)
noncomputable def dm_run (K : dm_K) (t : dm_Code) (n : Nat) : dm_Fr → dm_Mem → Option (Option Value × dm_Mem) := Nat.rec (fun _ _ => none) (fun _ ih => dm_step K t ih) n
noncomputable def dm_ex (tb : Nat → dm_Me) (cd : Nat → dm_Code) (N d : Nat) : dm_K := Nat.rec (fun _ _ _ => none) (fun _ ih mi as M => if (lg_sl as).length ≤ (tb mi).2.2.1 then dm_run ih (cd mi) N (0, lv_args 0 as, []) M else none) d
theorem dm_run_succ (K : dm_K) (t : dm_Code) (n : Nat) (g : dm_Fr) (M : dm_Mem) : dm_run K t (n + 1) g M = dm_step K t (dm_run K t n) g M := rfl
theorem dm_ex_succ (tb : Nat → dm_Me) (cd : Nat → dm_Code) (N d mi : Nat) (as : List Value) (M : dm_Mem) : dm_ex tb cd N (d + 1) mi as M = if (lg_sl as).length ≤ (tb mi).2.2.1 then dm_run (dm_ex tb cd N d) (cd mi) N (0, lv_args 0 as, []) M else none := rfl
/-- a step, by its kinds -/
theorem dm_step_cases {K : dm_K} {t : dm_Code} {ih : dm_Fr → dm_Mem → Option (Option Value × dm_Mem)} {g : dm_Fr} {M : dm_Mem} {o : Option Value × dm_Mem} (h : dm_step K t ih g M = some o) :
    ∃ f, dm_fetch t g.1 = some f ∧ ((∃ g' M', f g.2.1 g.2.2 M = some (.inl (g', M')) ∧ ih g' M' = some o) ∨ (∃ mi as g' r M', f g.2.1 g.2.2 M = some (.inr (.inl (mi, as, g'))) ∧ K mi as M = some (r, M') ∧ ih (g'.1, g'.2.1, r.toList ++ g'.2.2) M' = some o) ∨ (∃ v, f g.2.1 g.2.2 M = some (.inr (.inr v)) ∧ o = (v, M))) := by
  unfold dm_step at h
  split at h
  · cases h
  · rename_i f e1
    refine ⟨f, e1, ?_⟩
    split at h
    · cases h
    · rename_i q e2
      exact Or.inl ⟨q.1, q.2, e2, h⟩
    · rename_i q e2
      split at h
      · cases h
      · rename_i r e3
        exact Or.inr (Or.inl ⟨q.1, q.2.1, q.2.2, r.1, r.2, e2, e3, h⟩)
    · rename_i v e2
      exact Or.inr (Or.inr ⟨v, e2, (Option.some.inj h).symm⟩)
theorem dm_run_le {K : dm_K} {t : dm_Code} {tb : Nat → dm_Me} {l : Launch} {d : Nat} {own : String} {cc : ByteArray} {nL : Nat} {ret : Option FieldType} {isI : Bool} {sc : Option (Nat × (Nat → Int32))} (hK : ∀ mj as M r M', K mj as M = some (r, M') → dm_Met tb l d mj as M r M') (hG : ∀ pc f, dm_fetch t pc = some f → dm_Good tb own cc nL ret isI sc pc f) :
    ∀ (n : Nat) (g : dm_Fr) (M : dm_Mem) (r : Option Value) (M' : dm_Mem), dm_run K t n g M = some (r, M') → M.length ≤ M'.length ∧ dm_slots M ≤ dm_slots M' := by
  intro n
  induction n with
  | zero => intro g M r M' h; cases h
  | succ n ih =>
    intro g M r M' h
    rw [dm_run_succ] at h
    obtain ⟨f, e1, h | h | h⟩ := dm_step_cases h
    · obtain ⟨g', M1, e2, e3⟩ := h
      have a1 := (hG _ _ e1 _ _ _ _ e2).1
      have a2 := ih _ _ _ _ e3
      exact ⟨Nat.le_trans a1.1 a2.1, Nat.le_trans a1.2 a2.2⟩
    · obtain ⟨mi, as, g', r', M1, e2, e3, e4⟩ := h
      have a1 := (hK _ _ _ _ _ e3).1
      have a2 := ih _ _ _ _ e4
      exact ⟨Nat.le_trans a1.1 a2.1, Nat.le_trans a1.2 a2.2⟩
    · obtain ⟨v, e2, e3⟩ := h
      cases e3
      exact ⟨Nat.le_refl _, Nat.le_refl _⟩
/-- from where our run goes through, the JVM's does -/
theorem dm_run_at {K : dm_K} {t : dm_Code} {tb : Nat → dm_Me} {l : Launch} {d : Nat} {own : String} {cc : ByteArray} {nL : Nat} {ret : Option FieldType} {isI : Bool} {sc : Option (Nat × (Nat → Int32))} (hK : ∀ mj as M r M', K mj as M = some (r, M') → dm_Met tb l d mj as M r M') (hG : ∀ pc f, dm_fetch t pc = some f → dm_Good tb own cc nL ret isI sc pc f)
    {p : Program} {e : Env} {R : Room} {s : State} {m : MethodId} {args : Array Value} {below : List Frame} {meth : Method} {c : Code} {D : va_G} {ca : FieldType → ClassId} {b zb n0 s0 : Nat} {Q : State → Prop} (hC : dm_Cx own cc nL ret isI sc p R s m args meth c D ca b zb n0) (hfr : d + 1 ≤ R.frames) (hlo : 64 * d + 64 ≤ R.locals) {r : Option Value} {M' : dm_Mem} (hc1 : M'.length - n0 ≤ R.cells) (hc2 : dm_slots M' - s0 ≤ R.slots)
    (hQ : ∀ pc lv st f, dm_fetch t pc = some f → f lv st M' = some (.inr (.inr r)) → dm_At p l e R s m args below meth c D ca b zb n0 s0 nL Q M' (pc, lv, st)) :
    ∀ (n : Nat) (g : dm_Fr) (M : dm_Mem), n0 ≤ M.length → s0 ≤ dm_slots M → dm_run K t n g M = some (r, M') → dm_At p l e R s m args below meth c D ca b zb n0 s0 nL Q M g := by
  intro n
  induction n with
  | zero => intro g M _ _ h; cases h
  | succ n ih =>
    intro g M hn hs h
    rw [dm_run_succ] at h
    obtain ⟨pc, lv, st⟩ := g
    obtain ⟨f, e1, h | h | h⟩ := dm_step_cases h
    · obtain ⟨g', M1, e2, e3⟩ := h
      have a1 := hG _ _ e1 _ _ _ _ e2
      have a2 := dm_run_le hK hG _ _ _ _ _ e3
      exact a1.2 p l e R s m args below meth c D ca b zb n0 s0 Q hC hn hs (by show M1.length - n0 ≤ _; omega) (by show dm_slots M1 - s0 ≤ _; omega) (ih g' M1 (Nat.le_trans hn a1.1.1) (Nat.le_trans hs a1.1.2) e3)
    · obtain ⟨mi, as, g', r', M1, e2, e3, e4⟩ := h
      have a1 := hG _ _ e1 _ _ _ _ e2
      have a3 := hK _ _ _ _ _ e3
      have a2 := dm_run_le hK hG _ _ _ _ _ e4
      exact a1 p l e R s m args below meth c D ca b zb n0 s0 Q d r' M1 hC hn hs (by omega) (by omega) hfr hlo a3 (ih _ M1 (Nat.le_trans hn a3.1.1) (Nat.le_trans hs a3.1.2) e4)
    · obtain ⟨v, e2, e3⟩ := h
      cases e3
      exact hQ _ _ _ f e1 e2
/-- a method of the table: its words stand in the tables, its steps are the JVM's -/
def dm_Tok (tb : Nat → dm_Me) (cd : Nat → dm_Code) (mi : Nat) : Prop := cd mi = [] ∨ (dm_Mok tb mi ∧ ((tb mi).2.2.2.2 = true → (tb mi).1.name = "<init>") ∧ ∀ pc f, dm_fetch (cd mi) pc = some f → dm_Good tb (tb mi).1.cls (tb mi).2.1 (tb mi).2.2.1 (tb mi).2.2.2.1 (tb mi).2.2.2.2 none pc f)
theorem dm_sound {tb : Nat → dm_Me} {cd : Nat → dm_Code} (hT : ∀ mi, dm_Tok tb cd mi) (l : Launch) (N : Nat) : ∀ (d mi : Nat) (as : List Value) (M : dm_Mem) (r : Option Value) (M' : dm_Mem), dm_ex tb cd N d mi as M = some (r, M') → dm_Met tb l d mi as M r M' := by
  intro d
  induction d with
  | zero => intro mi as M r M' h; cases h
  | succ d ih =>
    intro mi as M r M' h
    rw [dm_ex_succ] at h
    split at h
    · rename_i hlen
      rcases hT mi with h0 | ⟨hok, hin, hG⟩
      · rw [h0] at h
        cases N with
        | zero => cases h
        | succ N => rw [dm_run_succ] at h; cases h
      · have hle := dm_run_le (fun mj as M r M' h => ih mj as M r M' h) hG _ _ _ _ _ h
        refine ⟨hle, fun D ca b zb => ?_⟩
        refine Met.ofW (cc := (tb mi).2.1) (maxL := (tb mi).2.2.1) (ret := (tb mi).2.2.2.1) hok.2.2.2.2 rfl ?_
        intro p e s m args below meth c s₁ B hml hv
        obtain ⟨rfl, hH, hKs, hNs⟩ := hv
        have hts0 := atoms_spec (ws := dm_wo (tb mi)) B.pre
        have hC : dm_Cx (tb mi).1.cls (tb mi).2.1 (tb mi).2.2.1 (tb mi).2.2.2.1 (tb mi).2.2.2.2 none p (headSpec (dm_wo (tb mi)) { frames := d + 1, cells := M'.length - M.length, slots := dm_slots M' - dm_slots M, locals := 64 * (d + 1) }).room s m (as.map (dm_v b zb)).toArray meth c D ca b zb M.length :=
          ⟨B.exec, B.bytes, hml, findClass_of_methodNamed B.named, fun w hw => hts0 w (List.mem_cons_of_mem _ hw), B.returns, B.notSynchronized, fun hi => by
            rw [(name_of_methodNamed B.named B.method).1]; exact hin hi, hKs, hH.1, by show 1 ≤ d + 1; omega, by show 64 ≤ 64 * (d + 1); omega, (fun _ _ h => by cases h), hNs⟩
        have hat := dm_run_at (s0 := dm_slots M) (e := e) (below := below) (Q := MQ below (dm_Qc D ca b zb r M') (as.map (dm_v b zb)).toArray s (M'.length - M.length) (dm_slots M' - dm_slots M) (fun q => b ≤ q)) (fun mj as M r M' h => ih mj as M r M' h) hG hC (by show d + 1 ≤ d + 1; omega) (by show 64 * d + 64 ≤ 64 * (d + 1); omega) (Nat.le_refl _) (Nat.le_refl _)
          (fun pc lv st f e1 e2 => (hG pc f e1 lv st M' _ e2) p l e _ s m _ below meth c D ca b zb M.length (dm_slots M) hC) N (0, lv_args 0 as, []) M (Nat.le_refl _) (Nat.le_refl _) h
        have hl := lv_entry (as.map (dm_v b zb)) (n := (tb mi).2.2.1) (by rw [dm_lg_sl]; exact hlen)
        rw [dm_lv_args] at hl
        rw [lg_entry_eq]
        have h9 := hat s.heap [] _ hH va_S.rf hl
        rw [Nat.sub_self, Nat.sub_self] at h9
        exact h9
    · cases h
end
section
/-! the words of the tables that our steps stand on; the table of methods -/
def dm_AllR (P : Nat → dm_Sem → Prop) : Nat → List dm_Sem → Prop
  | _, [] => True
  | k, f :: r => P k f ∧ dm_AllR P (k + 1) r
def dm_AllC (P : Nat → dm_Sem → Prop) : Nat → dm_Code → Prop
  | _, [] => True
  | k, r :: t => (r.length ≤ 16 ∧ dm_AllR P k r) ∧ dm_AllC P (k + 16) t
theorem dr_n {P : Nat → dm_Sem → Prop} {k : Nat} : dm_AllR P k [] := trivial
theorem dr_c {P : Nat → dm_Sem → Prop} {k : Nat} {f : dm_Sem} {r : List dm_Sem} (h : P k f) (h2 : dm_AllR P (k + 1) r) : dm_AllR P k (f :: r) := ⟨h, h2⟩
theorem dc_n {P : Nat → dm_Sem → Prop} {k : Nat} : dm_AllC P k [] := trivial
theorem dc_c {P : Nat → dm_Sem → Prop} {k : Nat} {r : List dm_Sem} {t : dm_Code} (h0 : r.length ≤ 16) (h : dm_AllR P k r) (h2 : dm_AllC P (k + 16) t) : dm_AllC P k (r :: t) := ⟨⟨h0, h⟩, h2⟩
theorem dm_AllR.at {P : Nat → dm_Sem → Prop} {r : List dm_Sem} : ∀ {k : Nat}, dm_AllR P k r → ∀ (j : Nat) (f : dm_Sem), r[j]? = some f → P (k + j) f := by
  induction r with
  | nil => intro k _ j f h; simp at h
  | cons x r ih =>
    intro k h j f hj
    cases j with
    | zero => simp at hj; subst hj; exact h.1
    | succ j =>
      have h9 := ih h.2 j f (by simpa using hj)
      rw [show k + (j + 1) = k + 1 + j by omega]
      exact h9
theorem dm_AllC.at {P : Nat → dm_Sem → Prop} {t : dm_Code} : ∀ {k : Nat}, dm_AllC P k t → ∀ (i : Nat) (r : List dm_Sem), t[i]? = some r → r.length ≤ 16 ∧ dm_AllR P (k + 16 * i) r := by
  induction t with
  | nil => intro k _ i r h; simp at h
  | cons x t ih =>
    intro k h i r hi
    cases i with
    | zero => simp at hi; subst hi; exact h.1
    | succ i =>
      have h9 := ih h.2 i r (by simpa using hi)
      rw [show k + 16 * (i + 1) = k + 16 + 16 * i by omega]
      exact h9
theorem dm_rows {P : Nat → dm_Sem → Prop} {t : dm_Code} (h : dm_AllC P 0 t) (pc : Nat) (f : dm_Sem) (hf : dm_fetch t pc = some f) : P pc f := by
  unfold dm_fetch at hf
  split at hf
  · rename_i r e1
    have h1 := (h.at _ _ e1).2.at _ _ hf
    rw [show 0 + 16 * (pc / 16) + pc % 16 = pc by omega] at h1
    exact h1
  · cases hf
def dm_tbL : List (List dm_Me) := [[(yX0_init, cX0_init, 1, none, true), (yX0_clear, cX0_clear, 1, none, false), (yX0_size, cX0_size, 1, (some .int), false), (yX0_note, cX0_note, 5, none, false), (yX0_takeBack, cX0_takeBack, 2, (some .boolean), false), (yX1_init, cX1_init, 1, none, true), (yX1_size, cX1_size, 1, (some .int), false), (yX1_bitAt, cX1_bitAt, 2, (some .int), false), (yX1_push, cX1_push, 5, none, false), (yX1_cut, cX1_cut, 2, (some .boolean), false), (yX1_copyFrom, cX1_copyFrom, 2, none, false), (yX2_init, cX2_init, 1, none, true), (yX2_clear, cX2_clear, 1, none, false), (yX2_size, cX2_size, 1, (some .int), false), (yX2_nodes, cX2_nodes, 1, (some .int), false), (yX2_make, cX2_make, 7, (some .int), false)],
  [(yX2_cut, cX2_cut, 2, none, false), (yX2_has, cX2_has, 2, (some .boolean), false), (yX2_ownOf, cX2_ownOf, 2, (some .int), false), (yX2_knownOf, cX2_knownOf, 2, (some .int), false), (yX2_howOf, cX2_howOf, 2, (some .int), false), (yX2_firstOf, cX2_firstOf, 2, (some .int), false), (yX2_secondOf, cX2_secondOf, 2, (some .int), false), (yX2_stateOf, cX2_stateOf, 2, (some .int), false), (yX2_setState, cX2_setState, 3, none, false), (yX2_ownsNothing, cX2_ownsNothing, 2, (some .boolean), false), (yX2_isLiving, cX2_isLiving, 2, (some .boolean), false), (yX2_isOwner, cX2_isOwner, 2, (some .boolean), false), (yX2_isLost, cX2_isLost, 2, (some .boolean), false), (yX2_spend, cX2_spend, 2, none, false), (yX2_owners, cX2_owners, 3, (some .int), false), (yX2_lostOnes, cX2_lostOnes, 3, (some .int), false)],
  [(yX2_events, cX2_events, 3, (some .int), false), (yX2_copyFrom, cX2_copyFrom, 2, none, false), (yX3_canPart, cX3_canPart, 4, (some .boolean), false), (yX3_hasOneSide, cX3_hasOneSide, 2, (some .boolean), false), (yX3_part, cX3_part, 4, (some .int), false), (yX3_partFrom, cX3_partFrom, 7, none, false), (yX3_higher, cX3_higher, 4, (some .int), false), (yX3_higherFrom, cX3_higherFrom, 9, none, false), (yX3_after, cX3_after, 4, (some .int), false), (yX3_fillFrom, cX3_fillFrom, 7, none, false), (yX3_growFrom, cX3_growFrom, 7, none, false), (yX3_cost, cX3_cost, 6, (some .int), false), (yX4_init, cX4_init, 2, none, true), (yX4_at, cX4_at, 2, (some .int), false), (yX4_put, cX4_put, 3, none, false), (yX4_copyFrom, cX4_copyFrom, 4, none, false)],
  [(yX4_widen, cX4_widen, 3, none, false), (yX5_init, cX5_init, 1, none, true), (yX5_seen, cX5_seen, 3, (some .int), false), (yX5_missing, cX5_missing, 5, (some .int), false), (yX5_eventsIn, cX5_eventsIn, 4, (some .int), false), (yX5_trace, cX5_trace, 5, (some .boolean), false), (yX6_init, cX6_init, 2, none, true), (yX6_firstFault, cX6_firstFault, 1, (some .int), false), (yX6_scan, cX6_scan, 3, (some .int), false), (yX6_isFaulty, cX6_isFaulty, 1, (some .boolean), false), (yX6_blame, cX6_blame, 2, none, false), (yX6_oneBit, cX6_oneBit, 1, (some .int), false), (yX6_twoBits, cX6_twoBits, 3, (some .int), false), (yX6_numberHere, cX6_numberHere, 6, (some .int), false), (yX6_shareFrom, cX6_shareFrom, 8, (some .int), false), (yX6_heightFrom, cX6_heightFrom, 9, none, false)],
  [(yX6_isWellTold, cX6_isWellTold, 9, (some .boolean), false), (yX7_above, cX7_above, 3, (some .boolean), false), (yX7_aboveFrom, cX7_aboveFrom, 6, (some .boolean), false), (yX7_firstAbove, cX7_firstAbove, 3, (some .long), false), (yX7_seek, cX7_seek, 12, (some .long), false), (yX7_overlap, cX7_overlap, 3, (some .boolean), false), (yX7_overlapFrom, cX7_overlapFrom, 4, (some .boolean), false), (yX8_init, cX8_init, 1, none, true), (yX8_clear, cX8_clear, 1, none, false), (yX8_top, cX8_top, 1, (some .int), false), (yX8_cut, cX8_cut, 2, none, false), (yX8_numberOf, cX8_numberOf, 2, (some .int), false), (yX8_setNumber, cX8_setNumber, 3, none, false), (yX8_isNumber, cX8_isNumber, 2, (some .boolean), false), (yX8_isJust, cX8_isJust, 3, (some .boolean), false), (yX8_leftOf, cX8_leftOf, 2, (some .int), false)],
  [(yX8_rightOf, cX8_rightOf, 2, (some .int), false), (yX8_grow, cX8_grow, 2, (some .int), false), (yX8_turn, cX8_turn, 2, none, false), (yX8_close, cX8_close, 5, none, false), (yX8_nodesOf, cX8_nodesOf, 4, (some .int), false), (yX8_copy, cX8_copy, 5, none, false), (yX8_same, cX8_same, 6, (some .boolean), false), (yX8_numberAt, cX8_numberAt, 9, (some .int), false), (yX8_greatestOf, cX8_greatestOf, 2, (some .int), false), (yX8_greatest, cX8_greatest, 5, (some .int), false), (yX8_copyFrom, cX8_copyFrom, 2, none, false), (yX9_shareFrom, cX9_shareFrom, 6, none, false), (yX9_heightFrom, cX9_heightFrom, 7, none, false), (yX9_pushNumber, cX9_pushNumber, 4, none, false), (yX10_init, cX10_init, 1, none, true), (yX10_seed, cX10_seed, 1, none, false)],
  [(yX10_fork, cX10_fork, 6, (some .int), false), (yX10_event, cX10_event, 4, (some .int), false), (yX10_join, cX10_join, 5, (some .int), false), (yX10_peek, cX10_peek, 4, (some .int), false), (yX10_send, cX10_send, 4, (some .int), false), (yX10_take, cX10_take, 6, (some .int), false), (yX10_lose, cX10_lose, 2, (some .boolean), false), (yX10_home, cX10_home, 5, (some .int), false), (yX10_undo, cX10_undo, 1, (some .boolean), false), (yX10_relation, cX10_relation, 5, (some .int), false), (yX10_unseen, cX10_unseen, 3, (some .int), false), (yX10_meets, cX10_meets, 3, (some .boolean), false), (yX10_height, cX10_height, 5, (some .int), false), (yX10_owns, cX10_owns, 5, (some .boolean), false), (yX10_stamp, cX10_stamp, 3, (some .int), false), (yX10_witness, cX10_witness, 8, (some .boolean), false)],
  [(yX10_place, cX10_place, 1, (some .long), false), (yX10_digits, cX10_digits, 1, (some .int), false), (yX10_check, cX10_check, 9, (some .int), false), (yX10_pack, cX10_pack, 2, (some .int), false), (yX10_bit, cX10_bit, 2, (some .int), false), (yX10_add, cX10_add, 4, (some .int), false), (yX10_end, cX10_end, 2, (some .boolean), false), (yX10_read, cX10_read, 3, (some .int), false), (yX10_fault, cX10_fault, 1, (some .int), false), (yX10_image, cX10_image, 1, (some .boolean), false), (yX10_back, cX10_back, 1, (some .boolean), false), (yX10_count, cX10_count, 2, (some .int), false), (yX10_plant, cX10_plant, 1, none, false), (yX10_settle, cX10_settle, 5, (some .boolean), false), (yX10_canMelt, cX10_canMelt, 3, (some .boolean), false), (yX10_leads, cX10_leads, 3, (some .boolean), false)],
  [(yX10_makeEvent, cX10_makeEvent, 4, (some .int), false), (yX10_makeJoin, cX10_makeJoin, 6, (some .int), false), (yX10_makePeek, cX10_makePeek, 2, (some .int), false), (yX10_isAboveAt, cX10_isAboveAt, 6, (some .boolean), false), (yX10_draftOf, cX10_draftOf, 2, (some .int), false), (yX10_isPlace, cX10_isPlace, 3, (some .boolean), false), (yX11_init, cX11_init, 1, none, true), (yX11_thrown, cX11_thrown, 1, (some .int), false), (yX11_seed, cX11_seed, 1, none, false), (yX11_is, cX11_is, 2, (some .boolean), false), (yX11_isAlive, cX11_isAlive, 2, (some .boolean), false), (yX11_owns, cX11_owns, 2, (some .boolean), false), (yX11_hasRoom, cX11_hasRoom, 3, (some .boolean), false), (yX11_make, cX11_make, 6, (some .int), false), (yX11_takeKnown, cX11_takeKnown, 3, none, false), (yX11_takeOwn, cX11_takeOwn, 3, none, false)],
  [(yX11_at, cX11_at, 6, (some .int), false), (yX11_behind, cX11_behind, 2, (some .long), false), (yX11_isFlat, cX11_isFlat, 5, (some .boolean), false), (yX11_most, cX11_most, 7, (some .int), false), (yX11_least, cX11_least, 7, (some .int), false), (yX11_lay, cX11_lay, 5, (some .int), false), (yX11_become, cX11_become, 3, none, false), (yX11_set, cX11_set, 13, none, false), (yX11_heightNodes, cX11_heightNodes, 5, (some .int), false), (yX11_part, cX11_part, 8, (some .int), false), (yX11_shareNodes, cX11_shareNodes, 5, (some .int), false), (yX11_cut, cX11_cut, 11, none, false), (yX11_note, cX11_note, 3, none, false), (yX11_spend, cX11_spend, 2, none, false), (yX11_fork, cX11_fork, 11, (some .int), false), (yX11_fill, cX11_fill, 12, none, false)],
  [(yX11_grow, cX11_grow, 14, (some .int), false), (yX11_happen, cX11_happen, 4, none, false), (yX11_mark, cX11_mark, 2, none, false), (yX11_event, cX11_event, 3, (some .int), false), (yX11_together, cX11_together, 12, none, false), (yX11_share, cX11_share, 10, none, false), (yX11_joined, cX11_joined, 5, (some .int), false), (yX11_join, cX11_join, 3, (some .int), false), (yX11_peek, cX11_peek, 2, (some .int), false), (yX11_send, cX11_send, 4, (some .int), false), (yX11_take, cX11_take, 7, (some .int), false), (yX11_lose, cX11_lose, 2, (some .boolean), false), (yX11_home, cX11_home, 4, (some .int), false), (yX11_undo, cX11_undo, 1, (some .boolean), false), (yX11_leads, cX11_leads, 11, (some .boolean), false), (yX11_relation, cX11_relation, 5, (some .int), false)],
  [(yX11_unseen, cX11_unseen, 5, (some .int), false), (yX11_meets, cX11_meets, 5, (some .boolean), false), (yX11_isPlace, cX11_isPlace, 3, (some .boolean), false), (yX11_heightAt, cX11_heightAt, 5, (some .int), false), (yX11_height, cX11_height, 5, (some .int), false), (yX11_owns_, cX11_owns_, 9, (some .boolean), false), (yX11_stamp, cX11_stamp, 3, (some .int), false), (yX11_history, cX11_history, 4, (some .int), false), (yX11_turn, cX11_turn, 16, (some .long), false), (yX11_witness, cX11_witness, 11, (some .boolean), false), (yX11_place, cX11_place, 1, (some .long), false), (yX11_digits, cX11_digits, 1, (some .int), false), (yX11_check, cX11_check, 13, (some .int), false), (yX11_bit, cX11_bit, 2, none, false), (yX11_number, cX11_number, 5, none, false), (yX11_writeShare, cX11_writeShare, 10, none, false)],
  [(yX11_writeHeight, cX11_writeHeight, 11, none, false), (yX11_written, cX11_written, 2, (some .int), false), (yX11_pack, cX11_pack, 2, (some .int), false), (yX11_bit_, cX11_bit_, 2, (some .int), false), (yX11_add, cX11_add, 5, (some .int), false), (yX11_end, cX11_end, 2, (some .boolean), false), (yX11_fails, cX11_fails, 2, none, false), (yX11_next, cX11_next, 1, (some .int), false), (yX11_readNumber, cX11_readNumber, 5, (some .int), false), (yX11_readShare, cX11_readShare, 7, (some .int), false), (yX11_readHeight, cX11_readHeight, 17, (some .int), false), (yX11_step, cX11_step, 4, (some .int), false), (yX11_read, cX11_read, 1, (some .int), false), (yX11_fault, cX11_fault, 1, (some .int), false), (yX11_image, cX11_image, 2, (some .boolean), false), (yX11_back, cX11_back, 2, (some .boolean), false)],
  [(yX11_count, cX11_count, 4, (some .int), false), (yJ13_bitCount_95d88, cJ13_bitCount_95d88, 2, (some .int), false), (yJ7_copyOf_59c91, cJ7_copyOf_59c91, 3, (some (.array .int)), false)]]
def dm_m0 : dm_Me := (yX0_init, cX0_init, 0, none, false)
def dm_tb (mi : Nat) : dm_Me := match dm_tbL[mi / 16]? with
  | some r => r.getD (mi % 16) dm_m0
  | none => dm_m0
theorem dt_1 {w : Cond} (h : w ∈ tables_1_1) : w ∈ tables_1 := List.mem_append_left _ h
theorem dt_2 {w : Cond} (h : w ∈ tables_1_2) : w ∈ tables_1 := List.mem_append_right _ (List.mem_append_left _ h)
theorem dt_3 {w : Cond} (h : w ∈ tables_1_3) : w ∈ tables_1 := List.mem_append_right _ (List.mem_append_right _ (List.mem_append_left _ h))
theorem dt_4 {w : Cond} (h : w ∈ tables_1_4) : w ∈ tables_1 := List.mem_append_right _ (List.mem_append_right _ (List.mem_append_right _ (List.mem_append_left _ h)))
theorem dt_5 {w : Cond} (h : w ∈ tables_1_5) : w ∈ tables_1 := List.mem_append_right _ (List.mem_append_right _ (List.mem_append_right _ (List.mem_append_right _ (List.mem_append_left _ h))))
theorem dt_6 {w : Cond} (h : w ∈ tables_1_6) : w ∈ tables_1 := List.mem_append_right _ (List.mem_append_right _ (List.mem_append_right _ (List.mem_append_right _ (List.mem_append_right _ (h)))))
def nf_X0 : List Value := [.null, .null, .null, .null, .null, .int 0]
theorem nv_X0 : ∀ j, j < 6 → defaultValue (tyX0 j) = vp_V nf_X0 j := by decide +kernel
theorem nz_X0 : ∀ b zb, nf_X0.map (dm_v b zb) = nf_X0 := fun _ _ => rfl
theorem iw_X0 : ∀ w ∈ u_ws RX0 TX0 6, w ∈ dm_W := by decide +kernel
def nf_X1 : List Value := [.null, .int 0]
theorem nv_X1 : ∀ j, j < 2 → defaultValue (tyX1 j) = vp_V nf_X1 j := by decide +kernel
theorem nz_X1 : ∀ b zb, nf_X1.map (dm_v b zb) = nf_X1 := fun _ _ => rfl
theorem iw_X1 : ∀ w ∈ u_ws RX1 TX1 2, w ∈ dm_W := by decide +kernel
def nf_X2 : List Value := [.null, .null, .null, .null, .null, .null, .null, .null, .null, .int 0]
theorem nv_X2 : ∀ j, j < 10 → defaultValue (tyX2 j) = vp_V nf_X2 j := by decide +kernel
theorem nz_X2 : ∀ b zb, nf_X2.map (dm_v b zb) = nf_X2 := fun _ _ => rfl
theorem iw_X2 : ∀ w ∈ u_ws RX2 TX2 10, w ∈ dm_W := by decide +kernel
def nf_X4 : List Value := [.int 0, .null]
theorem nv_X4 : ∀ j, j < 2 → defaultValue (tyX4 j) = vp_V nf_X4 j := by decide +kernel
theorem nz_X4 : ∀ b zb, nf_X4.map (dm_v b zb) = nf_X4 := fun _ _ => rfl
theorem iw_X4 : ∀ w ∈ u_ws RX4 TX4 2, w ∈ dm_W := by decide +kernel
def nf_X5 : List Value := [.null, .null]
theorem nv_X5 : ∀ j, j < 2 → defaultValue (tyX5 j) = vp_V nf_X5 j := by decide +kernel
theorem nz_X5 : ∀ b zb, nf_X5.map (dm_v b zb) = nf_X5 := fun _ _ => rfl
theorem iw_X5 : ∀ w ∈ u_ws RX5 TX5 2, w ∈ dm_W := by decide +kernel
def nf_X6 : List Value := [.null, .int 0, .int 0]
theorem nv_X6 : ∀ j, j < 3 → defaultValue (tyX6 j) = vp_V nf_X6 j := by decide +kernel
theorem nz_X6 : ∀ b zb, nf_X6.map (dm_v b zb) = nf_X6 := fun _ _ => rfl
theorem iw_X6 : ∀ w ∈ u_ws RX6 TX6 3, w ∈ dm_W := by decide +kernel
def nf_X8 : List Value := [.null, .null, .int 0]
theorem nv_X8 : ∀ j, j < 3 → defaultValue (tyX8 j) = vp_V nf_X8 j := by decide +kernel
theorem nz_X8 : ∀ b zb, nf_X8.map (dm_v b zb) = nf_X8 := fun _ _ => rfl
theorem iw_X8 : ∀ w ∈ u_ws RX8 TX8 3, w ∈ dm_W := by decide +kernel
def nf_X10 : List Value := [.null, .null, .null, .null, .null, .null, .null, .int 0, .int 0, .long 0, .int 0]
theorem nv_X10 : ∀ j, j < 11 → defaultValue (tyX10 j) = vp_V nf_X10 j := by decide +kernel
theorem nz_X10 : ∀ b zb, nf_X10.map (dm_v b zb) = nf_X10 := fun _ _ => rfl
theorem iw_X10 : ∀ w ∈ u_ws RX10 TX10 11, w ∈ dm_W := by decide +kernel
def nf_X11 : List Value := [.null, .null, .null, .null, .null, .null, .null, .null, .null, .null, .null, .null, .null, .null, .null, .int 0, .int 0, .int 0, .null, .null, .null, .null, .null, .null, .null, .null, .int 0, .null, .null, .int 0, .null, .null, .null, .null, .int 0, .null, .int 0, .int 0, .long 0, .int 0, .int 0, .int 0, .null, .null, .null, .null, .null, .null, .null, .null, .null, .null, .null, .null, .null, .null, .null, .int 0, .int 0, .int 0, .long 0, .long 0, .null, .null, .int 0, .int 0, .int 0, .int 0]
theorem nv_X11 : ∀ j, j < 68 → defaultValue (tyX11 j) = vp_V nf_X11 j := by decide +kernel
theorem nz_X11 : ∀ b zb, nf_X11.map (dm_v b zb) = nf_X11 := fun _ _ => rfl
theorem iw_X11 : ∀ w ∈ u_ws RX11 TX11 68, w ∈ dm_W := by decide +kernel
theorem wd_0 : Cond.selects RX10 yX10_plant yX10_plant ∈ dm_W := dm_in (List.mem_append_left _ (List.mem_of_getElem? (i := 0) (by decide +kernel))) (by decide +kernel)
theorem wd_1 : Cond.selects RX4 yX4_widen yX4_widen ∈ dm_W := dm_in (List.mem_append_left _ (List.mem_of_getElem? (i := 1) (by decide +kernel))) (by decide +kernel)
theorem wd_2 : Cond.selects RX10 yX10_settle yX10_settle ∈ dm_W := dm_in (List.mem_append_left _ (List.mem_of_getElem? (i := 2) (by decide +kernel))) (by decide +kernel)
theorem wd_3 : Cond.selects RX10 yX10_makeEvent yX10_makeEvent ∈ dm_W := dm_in (List.mem_append_left _ (List.mem_of_getElem? (i := 3) (by decide +kernel))) (by decide +kernel)
theorem wd_4 : Cond.selects RX10 yX10_canMelt yX10_canMelt ∈ dm_W := dm_in (List.mem_append_left _ (List.mem_of_getElem? (i := 4) (by decide +kernel))) (by decide +kernel)
theorem wd_5 : Cond.selects RX10 yX10_makeJoin yX10_makeJoin ∈ dm_W := dm_in (List.mem_append_left _ (List.mem_of_getElem? (i := 5) (by decide +kernel))) (by decide +kernel)
theorem wd_6 : Cond.selects RX10 yX10_makePeek yX10_makePeek ∈ dm_W := dm_in (List.mem_append_left _ (List.mem_of_getElem? (i := 6) (by decide +kernel))) (by decide +kernel)
theorem wd_7 : Cond.selects RX10 yX10_leads yX10_leads ∈ dm_W := dm_in (List.mem_append_left _ (List.mem_of_getElem? (i := 7) (by decide +kernel))) (by decide +kernel)
theorem wd_8 : Cond.selects RX10 yX10_draftOf yX10_draftOf ∈ dm_W := dm_in (List.mem_append_left _ (List.mem_of_getElem? (i := 8) (by decide +kernel))) (by decide +kernel)
theorem wd_9 : Cond.selects RX10 yX10_isAboveAt yX10_isAboveAt ∈ dm_W := dm_in (List.mem_append_left _ (List.mem_of_getElem? (i := 9) (by decide +kernel))) (by decide +kernel)
theorem wd_10 : Cond.selects RX6 yX6_blame yX6_blame ∈ dm_W := dm_in (List.mem_append_left _ (List.mem_of_getElem? (i := 10) (by decide +kernel))) (by decide +kernel)
theorem wd_11 : Cond.selects RX6 yX6_isFaulty yX6_isFaulty ∈ dm_W := dm_in (List.mem_append_left _ (List.mem_of_getElem? (i := 11) (by decide +kernel))) (by decide +kernel)
theorem wd_12 : Cond.selects RX6 yX6_twoBits yX6_twoBits ∈ dm_W := dm_in (List.mem_append_left _ (List.mem_of_getElem? (i := 12) (by decide +kernel))) (by decide +kernel)
theorem wd_13 : Cond.selects RX6 yX6_oneBit yX6_oneBit ∈ dm_W := dm_in (List.mem_append_left _ (List.mem_of_getElem? (i := 13) (by decide +kernel))) (by decide +kernel)
theorem wd_14 : Cond.selects RX6 yX6_numberHere yX6_numberHere ∈ dm_W := dm_in (List.mem_append_left _ (List.mem_of_getElem? (i := 14) (by decide +kernel))) (by decide +kernel)
theorem wd_16 : Cond.selects RX11 yX11_make yX11_make ∈ dm_W := dm_in (List.mem_append_left _ (List.mem_of_getElem? (i := 16) (by decide +kernel))) (by decide +kernel)
theorem wd_17 : Cond.selects RX11 yX11_shareNodes yX11_shareNodes ∈ dm_W := dm_in (List.mem_append_left _ (List.mem_of_getElem? (i := 17) (by decide +kernel))) (by decide +kernel)
theorem wd_18 : Cond.selects RX11 yX11_part yX11_part ∈ dm_W := dm_in (List.mem_append_left _ (List.mem_of_getElem? (i := 18) (by decide +kernel))) (by decide +kernel)
theorem wd_19 : Cond.selects RX11 yX11_heightNodes yX11_heightNodes ∈ dm_W := dm_in (List.mem_append_left _ (List.mem_of_getElem? (i := 19) (by decide +kernel))) (by decide +kernel)
theorem wd_20 : Cond.selects RX11 yX11_isFlat yX11_isFlat ∈ dm_W := dm_in (List.mem_append_left _ (List.mem_of_getElem? (i := 20) (by decide +kernel))) (by decide +kernel)
theorem wd_21 : Cond.selects RX11 yX11_at yX11_at ∈ dm_W := dm_in (List.mem_append_left _ (List.mem_of_getElem? (i := 21) (by decide +kernel))) (by decide +kernel)
theorem wd_22 : Cond.selects RX11 yX11_behind yX11_behind ∈ dm_W := dm_in (List.mem_append_left _ (List.mem_of_getElem? (i := 22) (by decide +kernel))) (by decide +kernel)
theorem wd_23 : Cond.selects RX11 yX11_isAlive yX11_isAlive ∈ dm_W := dm_in (List.mem_append_left _ (List.mem_of_getElem? (i := 23) (by decide +kernel))) (by decide +kernel)
theorem wd_24 : Cond.selects RX11 yX11_is yX11_is ∈ dm_W := dm_in (List.mem_append_left _ (List.mem_of_getElem? (i := 24) (by decide +kernel))) (by decide +kernel)
theorem wd_25 : Cond.selects RX11 yX11_owns yX11_owns ∈ dm_W := dm_in (List.mem_append_left _ (List.mem_of_getElem? (i := 25) (by decide +kernel))) (by decide +kernel)
theorem wd_26 : Cond.selects RX11 yX11_takeOwn yX11_takeOwn ∈ dm_W := dm_in (List.mem_append_left _ (List.mem_of_getElem? (i := 26) (by decide +kernel))) (by decide +kernel)
theorem wd_27 : Cond.selects RX11 yX11_cut yX11_cut ∈ dm_W := dm_in (List.mem_append_left _ (List.mem_of_getElem? (i := 27) (by decide +kernel))) (by decide +kernel)
theorem wd_28 : Cond.selects RX11 yX11_hasRoom yX11_hasRoom ∈ dm_W := dm_in (List.mem_append_left _ (List.mem_of_getElem? (i := 28) (by decide +kernel))) (by decide +kernel)
theorem wd_29 : Cond.selects RX11 yX11_note yX11_note ∈ dm_W := dm_in (List.mem_append_left _ (List.mem_of_getElem? (i := 29) (by decide +kernel))) (by decide +kernel)
theorem wd_30 : Cond.selects RX11 yX11_takeKnown yX11_takeKnown ∈ dm_W := dm_in (List.mem_append_left _ (List.mem_of_getElem? (i := 30) (by decide +kernel))) (by decide +kernel)
theorem wd_31 : Cond.selects RX11 yX11_spend yX11_spend ∈ dm_W := dm_in (List.mem_append_left _ (List.mem_of_getElem? (i := 31) (by decide +kernel))) (by decide +kernel)
theorem wd_32 : Cond.selects RX11 yX11_happen yX11_happen ∈ dm_W := dm_in (List.mem_append_left _ (List.mem_of_getElem? (i := 32) (by decide +kernel))) (by decide +kernel)
theorem wd_33 : Cond.selects RX11 yX11_fill yX11_fill ∈ dm_W := dm_in (List.mem_append_left _ (List.mem_of_getElem? (i := 33) (by decide +kernel))) (by decide +kernel)
theorem wd_34 : Cond.selects RX11 yX11_most yX11_most ∈ dm_W := dm_in (List.mem_append_left _ (List.mem_of_getElem? (i := 34) (by decide +kernel))) (by decide +kernel)
theorem wd_35 : Cond.selects RX11 yX11_set yX11_set ∈ dm_W := dm_in (List.mem_append_left _ (List.mem_of_getElem? (i := 35) (by decide +kernel))) (by decide +kernel)
theorem wd_36 : Cond.selects RX11 yX11_lay yX11_lay ∈ dm_W := dm_in (List.mem_append_left _ (List.mem_of_getElem? (i := 36) (by decide +kernel))) (by decide +kernel)
theorem wd_37 : Cond.selects RX11 yX11_become yX11_become ∈ dm_W := dm_in (List.mem_append_left _ (List.mem_of_getElem? (i := 37) (by decide +kernel))) (by decide +kernel)
theorem wd_38 : Cond.selects RX11 yX11_least yX11_least ∈ dm_W := dm_in (List.mem_append_left _ (List.mem_of_getElem? (i := 38) (by decide +kernel))) (by decide +kernel)
theorem wd_39 : Cond.selects RX11 yX11_grow yX11_grow ∈ dm_W := dm_in (List.mem_append_left _ (List.mem_of_getElem? (i := 39) (by decide +kernel))) (by decide +kernel)
theorem wd_40 : Cond.selects RX11 yX11_mark yX11_mark ∈ dm_W := dm_in (List.mem_append_left _ (List.mem_of_getElem? (i := 40) (by decide +kernel))) (by decide +kernel)
theorem wd_41 : Cond.selects RX11 yX11_joined yX11_joined ∈ dm_W := dm_in (List.mem_append_left _ (List.mem_of_getElem? (i := 41) (by decide +kernel))) (by decide +kernel)
theorem wd_42 : Cond.selects RX11 yX11_together yX11_together ∈ dm_W := dm_in (List.mem_append_left _ (List.mem_of_getElem? (i := 42) (by decide +kernel))) (by decide +kernel)
theorem wd_43 : Cond.selects RX11 yX11_share yX11_share ∈ dm_W := dm_in (List.mem_append_left _ (List.mem_of_getElem? (i := 43) (by decide +kernel))) (by decide +kernel)
theorem wd_44 : Cond.selects RX11 yX11_leads yX11_leads ∈ dm_W := dm_in (List.mem_append_left _ (List.mem_of_getElem? (i := 44) (by decide +kernel))) (by decide +kernel)
theorem wd_45 : Cond.selects RX11 yX11_heightAt yX11_heightAt ∈ dm_W := dm_in (List.mem_append_left _ (List.mem_of_getElem? (i := 45) (by decide +kernel))) (by decide +kernel)
theorem wd_46 : Cond.selects RX11 yX11_written yX11_written ∈ dm_W := dm_in (List.mem_append_left _ (List.mem_of_getElem? (i := 46) (by decide +kernel))) (by decide +kernel)
theorem wd_47 : Cond.selects RX11 yX11_writeShare yX11_writeShare ∈ dm_W := dm_in (List.mem_append_left _ (List.mem_of_getElem? (i := 47) (by decide +kernel))) (by decide +kernel)
theorem wd_48 : Cond.selects RX11 yX11_bit yX11_bit ∈ dm_W := dm_in (List.mem_append_left _ (List.mem_of_getElem? (i := 48) (by decide +kernel))) (by decide +kernel)
theorem wd_49 : Cond.selects RX11 yX11_writeHeight yX11_writeHeight ∈ dm_W := dm_in (List.mem_append_left _ (List.mem_of_getElem? (i := 49) (by decide +kernel))) (by decide +kernel)
theorem wd_50 : Cond.selects RX11 yX11_number yX11_number ∈ dm_W := dm_in (List.mem_append_left _ (List.mem_of_getElem? (i := 50) (by decide +kernel))) (by decide +kernel)
theorem wd_51 : Cond.selects RX11 yX11_history yX11_history ∈ dm_W := dm_in (List.mem_append_left _ (List.mem_of_getElem? (i := 51) (by decide +kernel))) (by decide +kernel)
theorem wd_52 : Cond.selects RX11 yX11_turn yX11_turn ∈ dm_W := dm_in (List.mem_append_left _ (List.mem_of_getElem? (i := 52) (by decide +kernel))) (by decide +kernel)
theorem wd_53 : Cond.selects RX11 yX11_readShare yX11_readShare ∈ dm_W := dm_in (List.mem_append_left _ (List.mem_of_getElem? (i := 53) (by decide +kernel))) (by decide +kernel)
theorem wd_54 : Cond.selects RX11 yX11_fails yX11_fails ∈ dm_W := dm_in (List.mem_append_left _ (List.mem_of_getElem? (i := 54) (by decide +kernel))) (by decide +kernel)
theorem wd_55 : Cond.selects RX11 yX11_next yX11_next ∈ dm_W := dm_in (List.mem_append_left _ (List.mem_of_getElem? (i := 55) (by decide +kernel))) (by decide +kernel)
theorem wd_56 : Cond.selects RX11 yX11_readHeight yX11_readHeight ∈ dm_W := dm_in (List.mem_append_left _ (List.mem_of_getElem? (i := 56) (by decide +kernel))) (by decide +kernel)
theorem wd_57 : Cond.selects RX11 yX11_readNumber yX11_readNumber ∈ dm_W := dm_in (List.mem_append_left _ (List.mem_of_getElem? (i := 57) (by decide +kernel))) (by decide +kernel)
theorem wd_58 : Cond.selects RX11 yX11_step yX11_step ∈ dm_W := dm_in (List.mem_append_left _ (List.mem_of_getElem? (i := 58) (by decide +kernel))) (by decide +kernel)
theorem wd_60 : Cond.initialized RX10 ∈ dm_W := dm_in (List.mem_append_right _ (dt_1 (List.mem_of_getElem? (i := 1) (by decide +kernel)))) (by decide +kernel)
theorem wd_61 : Cond.initialized RX2 ∈ dm_W := dm_in (List.mem_append_right _ (dt_1 (List.mem_of_getElem? (i := 2) (by decide +kernel)))) (by decide +kernel)
theorem wd_62 : Cond.initialized RX8 ∈ dm_W := dm_in (List.mem_append_right _ (dt_1 (List.mem_of_getElem? (i := 3) (by decide +kernel)))) (by decide +kernel)
theorem wd_63 : Cond.initialized RX4 ∈ dm_W := dm_in (List.mem_append_right _ (dt_1 (List.mem_of_getElem? (i := 4) (by decide +kernel)))) (by decide +kernel)
theorem wd_64 : Cond.initialized RJ9 ∈ dm_W := dm_in (List.mem_append_right _ (dt_1 (List.mem_of_getElem? (i := 5) (by decide +kernel)))) (by decide +kernel)
theorem wd_65 : Cond.initialized RX0 ∈ dm_W := dm_in (List.mem_append_right _ (dt_1 (List.mem_of_getElem? (i := 6) (by decide +kernel)))) (by decide +kernel)
theorem wd_66 : Cond.initialized RX5 ∈ dm_W := dm_in (List.mem_append_right _ (dt_1 (List.mem_of_getElem? (i := 7) (by decide +kernel)))) (by decide +kernel)
theorem wd_67 : Cond.initialized RX1 ∈ dm_W := dm_in (List.mem_append_right _ (dt_1 (List.mem_of_getElem? (i := 8) (by decide +kernel)))) (by decide +kernel)
theorem wd_68 : Cond.initialized RX6 ∈ dm_W := dm_in (List.mem_append_right _ (dt_1 (List.mem_of_getElem? (i := 9) (by decide +kernel)))) (by decide +kernel)
theorem wd_69 : Cond.initialized RJ7 ∈ dm_W := dm_in (List.mem_append_right _ (dt_1 (List.mem_of_getElem? (i := 10) (by decide +kernel)))) (by decide +kernel)
theorem wd_70 : Cond.initialized RJ10 ∈ dm_W := dm_in (List.mem_append_right _ (dt_1 (List.mem_of_getElem? (i := 11) (by decide +kernel)))) (by decide +kernel)
theorem wd_71 : Cond.initialized RX11 ∈ dm_W := dm_in (List.mem_append_right _ (dt_1 (List.mem_of_getElem? (i := 12) (by decide +kernel)))) (by decide +kernel)
theorem wd_72 : Cond.initialized RX3 ∈ dm_W := dm_in (List.mem_append_right _ (dt_1 (List.mem_of_getElem? (i := 13) (by decide +kernel)))) (by decide +kernel)
theorem wd_73 : Cond.initialized RX7 ∈ dm_W := dm_in (List.mem_append_right _ (dt_1 (List.mem_of_getElem? (i := 14) (by decide +kernel)))) (by decide +kernel)
theorem wd_74 : Cond.initialized RJ13 ∈ dm_W := dm_in (List.mem_append_right _ (dt_1 (List.mem_of_getElem? (i := 15) (by decide +kernel)))) (by decide +kernel)
theorem wd_79 : Cond.initialized RX9 ∈ dm_W := dm_in (List.mem_append_right _ (dt_1 (List.mem_of_getElem? (i := 20) (by decide +kernel)))) (by decide +kernel)
theorem wd_84 : Cond.code yX10_init cX10_init 1 none ∈ dm_W := dm_in (List.mem_append_right _ (dt_1 (List.mem_of_getElem? (i := 25) (by decide +kernel)))) (by decide +kernel)
theorem wd_85 : Cond.methodLink RX10 1 Lib.objectInit ∈ dm_W := dm_in (List.mem_append_right _ (dt_1 (List.mem_of_getElem? (i := 26) (by decide +kernel)))) (by decide +kernel)
theorem wd_86 : Cond.instanceMethod Lib.objectInit ∈ dm_W := dm_in (List.mem_append_right _ (dt_1 (List.mem_of_getElem? (i := 27) (by decide +kernel)))) (by decide +kernel)
theorem wd_87 : Cond.code Lib.objectInit ⟨#[0xb1]⟩ 1 none ∈ dm_W := dm_in (List.mem_append_right _ (dt_1 (List.mem_of_getElem? (i := 28) (by decide +kernel)))) (by decide +kernel)
theorem wd_88 : Cond.classLink RX10 7 RX2 ∈ dm_W := dm_in (List.mem_append_right _ (dt_1 (List.mem_of_getElem? (i := 29) (by decide +kernel)))) (by decide +kernel)
theorem wd_89 : Cond.instantiable RX2 10 ∈ dm_W := dm_in (List.mem_append_right _ (dt_1 (List.mem_of_getElem? (i := 30) (by decide +kernel)))) (by decide +kernel)
theorem wd_91 : Cond.instanceMethod yX2_init ∈ dm_W := dm_in (List.mem_append_right _ (dt_1 (List.mem_of_getElem? (i := 32) (by decide +kernel)))) (by decide +kernel)
theorem wd_92 : Cond.code yX2_init cX2_init 1 none ∈ dm_W := dm_in (List.mem_append_right _ (dt_1 (List.mem_of_getElem? (i := 33) (by decide +kernel)))) (by decide +kernel)
theorem wd_93 : Cond.methodLink RX2 3 Lib.objectInit ∈ dm_W := dm_in (List.mem_append_right _ (dt_1 (List.mem_of_getElem? (i := 34) (by decide +kernel)))) (by decide +kernel)
theorem wd_94 : Cond.classLink RX2 9 RX8 ∈ dm_W := dm_in (List.mem_append_right _ (dt_1 (List.mem_of_getElem? (i := 35) (by decide +kernel)))) (by decide +kernel)
theorem wd_95 : Cond.instantiable RX8 3 ∈ dm_W := dm_in (List.mem_append_right _ (dt_1 (List.mem_of_getElem? (i := 36) (by decide +kernel)))) (by decide +kernel)
theorem wd_97 : Cond.instanceMethod yX8_init ∈ dm_W := dm_in (List.mem_append_right _ (dt_1 (List.mem_of_getElem? (i := 38) (by decide +kernel)))) (by decide +kernel)
theorem wd_98 : Cond.code yX8_init cX8_init 1 none ∈ dm_W := dm_in (List.mem_append_right _ (dt_1 (List.mem_of_getElem? (i := 39) (by decide +kernel)))) (by decide +kernel)
theorem wd_99 : Cond.methodLink RX8 3 Lib.objectInit ∈ dm_W := dm_in (List.mem_append_right _ (dt_1 (List.mem_of_getElem? (i := 40) (by decide +kernel)))) (by decide +kernel)
theorem wd_100 : Cond.classLink RX8 9 RX4 ∈ dm_W := dm_in (List.mem_append_right _ (dt_1 (List.mem_of_getElem? (i := 41) (by decide +kernel)))) (by decide +kernel)
theorem wd_101 : Cond.instantiable RX4 2 ∈ dm_W := dm_in (List.mem_append_right _ (dt_1 (List.mem_of_getElem? (i := 42) (by decide +kernel)))) (by decide +kernel)
theorem wd_102 : Cond.constant RX8 13 (41000) ∈ dm_W := dm_in (List.mem_append_right _ (dt_1 (List.mem_of_getElem? (i := 43) (by decide +kernel)))) (by decide +kernel)
theorem wd_103 : Cond.methodLink RX8 14 yX4_init ∈ dm_W := dm_in (List.mem_append_right _ (dt_1 (List.mem_of_getElem? (i := 44) (by decide +kernel)))) (by decide +kernel)
theorem wd_104 : Cond.instanceMethod yX4_init ∈ dm_W := dm_in (List.mem_append_right _ (dt_1 (List.mem_of_getElem? (i := 45) (by decide +kernel)))) (by decide +kernel)
theorem wd_105 : Cond.code yX4_init cX4_init 2 none ∈ dm_W := dm_in (List.mem_append_right _ (dt_1 (List.mem_of_getElem? (i := 46) (by decide +kernel)))) (by decide +kernel)
theorem wd_106 : Cond.methodLink RX4 1 Lib.objectInit ∈ dm_W := dm_in (List.mem_append_right _ (dt_1 (List.mem_of_getElem? (i := 47) (by decide +kernel)))) (by decide +kernel)
theorem wd_107 : Cond.methodLink RX4 9 Lib.Math.max.name ∈ dm_W := dm_in (List.mem_append_right _ (dt_1 (List.mem_of_getElem? (i := 48) (by decide +kernel)))) (by decide +kernel)
theorem wd_108 : Cond.static Lib.Math.max.name ∈ dm_W := dm_in (List.mem_append_right _ (dt_1 (List.mem_of_getElem? (i := 49) (by decide +kernel)))) (by decide +kernel)
theorem wd_109 : Cond.code Lib.Math.max.name Lib.Math.max.code 2 (some .int) ∈ dm_W := dm_in (List.mem_append_right _ (dt_1 (List.mem_of_getElem? (i := 50) (by decide +kernel)))) (by decide +kernel)
theorem wd_110 : Cond.fieldLink RX4 15 "SplitClocks$Numbers" "most" "I" ∈ dm_W := dm_in (List.mem_append_right _ (dt_1 (List.mem_of_getElem? (i := 51) (by decide +kernel)))) (by decide +kernel)
theorem wd_111 : Cond.fieldLink RX4 19 "SplitClocks$Numbers" "cells" "[I" ∈ dm_W := dm_in (List.mem_append_right _ (dt_1 (List.mem_of_getElem? (i := 52) (by decide +kernel)))) (by decide +kernel)
theorem wd_117 : Cond.arrayClass .int ∈ dm_W := dm_in (List.mem_append_right _ (dt_1 (List.mem_of_getElem? (i := 58) (by decide +kernel)))) (by decide +kernel)
theorem wd_118 : Cond.fieldLink RX8 17 "SplitClocks$Trees" "number" "LSplitClocks$Numbers;" ∈ dm_W := dm_in (List.mem_append_right _ (dt_1 (List.mem_of_getElem? (i := 59) (by decide +kernel)))) (by decide +kernel)
theorem wd_119 : Cond.fieldLink RX8 21 "SplitClocks$Trees" "far" "LSplitClocks$Numbers;" ∈ dm_W := dm_in (List.mem_append_right _ (dt_1 (List.mem_of_getElem? (i := 60) (by decide +kernel)))) (by decide +kernel)
theorem wd_120 : Cond.fieldLink RX8 24 "SplitClocks$Trees" "top" "I" ∈ dm_W := dm_in (List.mem_append_right _ (dt_1 (List.mem_of_getElem? (i := 61) (by decide +kernel)))) (by decide +kernel)
theorem wd_128 : Cond.classLink RX2 18 RX4 ∈ dm_W := dm_in (List.mem_append_right _ (dt_1 (List.mem_of_getElem? (i := 69) (by decide +kernel)))) (by decide +kernel)
theorem wd_129 : Cond.methodLink RX2 20 yX4_init ∈ dm_W := dm_in (List.mem_append_right _ (dt_1 (List.mem_of_getElem? (i := 70) (by decide +kernel)))) (by decide +kernel)
theorem wd_130 : Cond.fieldLink RX2 12 "SplitClocks$Book" "trees" "LSplitClocks$Trees;" ∈ dm_W := dm_in (List.mem_append_right _ (dt_1 (List.mem_of_getElem? (i := 71) (by decide +kernel)))) (by decide +kernel)
theorem wd_131 : Cond.fieldLink RX10 63 "SplitClocks$Book" "trees" "LSplitClocks$Trees;" ∈ dm_W := dm_in (List.mem_append_right _ (dt_1 (List.mem_of_getElem? (i := 72) (by decide +kernel)))) (by decide +kernel)
theorem wd_132 : Cond.fieldLink RX2 23 "SplitClocks$Book" "own" "LSplitClocks$Numbers;" ∈ dm_W := dm_in (List.mem_append_right _ (dt_1 (List.mem_of_getElem? (i := 73) (by decide +kernel)))) (by decide +kernel)
theorem wd_133 : Cond.fieldLink RX2 27 "SplitClocks$Book" "known" "LSplitClocks$Numbers;" ∈ dm_W := dm_in (List.mem_append_right _ (dt_1 (List.mem_of_getElem? (i := 74) (by decide +kernel)))) (by decide +kernel)
theorem wd_134 : Cond.fieldLink RX2 30 "SplitClocks$Book" "how" "LSplitClocks$Numbers;" ∈ dm_W := dm_in (List.mem_append_right _ (dt_1 (List.mem_of_getElem? (i := 75) (by decide +kernel)))) (by decide +kernel)
theorem wd_135 : Cond.fieldLink RX2 33 "SplitClocks$Book" "first" "LSplitClocks$Numbers;" ∈ dm_W := dm_in (List.mem_append_right _ (dt_1 (List.mem_of_getElem? (i := 76) (by decide +kernel)))) (by decide +kernel)
theorem wd_136 : Cond.fieldLink RX2 36 "SplitClocks$Book" "second" "LSplitClocks$Numbers;" ∈ dm_W := dm_in (List.mem_append_right _ (dt_1 (List.mem_of_getElem? (i := 77) (by decide +kernel)))) (by decide +kernel)
theorem wd_137 : Cond.fieldLink RX2 39 "SplitClocks$Book" "state" "LSplitClocks$Numbers;" ∈ dm_W := dm_in (List.mem_append_right _ (dt_1 (List.mem_of_getElem? (i := 78) (by decide +kernel)))) (by decide +kernel)
theorem wd_138 : Cond.fieldLink RX2 42 "SplitClocks$Book" "nodesTill" "LSplitClocks$Numbers;" ∈ dm_W := dm_in (List.mem_append_right _ (dt_1 (List.mem_of_getElem? (i := 79) (by decide +kernel)))) (by decide +kernel)
theorem wd_139 : Cond.fieldLink RX2 45 "SplitClocks$Book" "topTill" "LSplitClocks$Numbers;" ∈ dm_W := dm_in (List.mem_append_right _ (dt_1 (List.mem_of_getElem? (i := 80) (by decide +kernel)))) (by decide +kernel)
theorem wd_140 : Cond.fieldLink RX2 48 "SplitClocks$Book" "size" "I" ∈ dm_W := dm_in (List.mem_append_right _ (dt_1 (List.mem_of_getElem? (i := 81) (by decide +kernel)))) (by decide +kernel)
theorem wd_162 : Cond.classLink RX10 19 RX0 ∈ dm_W := dm_in (List.mem_append_right _ (dt_1 (List.mem_of_getElem? (i := 103) (by decide +kernel)))) (by decide +kernel)
theorem wd_163 : Cond.instantiable RX0 6 ∈ dm_W := dm_in (List.mem_append_right _ (dt_1 (List.mem_of_getElem? (i := 104) (by decide +kernel)))) (by decide +kernel)
theorem wd_165 : Cond.instanceMethod yX0_init ∈ dm_W := dm_in (List.mem_append_right _ (dt_1 (List.mem_of_getElem? (i := 106) (by decide +kernel)))) (by decide +kernel)
theorem wd_166 : Cond.code yX0_init cX0_init 1 none ∈ dm_W := dm_in (List.mem_append_right _ (dt_1 (List.mem_of_getElem? (i := 107) (by decide +kernel)))) (by decide +kernel)
theorem wd_167 : Cond.methodLink RX0 3 Lib.objectInit ∈ dm_W := dm_in (List.mem_append_right _ (dt_1 (List.mem_of_getElem? (i := 108) (by decide +kernel)))) (by decide +kernel)
theorem wd_168 : Cond.classLink RX0 9 RX4 ∈ dm_W := dm_in (List.mem_append_right _ (dt_1 (List.mem_of_getElem? (i := 109) (by decide +kernel)))) (by decide +kernel)
theorem wd_169 : Cond.methodLink RX0 13 yX4_init ∈ dm_W := dm_in (List.mem_append_right _ (dt_1 (List.mem_of_getElem? (i := 110) (by decide +kernel)))) (by decide +kernel)
theorem wd_170 : Cond.fieldLink RX0 16 "SplitClocks$Acts" "stamps" "LSplitClocks$Numbers;" ∈ dm_W := dm_in (List.mem_append_right _ (dt_1 (List.mem_of_getElem? (i := 111) (by decide +kernel)))) (by decide +kernel)
theorem wd_171 : Cond.fieldLink RX0 20 "SplitClocks$Acts" "one" "LSplitClocks$Numbers;" ∈ dm_W := dm_in (List.mem_append_right _ (dt_1 (List.mem_of_getElem? (i := 112) (by decide +kernel)))) (by decide +kernel)
theorem wd_172 : Cond.fieldLink RX0 23 "SplitClocks$Acts" "stateOfOne" "LSplitClocks$Numbers;" ∈ dm_W := dm_in (List.mem_append_right _ (dt_1 (List.mem_of_getElem? (i := 113) (by decide +kernel)))) (by decide +kernel)
theorem wd_173 : Cond.fieldLink RX0 26 "SplitClocks$Acts" "other" "LSplitClocks$Numbers;" ∈ dm_W := dm_in (List.mem_append_right _ (dt_1 (List.mem_of_getElem? (i := 114) (by decide +kernel)))) (by decide +kernel)
theorem wd_174 : Cond.fieldLink RX0 29 "SplitClocks$Acts" "stateOfOther" "LSplitClocks$Numbers;" ∈ dm_W := dm_in (List.mem_append_right _ (dt_1 (List.mem_of_getElem? (i := 115) (by decide +kernel)))) (by decide +kernel)
theorem wd_175 : Cond.fieldLink RX0 32 "SplitClocks$Acts" "size" "I" ∈ dm_W := dm_in (List.mem_append_right _ (dt_1 (List.mem_of_getElem? (i := 116) (by decide +kernel)))) (by decide +kernel)
theorem wd_189 : Cond.classLink RX10 26 RX5 ∈ dm_W := dm_in (List.mem_append_right _ (dt_1 (List.mem_of_getElem? (i := 130) (by decide +kernel)))) (by decide +kernel)
theorem wd_190 : Cond.instantiable RX5 2 ∈ dm_W := dm_in (List.mem_append_right _ (dt_1 (List.mem_of_getElem? (i := 131) (by decide +kernel)))) (by decide +kernel)
theorem wd_192 : Cond.instanceMethod yX5_init ∈ dm_W := dm_in (List.mem_append_right _ (dt_1 (List.mem_of_getElem? (i := 133) (by decide +kernel)))) (by decide +kernel)
theorem wd_193 : Cond.code yX5_init cX5_init 1 none ∈ dm_W := dm_in (List.mem_append_right _ (dt_1 (List.mem_of_getElem? (i := 134) (by decide +kernel)))) (by decide +kernel)
theorem wd_194 : Cond.methodLink RX5 3 Lib.objectInit ∈ dm_W := dm_in (List.mem_append_right _ (dt_1 (List.mem_of_getElem? (i := 135) (by decide +kernel)))) (by decide +kernel)
theorem wd_195 : Cond.classLink RX5 9 RX4 ∈ dm_W := dm_in (List.mem_append_right _ (dt_1 (List.mem_of_getElem? (i := 136) (by decide +kernel)))) (by decide +kernel)
theorem wd_196 : Cond.methodLink RX5 11 yX4_init ∈ dm_W := dm_in (List.mem_append_right _ (dt_1 (List.mem_of_getElem? (i := 137) (by decide +kernel)))) (by decide +kernel)
theorem wd_197 : Cond.fieldLink RX5 14 "SplitClocks$Past" "mine" "LSplitClocks$Numbers;" ∈ dm_W := dm_in (List.mem_append_right _ (dt_1 (List.mem_of_getElem? (i := 138) (by decide +kernel)))) (by decide +kernel)
theorem wd_198 : Cond.fieldLink RX5 20 "SplitClocks$Past" "others" "LSplitClocks$Numbers;" ∈ dm_W := dm_in (List.mem_append_right _ (dt_1 (List.mem_of_getElem? (i := 139) (by decide +kernel)))) (by decide +kernel)
theorem wd_204 : Cond.classLink RX10 33 RX1 ∈ dm_W := dm_in (List.mem_append_right _ (dt_1 (List.mem_of_getElem? (i := 145) (by decide +kernel)))) (by decide +kernel)
theorem wd_205 : Cond.instantiable RX1 2 ∈ dm_W := dm_in (List.mem_append_right _ (dt_1 (List.mem_of_getElem? (i := 146) (by decide +kernel)))) (by decide +kernel)
theorem wd_207 : Cond.instanceMethod yX1_init ∈ dm_W := dm_in (List.mem_append_right _ (dt_1 (List.mem_of_getElem? (i := 148) (by decide +kernel)))) (by decide +kernel)
theorem wd_208 : Cond.code yX1_init cX1_init 1 none ∈ dm_W := dm_in (List.mem_append_right _ (dt_1 (List.mem_of_getElem? (i := 149) (by decide +kernel)))) (by decide +kernel)
theorem wd_209 : Cond.methodLink RX1 3 Lib.objectInit ∈ dm_W := dm_in (List.mem_append_right _ (dt_1 (List.mem_of_getElem? (i := 150) (by decide +kernel)))) (by decide +kernel)
theorem wd_210 : Cond.classLink RX1 9 RX4 ∈ dm_W := dm_in (List.mem_append_right _ (dt_1 (List.mem_of_getElem? (i := 151) (by decide +kernel)))) (by decide +kernel)
theorem wd_211 : Cond.methodLink RX1 11 yX4_init ∈ dm_W := dm_in (List.mem_append_right _ (dt_1 (List.mem_of_getElem? (i := 152) (by decide +kernel)))) (by decide +kernel)
theorem wd_212 : Cond.fieldLink RX1 14 "SplitClocks$Bits" "cells" "LSplitClocks$Numbers;" ∈ dm_W := dm_in (List.mem_append_right _ (dt_1 (List.mem_of_getElem? (i := 153) (by decide +kernel)))) (by decide +kernel)
theorem wd_213 : Cond.fieldLink RX1 20 "SplitClocks$Bits" "size" "I" ∈ dm_W := dm_in (List.mem_append_right _ (dt_1 (List.mem_of_getElem? (i := 154) (by decide +kernel)))) (by decide +kernel)
theorem wd_219 : Cond.classLink RX10 43 RX6 ∈ dm_W := dm_in (List.mem_append_right _ (dt_1 (List.mem_of_getElem? (i := 160) (by decide +kernel)))) (by decide +kernel)
theorem wd_220 : Cond.instantiable RX6 3 ∈ dm_W := dm_in (List.mem_append_right _ (dt_1 (List.mem_of_getElem? (i := 161) (by decide +kernel)))) (by decide +kernel)
theorem wd_221 : Cond.methodLink RX10 45 yX6_init ∈ dm_W := dm_in (List.mem_append_right _ (dt_1 (List.mem_of_getElem? (i := 162) (by decide +kernel)))) (by decide +kernel)
theorem wd_222 : Cond.instanceMethod yX6_init ∈ dm_W := dm_in (List.mem_append_right _ (dt_1 (List.mem_of_getElem? (i := 163) (by decide +kernel)))) (by decide +kernel)
theorem wd_223 : Cond.code yX6_init cX6_init 2 none ∈ dm_W := dm_in (List.mem_append_right _ (dt_1 (List.mem_of_getElem? (i := 164) (by decide +kernel)))) (by decide +kernel)
theorem wd_224 : Cond.methodLink RX6 3 Lib.objectInit ∈ dm_W := dm_in (List.mem_append_right _ (dt_1 (List.mem_of_getElem? (i := 165) (by decide +kernel)))) (by decide +kernel)
theorem wd_225 : Cond.fieldLink RX6 9 "SplitClocks$Reader" "from" "LSplitClocks$Bits;" ∈ dm_W := dm_in (List.mem_append_right _ (dt_1 (List.mem_of_getElem? (i := 166) (by decide +kernel)))) (by decide +kernel)
theorem wd_226 : Cond.fieldLink RX6 15 "SplitClocks$Reader" "next" "I" ∈ dm_W := dm_in (List.mem_append_right _ (dt_1 (List.mem_of_getElem? (i := 167) (by decide +kernel)))) (by decide +kernel)
theorem wd_227 : Cond.fieldLink RX6 19 "SplitClocks$Reader" "faultAt" "I" ∈ dm_W := dm_in (List.mem_append_right _ (dt_1 (List.mem_of_getElem? (i := 168) (by decide +kernel)))) (by decide +kernel)
theorem wd_235 : Cond.methodLink RX10 56 yX10_plant ∈ dm_W := dm_in (List.mem_append_right _ (dt_1 (List.mem_of_getElem? (i := 176) (by decide +kernel)))) (by decide +kernel)
theorem wd_237 : Cond.instanceMethod yX10_plant ∈ dm_W := dm_in (List.mem_append_right _ (dt_1 (List.mem_of_getElem? (i := 178) (by decide +kernel)))) (by decide +kernel)
theorem wd_238 : Cond.code yX10_plant cX10_plant 1 none ∈ dm_W := dm_in (List.mem_append_right _ (dt_1 (List.mem_of_getElem? (i := 179) (by decide +kernel)))) (by decide +kernel)
theorem wd_239 : Cond.methodLink RX10 253 yX2_clear ∈ dm_W := dm_in (List.mem_append_right _ (dt_1 (List.mem_of_getElem? (i := 180) (by decide +kernel)))) (by decide +kernel)
theorem wd_240 : Cond.instanceMethod yX2_clear ∈ dm_W := dm_in (List.mem_append_right _ (dt_1 (List.mem_of_getElem? (i := 181) (by decide +kernel)))) (by decide +kernel)
theorem wd_241 : Cond.selects RX2 yX2_clear yX2_clear ∈ dm_W := dm_in (List.mem_append_right _ (dt_1 (List.mem_of_getElem? (i := 182) (by decide +kernel)))) (by decide +kernel)
theorem wd_242 : Cond.code yX2_clear cX2_clear 1 none ∈ dm_W := dm_in (List.mem_append_right _ (dt_1 (List.mem_of_getElem? (i := 183) (by decide +kernel)))) (by decide +kernel)
theorem wd_243 : Cond.methodLink RX2 52 yX8_clear ∈ dm_W := dm_in (List.mem_append_right _ (dt_1 (List.mem_of_getElem? (i := 184) (by decide +kernel)))) (by decide +kernel)
theorem wd_244 : Cond.instanceMethod yX8_clear ∈ dm_W := dm_in (List.mem_append_right _ (dt_1 (List.mem_of_getElem? (i := 185) (by decide +kernel)))) (by decide +kernel)
theorem wd_245 : Cond.selects RX8 yX8_clear yX8_clear ∈ dm_W := dm_in (List.mem_append_right _ (dt_1 (List.mem_of_getElem? (i := 186) (by decide +kernel)))) (by decide +kernel)
theorem wd_246 : Cond.code yX8_clear cX8_clear 1 none ∈ dm_W := dm_in (List.mem_append_right _ (dt_1 (List.mem_of_getElem? (i := 187) (by decide +kernel)))) (by decide +kernel)
theorem wd_247 : Cond.methodLink RX8 28 yX8_grow ∈ dm_W := dm_in (List.mem_append_right _ (dt_1 (List.mem_of_getElem? (i := 188) (by decide +kernel)))) (by decide +kernel)
theorem wd_248 : Cond.instanceMethod yX8_grow ∈ dm_W := dm_in (List.mem_append_right _ (dt_1 (List.mem_of_getElem? (i := 189) (by decide +kernel)))) (by decide +kernel)
theorem wd_249 : Cond.selects RX8 yX8_grow yX8_grow ∈ dm_W := dm_in (List.mem_append_right _ (dt_1 (List.mem_of_getElem? (i := 190) (by decide +kernel)))) (by decide +kernel)
theorem wd_250 : Cond.code yX8_grow cX8_grow 2 (some .int) ∈ dm_W := dm_in (List.mem_append_right _ (dt_1 (List.mem_of_getElem? (i := 191) (by decide +kernel)))) (by decide +kernel)
theorem wd_251 : Cond.methodLink RX8 35 yX4_put ∈ dm_W := dm_in (List.mem_append_right _ (dt_1 (List.mem_of_getElem? (i := 192) (by decide +kernel)))) (by decide +kernel)
theorem wd_252 : Cond.instanceMethod yX4_put ∈ dm_W := dm_in (List.mem_append_right _ (dt_1 (List.mem_of_getElem? (i := 193) (by decide +kernel)))) (by decide +kernel)
theorem wd_253 : Cond.selects RX4 yX4_put yX4_put ∈ dm_W := dm_in (List.mem_append_right _ (dt_1 (List.mem_of_getElem? (i := 194) (by decide +kernel)))) (by decide +kernel)
theorem wd_254 : Cond.code yX4_put cX4_put 3 none ∈ dm_W := dm_in (List.mem_append_right _ (dt_1 (List.mem_of_getElem? (i := 195) (by decide +kernel)))) (by decide +kernel)
theorem wd_255 : Cond.methodLink RX4 23 yX4_widen ∈ dm_W := dm_in (List.mem_append_right _ (dt_1 (List.mem_of_getElem? (i := 196) (by decide +kernel)))) (by decide +kernel)
theorem wd_257 : Cond.instanceMethod yX4_widen ∈ dm_W := dm_in (List.mem_append_right _ (dt_1 (List.mem_of_getElem? (i := 198) (by decide +kernel)))) (by decide +kernel)
theorem wd_258 : Cond.code yX4_widen cX4_widen 3 none ∈ dm_W := dm_in (List.mem_append_right _ (dt_1 (List.mem_of_getElem? (i := 199) (by decide +kernel)))) (by decide +kernel)
theorem wd_259 : Cond.methodLink RX4 27 Lib.Math.min.name ∈ dm_W := dm_in (List.mem_append_right _ (dt_1 (List.mem_of_getElem? (i := 200) (by decide +kernel)))) (by decide +kernel)
theorem wd_260 : Cond.static Lib.Math.min.name ∈ dm_W := dm_in (List.mem_append_right _ (dt_1 (List.mem_of_getElem? (i := 201) (by decide +kernel)))) (by decide +kernel)
theorem wd_261 : Cond.code Lib.Math.min.name Lib.Math.min.code 2 (some .int) ∈ dm_W := dm_in (List.mem_append_right _ (dt_1 (List.mem_of_getElem? (i := 202) (by decide +kernel)))) (by decide +kernel)
theorem wd_262 : Cond.methodLink RX4 36 yJ7_copyOf_59c91 ∈ dm_W := dm_in (List.mem_append_right _ (dt_1 (List.mem_of_getElem? (i := 203) (by decide +kernel)))) (by decide +kernel)
theorem wd_263 : Cond.static yJ7_copyOf_59c91 ∈ dm_W := dm_in (List.mem_append_right _ (dt_1 (List.mem_of_getElem? (i := 204) (by decide +kernel)))) (by decide +kernel)
theorem wd_264 : Cond.code yJ7_copyOf_59c91 cJ7_copyOf_59c91 3 (some (.array .int)) ∈ dm_W := dm_in (List.mem_append_right _ (dt_1 (List.mem_of_getElem? (i := 205) (by decide +kernel)))) (by decide +kernel)
theorem wd_272 : Cond.methodLink RJ7 304 Lib.Math.min.name ∈ dm_W := dm_in (List.mem_append_right _ (dt_1 (List.mem_of_getElem? (i := 213) (by decide +kernel)))) (by decide +kernel)
theorem wd_273 : Cond.methodLink RJ7 150 arraycopyName ∈ dm_W := dm_in (List.mem_append_right _ (dt_1 (List.mem_of_getElem? (i := 214) (by decide +kernel)))) (by decide +kernel)
theorem wd_274 : Cond.static arraycopyName ∈ dm_W := dm_in (List.mem_append_right _ (dt_1 (List.mem_of_getElem? (i := 215) (by decide +kernel)))) (by decide +kernel)
theorem wd_275 : Cond.native arraycopyName ∈ dm_W := dm_in (List.mem_append_right _ (dt_1 (List.mem_of_getElem? (i := 216) (by decide +kernel)))) (by decide +kernel)
theorem wd_276 : Cond.methodLink RX2 55 yX2_make ∈ dm_W := dm_in (List.mem_append_right _ (dt_1 (List.mem_of_getElem? (i := 217) (by decide +kernel)))) (by decide +kernel)
theorem wd_277 : Cond.instanceMethod yX2_make ∈ dm_W := dm_in (List.mem_append_right _ (dt_1 (List.mem_of_getElem? (i := 218) (by decide +kernel)))) (by decide +kernel)
theorem wd_278 : Cond.selects RX2 yX2_make yX2_make ∈ dm_W := dm_in (List.mem_append_right _ (dt_1 (List.mem_of_getElem? (i := 219) (by decide +kernel)))) (by decide +kernel)
theorem wd_279 : Cond.code yX2_make cX2_make 7 (some .int) ∈ dm_W := dm_in (List.mem_append_right _ (dt_1 (List.mem_of_getElem? (i := 220) (by decide +kernel)))) (by decide +kernel)
theorem wd_280 : Cond.methodLink RX2 63 yX2_nodes ∈ dm_W := dm_in (List.mem_append_right _ (dt_1 (List.mem_of_getElem? (i := 221) (by decide +kernel)))) (by decide +kernel)
theorem wd_281 : Cond.instanceMethod yX2_nodes ∈ dm_W := dm_in (List.mem_append_right _ (dt_1 (List.mem_of_getElem? (i := 222) (by decide +kernel)))) (by decide +kernel)
theorem wd_282 : Cond.selects RX2 yX2_nodes yX2_nodes ∈ dm_W := dm_in (List.mem_append_right _ (dt_1 (List.mem_of_getElem? (i := 223) (by decide +kernel)))) (by decide +kernel)
theorem wd_283 : Cond.code yX2_nodes cX2_nodes 1 (some .int) ∈ dm_W := dm_in (List.mem_append_right _ (dt_1 (List.mem_of_getElem? (i := 224) (by decide +kernel)))) (by decide +kernel)
theorem wd_284 : Cond.methodLink RX2 59 yX4_at ∈ dm_W := dm_in (List.mem_append_right _ (dt_1 (List.mem_of_getElem? (i := 225) (by decide +kernel)))) (by decide +kernel)
theorem wd_285 : Cond.instanceMethod yX4_at ∈ dm_W := dm_in (List.mem_append_right _ (dt_1 (List.mem_of_getElem? (i := 226) (by decide +kernel)))) (by decide +kernel)
theorem wd_286 : Cond.selects RX4 yX4_at yX4_at ∈ dm_W := dm_in (List.mem_append_right _ (dt_1 (List.mem_of_getElem? (i := 227) (by decide +kernel)))) (by decide +kernel)
theorem wd_287 : Cond.code yX4_at cX4_at 2 (some .int) ∈ dm_W := dm_in (List.mem_append_right _ (dt_1 (List.mem_of_getElem? (i := 228) (by decide +kernel)))) (by decide +kernel)
theorem wd_288 : Cond.methodLink RX2 67 yX8_nodesOf ∈ dm_W := dm_in (List.mem_append_right _ (dt_1 (List.mem_of_getElem? (i := 229) (by decide +kernel)))) (by decide +kernel)
theorem wd_289 : Cond.instanceMethod yX8_nodesOf ∈ dm_W := dm_in (List.mem_append_right _ (dt_1 (List.mem_of_getElem? (i := 230) (by decide +kernel)))) (by decide +kernel)
theorem wd_290 : Cond.selects RX8 yX8_nodesOf yX8_nodesOf ∈ dm_W := dm_in (List.mem_append_right _ (dt_1 (List.mem_of_getElem? (i := 231) (by decide +kernel)))) (by decide +kernel)
theorem wd_291 : Cond.code yX8_nodesOf cX8_nodesOf 4 (some .int) ∈ dm_W := dm_in (List.mem_append_right _ (dt_1 (List.mem_of_getElem? (i := 232) (by decide +kernel)))) (by decide +kernel)
theorem wd_292 : Cond.methodLink RX8 39 yX8_isNumber ∈ dm_W := dm_in (List.mem_append_right _ (dt_1 (List.mem_of_getElem? (i := 233) (by decide +kernel)))) (by decide +kernel)
theorem wd_293 : Cond.instanceMethod yX8_isNumber ∈ dm_W := dm_in (List.mem_append_right _ (dt_1 (List.mem_of_getElem? (i := 234) (by decide +kernel)))) (by decide +kernel)
theorem wd_294 : Cond.selects RX8 yX8_isNumber yX8_isNumber ∈ dm_W := dm_in (List.mem_append_right _ (dt_1 (List.mem_of_getElem? (i := 235) (by decide +kernel)))) (by decide +kernel)
theorem wd_295 : Cond.code yX8_isNumber cX8_isNumber 2 (some .boolean) ∈ dm_W := dm_in (List.mem_append_right _ (dt_1 (List.mem_of_getElem? (i := 236) (by decide +kernel)))) (by decide +kernel)
theorem wd_296 : Cond.methodLink RX8 32 yX4_at ∈ dm_W := dm_in (List.mem_append_right _ (dt_1 (List.mem_of_getElem? (i := 237) (by decide +kernel)))) (by decide +kernel)
theorem wd_297 : Cond.methodLink RX2 70 yX4_put ∈ dm_W := dm_in (List.mem_append_right _ (dt_1 (List.mem_of_getElem? (i := 238) (by decide +kernel)))) (by decide +kernel)
theorem wd_298 : Cond.methodLink RX2 74 yX8_top ∈ dm_W := dm_in (List.mem_append_right _ (dt_1 (List.mem_of_getElem? (i := 239) (by decide +kernel)))) (by decide +kernel)
theorem wd_299 : Cond.instanceMethod yX8_top ∈ dm_W := dm_in (List.mem_append_right _ (dt_2 (List.mem_of_getElem? (i := 0) (by decide +kernel)))) (by decide +kernel)
theorem wd_300 : Cond.selects RX8 yX8_top yX8_top ∈ dm_W := dm_in (List.mem_append_right _ (dt_2 (List.mem_of_getElem? (i := 1) (by decide +kernel)))) (by decide +kernel)
theorem wd_301 : Cond.code yX8_top cX8_top 1 (some .int) ∈ dm_W := dm_in (List.mem_append_right _ (dt_2 (List.mem_of_getElem? (i := 2) (by decide +kernel)))) (by decide +kernel)
theorem wd_302 : Cond.methodLink RX10 237 yX0_clear ∈ dm_W := dm_in (List.mem_append_right _ (dt_2 (List.mem_of_getElem? (i := 3) (by decide +kernel)))) (by decide +kernel)
theorem wd_303 : Cond.instanceMethod yX0_clear ∈ dm_W := dm_in (List.mem_append_right _ (dt_2 (List.mem_of_getElem? (i := 4) (by decide +kernel)))) (by decide +kernel)
theorem wd_304 : Cond.selects RX0 yX0_clear yX0_clear ∈ dm_W := dm_in (List.mem_append_right _ (dt_2 (List.mem_of_getElem? (i := 5) (by decide +kernel)))) (by decide +kernel)
theorem wd_305 : Cond.code yX0_clear cX0_clear 1 none ∈ dm_W := dm_in (List.mem_append_right _ (dt_2 (List.mem_of_getElem? (i := 6) (by decide +kernel)))) (by decide +kernel)
theorem wd_306 : Cond.methodLink RX10 221 yX1_cut ∈ dm_W := dm_in (List.mem_append_right _ (dt_2 (List.mem_of_getElem? (i := 7) (by decide +kernel)))) (by decide +kernel)
theorem wd_307 : Cond.instanceMethod yX1_cut ∈ dm_W := dm_in (List.mem_append_right _ (dt_2 (List.mem_of_getElem? (i := 8) (by decide +kernel)))) (by decide +kernel)
theorem wd_308 : Cond.selects RX1 yX1_cut yX1_cut ∈ dm_W := dm_in (List.mem_append_right _ (dt_2 (List.mem_of_getElem? (i := 9) (by decide +kernel)))) (by decide +kernel)
theorem wd_309 : Cond.code yX1_cut cX1_cut 2 (some .boolean) ∈ dm_W := dm_in (List.mem_append_right _ (dt_2 (List.mem_of_getElem? (i := 10) (by decide +kernel)))) (by decide +kernel)
theorem wd_310 : Cond.fieldLink RX10 10 "SplitClocks" "book" "LSplitClocks$Book;" ∈ dm_W := dm_in (List.mem_append_right _ (dt_2 (List.mem_of_getElem? (i := 11) (by decide +kernel)))) (by decide +kernel)
theorem wd_311 : Cond.fieldLink RX10 16 "SplitClocks" "kept" "LSplitClocks$Book;" ∈ dm_W := dm_in (List.mem_append_right _ (dt_2 (List.mem_of_getElem? (i := 12) (by decide +kernel)))) (by decide +kernel)
theorem wd_312 : Cond.fieldLink RX10 22 "SplitClocks" "acts" "LSplitClocks$Acts;" ∈ dm_W := dm_in (List.mem_append_right _ (dt_2 (List.mem_of_getElem? (i := 13) (by decide +kernel)))) (by decide +kernel)
theorem wd_313 : Cond.fieldLink RX10 29 "SplitClocks" "past" "LSplitClocks$Past;" ∈ dm_W := dm_in (List.mem_append_right _ (dt_2 (List.mem_of_getElem? (i := 14) (by decide +kernel)))) (by decide +kernel)
theorem wd_314 : Cond.fieldLink RX10 36 "SplitClocks" "row" "LSplitClocks$Bits;" ∈ dm_W := dm_in (List.mem_append_right _ (dt_2 (List.mem_of_getElem? (i := 15) (by decide +kernel)))) (by decide +kernel)
theorem wd_315 : Cond.fieldLink RX10 40 "SplitClocks" "draft" "LSplitClocks$Bits;" ∈ dm_W := dm_in (List.mem_append_right _ (dt_2 (List.mem_of_getElem? (i := 16) (by decide +kernel)))) (by decide +kernel)
theorem wd_316 : Cond.fieldLink RX10 48 "SplitClocks" "reader" "LSplitClocks$Reader;" ∈ dm_W := dm_in (List.mem_append_right _ (dt_2 (List.mem_of_getElem? (i := 17) (by decide +kernel)))) (by decide +kernel)
theorem wd_317 : Cond.fieldLink RX10 52 "SplitClocks" "imageStands" "Z" ∈ dm_W := dm_in (List.mem_append_right _ (dt_2 (List.mem_of_getElem? (i := 18) (by decide +kernel)))) (by decide +kernel)
theorem wd_318 : Cond.fieldLink RX10 231 "SplitClocks" "lastFault" "I" ∈ dm_W := dm_in (List.mem_append_right _ (dt_2 (List.mem_of_getElem? (i := 19) (by decide +kernel)))) (by decide +kernel)
theorem wd_319 : Cond.fieldLink RX10 202 "SplitClocks" "toldPlace" "J" ∈ dm_W := dm_in (List.mem_append_right _ (dt_2 (List.mem_of_getElem? (i := 20) (by decide +kernel)))) (by decide +kernel)
theorem wd_320 : Cond.fieldLink RX10 198 "SplitClocks" "toldDigits" "I" ∈ dm_W := dm_in (List.mem_append_right _ (dt_2 (List.mem_of_getElem? (i := 21) (by decide +kernel)))) (by decide +kernel)
theorem wd_347 : Cond.code yX10_seed cX10_seed 1 none ∈ dm_W := dm_in (List.mem_append_right _ (dt_2 (List.mem_of_getElem? (i := 48) (by decide +kernel)))) (by decide +kernel)
theorem wd_351 : Cond.code yX10_fork cX10_fork 6 (some .int) ∈ dm_W := dm_in (List.mem_append_right _ (dt_2 (List.mem_of_getElem? (i := 52) (by decide +kernel)))) (by decide +kernel)
theorem wd_352 : Cond.methodLink RX10 59 yX2_isOwner ∈ dm_W := dm_in (List.mem_append_right _ (dt_2 (List.mem_of_getElem? (i := 53) (by decide +kernel)))) (by decide +kernel)
theorem wd_353 : Cond.instanceMethod yX2_isOwner ∈ dm_W := dm_in (List.mem_append_right _ (dt_2 (List.mem_of_getElem? (i := 54) (by decide +kernel)))) (by decide +kernel)
theorem wd_354 : Cond.selects RX2 yX2_isOwner yX2_isOwner ∈ dm_W := dm_in (List.mem_append_right _ (dt_2 (List.mem_of_getElem? (i := 55) (by decide +kernel)))) (by decide +kernel)
theorem wd_355 : Cond.code yX2_isOwner cX2_isOwner 2 (some .boolean) ∈ dm_W := dm_in (List.mem_append_right _ (dt_2 (List.mem_of_getElem? (i := 56) (by decide +kernel)))) (by decide +kernel)
theorem wd_356 : Cond.methodLink RX2 94 yX2_isLiving ∈ dm_W := dm_in (List.mem_append_right _ (dt_2 (List.mem_of_getElem? (i := 57) (by decide +kernel)))) (by decide +kernel)
theorem wd_357 : Cond.instanceMethod yX2_isLiving ∈ dm_W := dm_in (List.mem_append_right _ (dt_2 (List.mem_of_getElem? (i := 58) (by decide +kernel)))) (by decide +kernel)
theorem wd_358 : Cond.selects RX2 yX2_isLiving yX2_isLiving ∈ dm_W := dm_in (List.mem_append_right _ (dt_2 (List.mem_of_getElem? (i := 59) (by decide +kernel)))) (by decide +kernel)
theorem wd_359 : Cond.code yX2_isLiving cX2_isLiving 2 (some .boolean) ∈ dm_W := dm_in (List.mem_append_right _ (dt_2 (List.mem_of_getElem? (i := 60) (by decide +kernel)))) (by decide +kernel)
theorem wd_360 : Cond.methodLink RX2 87 yX2_has ∈ dm_W := dm_in (List.mem_append_right _ (dt_2 (List.mem_of_getElem? (i := 61) (by decide +kernel)))) (by decide +kernel)
theorem wd_361 : Cond.instanceMethod yX2_has ∈ dm_W := dm_in (List.mem_append_right _ (dt_2 (List.mem_of_getElem? (i := 62) (by decide +kernel)))) (by decide +kernel)
theorem wd_362 : Cond.selects RX2 yX2_has yX2_has ∈ dm_W := dm_in (List.mem_append_right _ (dt_2 (List.mem_of_getElem? (i := 63) (by decide +kernel)))) (by decide +kernel)
theorem wd_363 : Cond.code yX2_has cX2_has 2 (some .boolean) ∈ dm_W := dm_in (List.mem_append_right _ (dt_2 (List.mem_of_getElem? (i := 64) (by decide +kernel)))) (by decide +kernel)
theorem wd_364 : Cond.methodLink RX2 91 yX2_stateOf ∈ dm_W := dm_in (List.mem_append_right _ (dt_2 (List.mem_of_getElem? (i := 65) (by decide +kernel)))) (by decide +kernel)
theorem wd_365 : Cond.instanceMethod yX2_stateOf ∈ dm_W := dm_in (List.mem_append_right _ (dt_2 (List.mem_of_getElem? (i := 66) (by decide +kernel)))) (by decide +kernel)
theorem wd_366 : Cond.selects RX2 yX2_stateOf yX2_stateOf ∈ dm_W := dm_in (List.mem_append_right _ (dt_2 (List.mem_of_getElem? (i := 67) (by decide +kernel)))) (by decide +kernel)
theorem wd_367 : Cond.code yX2_stateOf cX2_stateOf 2 (some .int) ∈ dm_W := dm_in (List.mem_append_right _ (dt_2 (List.mem_of_getElem? (i := 68) (by decide +kernel)))) (by decide +kernel)
theorem wd_368 : Cond.methodLink RX2 97 yX2_ownsNothing ∈ dm_W := dm_in (List.mem_append_right _ (dt_2 (List.mem_of_getElem? (i := 69) (by decide +kernel)))) (by decide +kernel)
theorem wd_369 : Cond.instanceMethod yX2_ownsNothing ∈ dm_W := dm_in (List.mem_append_right _ (dt_2 (List.mem_of_getElem? (i := 70) (by decide +kernel)))) (by decide +kernel)
theorem wd_370 : Cond.selects RX2 yX2_ownsNothing yX2_ownsNothing ∈ dm_W := dm_in (List.mem_append_right _ (dt_2 (List.mem_of_getElem? (i := 71) (by decide +kernel)))) (by decide +kernel)
theorem wd_371 : Cond.code yX2_ownsNothing cX2_ownsNothing 2 (some .boolean) ∈ dm_W := dm_in (List.mem_append_right _ (dt_2 (List.mem_of_getElem? (i := 72) (by decide +kernel)))) (by decide +kernel)
theorem wd_372 : Cond.methodLink RX2 80 yX2_ownOf ∈ dm_W := dm_in (List.mem_append_right _ (dt_2 (List.mem_of_getElem? (i := 73) (by decide +kernel)))) (by decide +kernel)
theorem wd_373 : Cond.instanceMethod yX2_ownOf ∈ dm_W := dm_in (List.mem_append_right _ (dt_2 (List.mem_of_getElem? (i := 74) (by decide +kernel)))) (by decide +kernel)
theorem wd_374 : Cond.selects RX2 yX2_ownOf yX2_ownOf ∈ dm_W := dm_in (List.mem_append_right _ (dt_2 (List.mem_of_getElem? (i := 75) (by decide +kernel)))) (by decide +kernel)
theorem wd_375 : Cond.code yX2_ownOf cX2_ownOf 2 (some .int) ∈ dm_W := dm_in (List.mem_append_right _ (dt_2 (List.mem_of_getElem? (i := 76) (by decide +kernel)))) (by decide +kernel)
theorem wd_376 : Cond.methodLink RX2 83 yX8_isJust ∈ dm_W := dm_in (List.mem_append_right _ (dt_2 (List.mem_of_getElem? (i := 77) (by decide +kernel)))) (by decide +kernel)
theorem wd_377 : Cond.instanceMethod yX8_isJust ∈ dm_W := dm_in (List.mem_append_right _ (dt_2 (List.mem_of_getElem? (i := 78) (by decide +kernel)))) (by decide +kernel)
theorem wd_378 : Cond.selects RX8 yX8_isJust yX8_isJust ∈ dm_W := dm_in (List.mem_append_right _ (dt_2 (List.mem_of_getElem? (i := 79) (by decide +kernel)))) (by decide +kernel)
theorem wd_379 : Cond.code yX8_isJust cX8_isJust 3 (some .boolean) ∈ dm_W := dm_in (List.mem_append_right _ (dt_2 (List.mem_of_getElem? (i := 80) (by decide +kernel)))) (by decide +kernel)
theorem wd_380 : Cond.methodLink RX8 43 yX8_numberOf ∈ dm_W := dm_in (List.mem_append_right _ (dt_2 (List.mem_of_getElem? (i := 81) (by decide +kernel)))) (by decide +kernel)
theorem wd_381 : Cond.instanceMethod yX8_numberOf ∈ dm_W := dm_in (List.mem_append_right _ (dt_2 (List.mem_of_getElem? (i := 82) (by decide +kernel)))) (by decide +kernel)
theorem wd_382 : Cond.selects RX8 yX8_numberOf yX8_numberOf ∈ dm_W := dm_in (List.mem_append_right _ (dt_2 (List.mem_of_getElem? (i := 83) (by decide +kernel)))) (by decide +kernel)
theorem wd_383 : Cond.code yX8_numberOf cX8_numberOf 2 (some .int) ∈ dm_W := dm_in (List.mem_append_right _ (dt_2 (List.mem_of_getElem? (i := 84) (by decide +kernel)))) (by decide +kernel)
theorem wd_384 : Cond.methodLink RX10 67 yX2_ownOf ∈ dm_W := dm_in (List.mem_append_right _ (dt_2 (List.mem_of_getElem? (i := 85) (by decide +kernel)))) (by decide +kernel)
theorem wd_385 : Cond.methodLink RX10 71 yX3_canPart ∈ dm_W := dm_in (List.mem_append_right _ (dt_2 (List.mem_of_getElem? (i := 86) (by decide +kernel)))) (by decide +kernel)
theorem wd_386 : Cond.static yX3_canPart ∈ dm_W := dm_in (List.mem_append_right _ (dt_2 (List.mem_of_getElem? (i := 87) (by decide +kernel)))) (by decide +kernel)
theorem wd_387 : Cond.code yX3_canPart cX3_canPart 4 (some .boolean) ∈ dm_W := dm_in (List.mem_append_right _ (dt_2 (List.mem_of_getElem? (i := 88) (by decide +kernel)))) (by decide +kernel)
theorem wd_388 : Cond.methodLink RX3 9 yX3_hasOneSide ∈ dm_W := dm_in (List.mem_append_right _ (dt_2 (List.mem_of_getElem? (i := 89) (by decide +kernel)))) (by decide +kernel)
theorem wd_389 : Cond.static yX3_hasOneSide ∈ dm_W := dm_in (List.mem_append_right _ (dt_2 (List.mem_of_getElem? (i := 90) (by decide +kernel)))) (by decide +kernel)
theorem wd_390 : Cond.code yX3_hasOneSide cX3_hasOneSide 2 (some .boolean) ∈ dm_W := dm_in (List.mem_append_right _ (dt_2 (List.mem_of_getElem? (i := 91) (by decide +kernel)))) (by decide +kernel)
theorem wd_391 : Cond.methodLink RX3 28 yX8_isNumber ∈ dm_W := dm_in (List.mem_append_right _ (dt_2 (List.mem_of_getElem? (i := 92) (by decide +kernel)))) (by decide +kernel)
theorem wd_392 : Cond.methodLink RX3 15 yX8_leftOf ∈ dm_W := dm_in (List.mem_append_right _ (dt_2 (List.mem_of_getElem? (i := 93) (by decide +kernel)))) (by decide +kernel)
theorem wd_393 : Cond.instanceMethod yX8_leftOf ∈ dm_W := dm_in (List.mem_append_right _ (dt_2 (List.mem_of_getElem? (i := 94) (by decide +kernel)))) (by decide +kernel)
theorem wd_394 : Cond.selects RX8 yX8_leftOf yX8_leftOf ∈ dm_W := dm_in (List.mem_append_right _ (dt_2 (List.mem_of_getElem? (i := 95) (by decide +kernel)))) (by decide +kernel)
theorem wd_395 : Cond.code yX8_leftOf cX8_leftOf 2 (some .int) ∈ dm_W := dm_in (List.mem_append_right _ (dt_2 (List.mem_of_getElem? (i := 96) (by decide +kernel)))) (by decide +kernel)
theorem wd_396 : Cond.methodLink RX3 21 yX8_isJust ∈ dm_W := dm_in (List.mem_append_right _ (dt_2 (List.mem_of_getElem? (i := 97) (by decide +kernel)))) (by decide +kernel)
theorem wd_397 : Cond.methodLink RX3 25 yX8_rightOf ∈ dm_W := dm_in (List.mem_append_right _ (dt_2 (List.mem_of_getElem? (i := 98) (by decide +kernel)))) (by decide +kernel)
theorem wd_398 : Cond.instanceMethod yX8_rightOf ∈ dm_W := dm_in (List.mem_append_right _ (dt_2 (List.mem_of_getElem? (i := 99) (by decide +kernel)))) (by decide +kernel)
theorem wd_399 : Cond.selects RX8 yX8_rightOf yX8_rightOf ∈ dm_W := dm_in (List.mem_append_right _ (dt_2 (List.mem_of_getElem? (i := 100) (by decide +kernel)))) (by decide +kernel)
theorem wd_400 : Cond.code yX8_rightOf cX8_rightOf 2 (some .int) ∈ dm_W := dm_in (List.mem_append_right _ (dt_2 (List.mem_of_getElem? (i := 101) (by decide +kernel)))) (by decide +kernel)
theorem wd_401 : Cond.methodLink RX10 77 yX2_size ∈ dm_W := dm_in (List.mem_append_right _ (dt_2 (List.mem_of_getElem? (i := 102) (by decide +kernel)))) (by decide +kernel)
theorem wd_402 : Cond.instanceMethod yX2_size ∈ dm_W := dm_in (List.mem_append_right _ (dt_2 (List.mem_of_getElem? (i := 103) (by decide +kernel)))) (by decide +kernel)
theorem wd_403 : Cond.selects RX2 yX2_size yX2_size ∈ dm_W := dm_in (List.mem_append_right _ (dt_2 (List.mem_of_getElem? (i := 104) (by decide +kernel)))) (by decide +kernel)
theorem wd_404 : Cond.code yX2_size cX2_size 1 (some .int) ∈ dm_W := dm_in (List.mem_append_right _ (dt_2 (List.mem_of_getElem? (i := 105) (by decide +kernel)))) (by decide +kernel)
theorem wd_405 : Cond.methodLink RX10 81 yX2_knownOf ∈ dm_W := dm_in (List.mem_append_right _ (dt_2 (List.mem_of_getElem? (i := 106) (by decide +kernel)))) (by decide +kernel)
theorem wd_406 : Cond.instanceMethod yX2_knownOf ∈ dm_W := dm_in (List.mem_append_right _ (dt_2 (List.mem_of_getElem? (i := 107) (by decide +kernel)))) (by decide +kernel)
theorem wd_407 : Cond.selects RX2 yX2_knownOf yX2_knownOf ∈ dm_W := dm_in (List.mem_append_right _ (dt_2 (List.mem_of_getElem? (i := 108) (by decide +kernel)))) (by decide +kernel)
theorem wd_408 : Cond.code yX2_knownOf cX2_knownOf 2 (some .int) ∈ dm_W := dm_in (List.mem_append_right _ (dt_2 (List.mem_of_getElem? (i := 109) (by decide +kernel)))) (by decide +kernel)
theorem wd_409 : Cond.methodLink RX10 84 yX3_part ∈ dm_W := dm_in (List.mem_append_right _ (dt_2 (List.mem_of_getElem? (i := 110) (by decide +kernel)))) (by decide +kernel)
theorem wd_410 : Cond.static yX3_part ∈ dm_W := dm_in (List.mem_append_right _ (dt_2 (List.mem_of_getElem? (i := 111) (by decide +kernel)))) (by decide +kernel)
theorem wd_411 : Cond.code yX3_part cX3_part 4 (some .int) ∈ dm_W := dm_in (List.mem_append_right _ (dt_2 (List.mem_of_getElem? (i := 112) (by decide +kernel)))) (by decide +kernel)
theorem wd_412 : Cond.methodLink RX3 32 yX8_top ∈ dm_W := dm_in (List.mem_append_right _ (dt_2 (List.mem_of_getElem? (i := 113) (by decide +kernel)))) (by decide +kernel)
theorem wd_413 : Cond.methodLink RX3 36 yX3_partFrom ∈ dm_W := dm_in (List.mem_append_right _ (dt_2 (List.mem_of_getElem? (i := 114) (by decide +kernel)))) (by decide +kernel)
theorem wd_414 : Cond.static yX3_partFrom ∈ dm_W := dm_in (List.mem_append_right _ (dt_2 (List.mem_of_getElem? (i := 115) (by decide +kernel)))) (by decide +kernel)
theorem wd_415 : Cond.code yX3_partFrom cX3_partFrom 7 none ∈ dm_W := dm_in (List.mem_append_right _ (dt_2 (List.mem_of_getElem? (i := 116) (by decide +kernel)))) (by decide +kernel)
theorem wd_416 : Cond.methodLink RX3 40 yX8_grow ∈ dm_W := dm_in (List.mem_append_right _ (dt_2 (List.mem_of_getElem? (i := 117) (by decide +kernel)))) (by decide +kernel)
theorem wd_417 : Cond.methodLink RX3 43 yX8_turn ∈ dm_W := dm_in (List.mem_append_right _ (dt_2 (List.mem_of_getElem? (i := 118) (by decide +kernel)))) (by decide +kernel)
theorem wd_418 : Cond.instanceMethod yX8_turn ∈ dm_W := dm_in (List.mem_append_right _ (dt_2 (List.mem_of_getElem? (i := 119) (by decide +kernel)))) (by decide +kernel)
theorem wd_419 : Cond.selects RX8 yX8_turn yX8_turn ∈ dm_W := dm_in (List.mem_append_right _ (dt_2 (List.mem_of_getElem? (i := 120) (by decide +kernel)))) (by decide +kernel)
theorem wd_420 : Cond.code yX8_turn cX8_turn 2 none ∈ dm_W := dm_in (List.mem_append_right _ (dt_2 (List.mem_of_getElem? (i := 121) (by decide +kernel)))) (by decide +kernel)
theorem wd_421 : Cond.methodLink RX3 47 yX8_copy ∈ dm_W := dm_in (List.mem_append_right _ (dt_2 (List.mem_of_getElem? (i := 122) (by decide +kernel)))) (by decide +kernel)
theorem wd_422 : Cond.instanceMethod yX8_copy ∈ dm_W := dm_in (List.mem_append_right _ (dt_2 (List.mem_of_getElem? (i := 123) (by decide +kernel)))) (by decide +kernel)
theorem wd_423 : Cond.selects RX8 yX8_copy yX8_copy ∈ dm_W := dm_in (List.mem_append_right _ (dt_2 (List.mem_of_getElem? (i := 124) (by decide +kernel)))) (by decide +kernel)
theorem wd_424 : Cond.code yX8_copy cX8_copy 5 none ∈ dm_W := dm_in (List.mem_append_right _ (dt_2 (List.mem_of_getElem? (i := 125) (by decide +kernel)))) (by decide +kernel)
theorem wd_425 : Cond.methodLink RX8 62 yX8_nodesOf ∈ dm_W := dm_in (List.mem_append_right _ (dt_2 (List.mem_of_getElem? (i := 126) (by decide +kernel)))) (by decide +kernel)
theorem wd_426 : Cond.methodLink RX10 88 yX2_make ∈ dm_W := dm_in (List.mem_append_right _ (dt_2 (List.mem_of_getElem? (i := 127) (by decide +kernel)))) (by decide +kernel)
theorem wd_427 : Cond.methodLink RX10 92 yX10_settle ∈ dm_W := dm_in (List.mem_append_right _ (dt_2 (List.mem_of_getElem? (i := 128) (by decide +kernel)))) (by decide +kernel)
theorem wd_429 : Cond.instanceMethod yX10_settle ∈ dm_W := dm_in (List.mem_append_right _ (dt_2 (List.mem_of_getElem? (i := 130) (by decide +kernel)))) (by decide +kernel)
theorem wd_430 : Cond.code yX10_settle cX10_settle 5 (some .boolean) ∈ dm_W := dm_in (List.mem_append_right _ (dt_2 (List.mem_of_getElem? (i := 131) (by decide +kernel)))) (by decide +kernel)
theorem wd_431 : Cond.methodLink RX10 254 yX2_cut ∈ dm_W := dm_in (List.mem_append_right _ (dt_2 (List.mem_of_getElem? (i := 132) (by decide +kernel)))) (by decide +kernel)
theorem wd_432 : Cond.instanceMethod yX2_cut ∈ dm_W := dm_in (List.mem_append_right _ (dt_2 (List.mem_of_getElem? (i := 133) (by decide +kernel)))) (by decide +kernel)
theorem wd_433 : Cond.selects RX2 yX2_cut yX2_cut ∈ dm_W := dm_in (List.mem_append_right _ (dt_2 (List.mem_of_getElem? (i := 134) (by decide +kernel)))) (by decide +kernel)
theorem wd_434 : Cond.code yX2_cut cX2_cut 2 none ∈ dm_W := dm_in (List.mem_append_right _ (dt_2 (List.mem_of_getElem? (i := 135) (by decide +kernel)))) (by decide +kernel)
theorem wd_435 : Cond.methodLink RX2 77 yX8_cut ∈ dm_W := dm_in (List.mem_append_right _ (dt_2 (List.mem_of_getElem? (i := 136) (by decide +kernel)))) (by decide +kernel)
theorem wd_436 : Cond.instanceMethod yX8_cut ∈ dm_W := dm_in (List.mem_append_right _ (dt_2 (List.mem_of_getElem? (i := 137) (by decide +kernel)))) (by decide +kernel)
theorem wd_437 : Cond.selects RX8 yX8_cut yX8_cut ∈ dm_W := dm_in (List.mem_append_right _ (dt_2 (List.mem_of_getElem? (i := 138) (by decide +kernel)))) (by decide +kernel)
theorem wd_438 : Cond.code yX8_cut cX8_cut 2 none ∈ dm_W := dm_in (List.mem_append_right _ (dt_2 (List.mem_of_getElem? (i := 139) (by decide +kernel)))) (by decide +kernel)
theorem wd_439 : Cond.methodLink RX10 117 yX0_note ∈ dm_W := dm_in (List.mem_append_right _ (dt_2 (List.mem_of_getElem? (i := 140) (by decide +kernel)))) (by decide +kernel)
theorem wd_440 : Cond.instanceMethod yX0_note ∈ dm_W := dm_in (List.mem_append_right _ (dt_2 (List.mem_of_getElem? (i := 141) (by decide +kernel)))) (by decide +kernel)
theorem wd_441 : Cond.selects RX0 yX0_note yX0_note ∈ dm_W := dm_in (List.mem_append_right _ (dt_2 (List.mem_of_getElem? (i := 142) (by decide +kernel)))) (by decide +kernel)
theorem wd_442 : Cond.code yX0_note cX0_note 5 none ∈ dm_W := dm_in (List.mem_append_right _ (dt_2 (List.mem_of_getElem? (i := 143) (by decide +kernel)))) (by decide +kernel)
theorem wd_443 : Cond.methodLink RX0 36 yX4_put ∈ dm_W := dm_in (List.mem_append_right _ (dt_2 (List.mem_of_getElem? (i := 144) (by decide +kernel)))) (by decide +kernel)
theorem wd_444 : Cond.methodLink RX0 40 yX2_stateOf ∈ dm_W := dm_in (List.mem_append_right _ (dt_2 (List.mem_of_getElem? (i := 145) (by decide +kernel)))) (by decide +kernel)
theorem wd_445 : Cond.methodLink RX10 113 yX2_spend ∈ dm_W := dm_in (List.mem_append_right _ (dt_2 (List.mem_of_getElem? (i := 146) (by decide +kernel)))) (by decide +kernel)
theorem wd_446 : Cond.instanceMethod yX2_spend ∈ dm_W := dm_in (List.mem_append_right _ (dt_2 (List.mem_of_getElem? (i := 147) (by decide +kernel)))) (by decide +kernel)
theorem wd_447 : Cond.selects RX2 yX2_spend yX2_spend ∈ dm_W := dm_in (List.mem_append_right _ (dt_2 (List.mem_of_getElem? (i := 148) (by decide +kernel)))) (by decide +kernel)
theorem wd_448 : Cond.code yX2_spend cX2_spend 2 none ∈ dm_W := dm_in (List.mem_append_right _ (dt_2 (List.mem_of_getElem? (i := 149) (by decide +kernel)))) (by decide +kernel)
theorem wd_449 : Cond.methodLink RX2 100 yX2_setState ∈ dm_W := dm_in (List.mem_append_right _ (dt_2 (List.mem_of_getElem? (i := 150) (by decide +kernel)))) (by decide +kernel)
theorem wd_450 : Cond.instanceMethod yX2_setState ∈ dm_W := dm_in (List.mem_append_right _ (dt_2 (List.mem_of_getElem? (i := 151) (by decide +kernel)))) (by decide +kernel)
theorem wd_451 : Cond.selects RX2 yX2_setState yX2_setState ∈ dm_W := dm_in (List.mem_append_right _ (dt_2 (List.mem_of_getElem? (i := 152) (by decide +kernel)))) (by decide +kernel)
theorem wd_452 : Cond.code yX2_setState cX2_setState 3 none ∈ dm_W := dm_in (List.mem_append_right _ (dt_2 (List.mem_of_getElem? (i := 153) (by decide +kernel)))) (by decide +kernel)
theorem wd_456 : Cond.code yX10_event cX10_event 4 (some .int) ∈ dm_W := dm_in (List.mem_append_right _ (dt_2 (List.mem_of_getElem? (i := 157) (by decide +kernel)))) (by decide +kernel)
theorem wd_457 : Cond.methodLink RX10 96 yX10_makeEvent ∈ dm_W := dm_in (List.mem_append_right _ (dt_2 (List.mem_of_getElem? (i := 158) (by decide +kernel)))) (by decide +kernel)
theorem wd_459 : Cond.instanceMethod yX10_makeEvent ∈ dm_W := dm_in (List.mem_append_right _ (dt_2 (List.mem_of_getElem? (i := 160) (by decide +kernel)))) (by decide +kernel)
theorem wd_460 : Cond.code yX10_makeEvent cX10_makeEvent 4 (some .int) ∈ dm_W := dm_in (List.mem_append_right _ (dt_2 (List.mem_of_getElem? (i := 161) (by decide +kernel)))) (by decide +kernel)
theorem wd_461 : Cond.methodLink RX10 259 yX3_after ∈ dm_W := dm_in (List.mem_append_right _ (dt_2 (List.mem_of_getElem? (i := 162) (by decide +kernel)))) (by decide +kernel)
theorem wd_462 : Cond.static yX3_after ∈ dm_W := dm_in (List.mem_append_right _ (dt_2 (List.mem_of_getElem? (i := 163) (by decide +kernel)))) (by decide +kernel)
theorem wd_463 : Cond.code yX3_after cX3_after 4 (some .int) ∈ dm_W := dm_in (List.mem_append_right _ (dt_2 (List.mem_of_getElem? (i := 164) (by decide +kernel)))) (by decide +kernel)
theorem wd_464 : Cond.methodLink RX3 66 yX3_fillFrom ∈ dm_W := dm_in (List.mem_append_right _ (dt_2 (List.mem_of_getElem? (i := 165) (by decide +kernel)))) (by decide +kernel)
theorem wd_465 : Cond.static yX3_fillFrom ∈ dm_W := dm_in (List.mem_append_right _ (dt_2 (List.mem_of_getElem? (i := 166) (by decide +kernel)))) (by decide +kernel)
theorem wd_466 : Cond.code yX3_fillFrom cX3_fillFrom 7 none ∈ dm_W := dm_in (List.mem_append_right _ (dt_2 (List.mem_of_getElem? (i := 167) (by decide +kernel)))) (by decide +kernel)
theorem wd_467 : Cond.methodLink RX3 79 yX8_greatestOf ∈ dm_W := dm_in (List.mem_append_right _ (dt_2 (List.mem_of_getElem? (i := 168) (by decide +kernel)))) (by decide +kernel)
theorem wd_468 : Cond.instanceMethod yX8_greatestOf ∈ dm_W := dm_in (List.mem_append_right _ (dt_2 (List.mem_of_getElem? (i := 169) (by decide +kernel)))) (by decide +kernel)
theorem wd_469 : Cond.selects RX8 yX8_greatestOf yX8_greatestOf ∈ dm_W := dm_in (List.mem_append_right _ (dt_2 (List.mem_of_getElem? (i := 170) (by decide +kernel)))) (by decide +kernel)
theorem wd_470 : Cond.code yX8_greatestOf cX8_greatestOf 2 (some .int) ∈ dm_W := dm_in (List.mem_append_right _ (dt_2 (List.mem_of_getElem? (i := 171) (by decide +kernel)))) (by decide +kernel)
theorem wd_471 : Cond.methodLink RX8 65 yX8_greatest ∈ dm_W := dm_in (List.mem_append_right _ (dt_2 (List.mem_of_getElem? (i := 172) (by decide +kernel)))) (by decide +kernel)
theorem wd_472 : Cond.static yX8_greatest ∈ dm_W := dm_in (List.mem_append_right _ (dt_2 (List.mem_of_getElem? (i := 173) (by decide +kernel)))) (by decide +kernel)
theorem wd_473 : Cond.code yX8_greatest cX8_greatest 5 (some .int) ∈ dm_W := dm_in (List.mem_append_right _ (dt_2 (List.mem_of_getElem? (i := 174) (by decide +kernel)))) (by decide +kernel)
theorem wd_474 : Cond.methodLink RX8 46 yX8_leftOf ∈ dm_W := dm_in (List.mem_append_right _ (dt_2 (List.mem_of_getElem? (i := 175) (by decide +kernel)))) (by decide +kernel)
theorem wd_475 : Cond.methodLink RX8 49 yX8_rightOf ∈ dm_W := dm_in (List.mem_append_right _ (dt_2 (List.mem_of_getElem? (i := 176) (by decide +kernel)))) (by decide +kernel)
theorem wd_476 : Cond.methodLink RX8 69 Lib.Math.max.name ∈ dm_W := dm_in (List.mem_append_right _ (dt_2 (List.mem_of_getElem? (i := 177) (by decide +kernel)))) (by decide +kernel)
theorem wd_477 : Cond.methodLink RX3 54 yX8_numberOf ∈ dm_W := dm_in (List.mem_append_right _ (dt_2 (List.mem_of_getElem? (i := 178) (by decide +kernel)))) (by decide +kernel)
theorem wd_478 : Cond.methodLink RX3 57 Lib.Math.max.name ∈ dm_W := dm_in (List.mem_append_right _ (dt_2 (List.mem_of_getElem? (i := 179) (by decide +kernel)))) (by decide +kernel)
theorem wd_479 : Cond.methodLink RX3 82 yX8_setNumber ∈ dm_W := dm_in (List.mem_append_right _ (dt_2 (List.mem_of_getElem? (i := 180) (by decide +kernel)))) (by decide +kernel)
theorem wd_480 : Cond.instanceMethod yX8_setNumber ∈ dm_W := dm_in (List.mem_append_right _ (dt_2 (List.mem_of_getElem? (i := 181) (by decide +kernel)))) (by decide +kernel)
theorem wd_481 : Cond.selects RX8 yX8_setNumber yX8_setNumber ∈ dm_W := dm_in (List.mem_append_right _ (dt_2 (List.mem_of_getElem? (i := 182) (by decide +kernel)))) (by decide +kernel)
theorem wd_482 : Cond.code yX8_setNumber cX8_setNumber 3 none ∈ dm_W := dm_in (List.mem_append_right _ (dt_2 (List.mem_of_getElem? (i := 183) (by decide +kernel)))) (by decide +kernel)
theorem wd_483 : Cond.methodLink RX3 63 yX8_close ∈ dm_W := dm_in (List.mem_append_right _ (dt_2 (List.mem_of_getElem? (i := 184) (by decide +kernel)))) (by decide +kernel)
theorem wd_484 : Cond.instanceMethod yX8_close ∈ dm_W := dm_in (List.mem_append_right _ (dt_2 (List.mem_of_getElem? (i := 185) (by decide +kernel)))) (by decide +kernel)
theorem wd_485 : Cond.selects RX8 yX8_close yX8_close ∈ dm_W := dm_in (List.mem_append_right _ (dt_2 (List.mem_of_getElem? (i := 186) (by decide +kernel)))) (by decide +kernel)
theorem wd_486 : Cond.code yX8_close cX8_close 5 none ∈ dm_W := dm_in (List.mem_append_right _ (dt_2 (List.mem_of_getElem? (i := 187) (by decide +kernel)))) (by decide +kernel)
theorem wd_487 : Cond.methodLink RX8 52 Lib.Math.min.name ∈ dm_W := dm_in (List.mem_append_right _ (dt_2 (List.mem_of_getElem? (i := 188) (by decide +kernel)))) (by decide +kernel)
theorem wd_488 : Cond.methodLink RX8 58 yX8_isJust ∈ dm_W := dm_in (List.mem_append_right _ (dt_2 (List.mem_of_getElem? (i := 189) (by decide +kernel)))) (by decide +kernel)
theorem wd_489 : Cond.methodLink RX3 70 yX8_same ∈ dm_W := dm_in (List.mem_append_right _ (dt_2 (List.mem_of_getElem? (i := 190) (by decide +kernel)))) (by decide +kernel)
theorem wd_490 : Cond.instanceMethod yX8_same ∈ dm_W := dm_in (List.mem_append_right _ (dt_2 (List.mem_of_getElem? (i := 191) (by decide +kernel)))) (by decide +kernel)
theorem wd_491 : Cond.selects RX8 yX8_same yX8_same ∈ dm_W := dm_in (List.mem_append_right _ (dt_2 (List.mem_of_getElem? (i := 192) (by decide +kernel)))) (by decide +kernel)
theorem wd_492 : Cond.code yX8_same cX8_same 6 (some .boolean) ∈ dm_W := dm_in (List.mem_append_right _ (dt_2 (List.mem_of_getElem? (i := 193) (by decide +kernel)))) (by decide +kernel)
theorem wd_493 : Cond.methodLink RX3 73 yX8_cut ∈ dm_W := dm_in (List.mem_append_right _ (dt_2 (List.mem_of_getElem? (i := 194) (by decide +kernel)))) (by decide +kernel)
theorem wd_494 : Cond.methodLink RX3 76 yX3_growFrom ∈ dm_W := dm_in (List.mem_append_right _ (dt_2 (List.mem_of_getElem? (i := 195) (by decide +kernel)))) (by decide +kernel)
theorem wd_495 : Cond.static yX3_growFrom ∈ dm_W := dm_in (List.mem_append_right _ (dt_2 (List.mem_of_getElem? (i := 196) (by decide +kernel)))) (by decide +kernel)
theorem wd_496 : Cond.code yX3_growFrom cX3_growFrom 7 none ∈ dm_W := dm_in (List.mem_append_right _ (dt_2 (List.mem_of_getElem? (i := 197) (by decide +kernel)))) (by decide +kernel)
theorem wd_497 : Cond.methodLink RX3 86 yX3_cost ∈ dm_W := dm_in (List.mem_append_right _ (dt_2 (List.mem_of_getElem? (i := 198) (by decide +kernel)))) (by decide +kernel)
theorem wd_498 : Cond.static yX3_cost ∈ dm_W := dm_in (List.mem_append_right _ (dt_2 (List.mem_of_getElem? (i := 199) (by decide +kernel)))) (by decide +kernel)
theorem wd_499 : Cond.code yX3_cost cX3_cost 6 (some .int) ∈ dm_W := dm_in (List.mem_append_right _ (dt_2 (List.mem_of_getElem? (i := 200) (by decide +kernel)))) (by decide +kernel)
theorem wd_500 : Cond.constant RX3 90 (1000000) ∈ dm_W := dm_in (List.mem_append_right _ (dt_2 (List.mem_of_getElem? (i := 201) (by decide +kernel)))) (by decide +kernel)
theorem wd_501 : Cond.methodLink RX3 91 Lib.Math.min.name ∈ dm_W := dm_in (List.mem_append_right _ (dt_2 (List.mem_of_getElem? (i := 202) (by decide +kernel)))) (by decide +kernel)
theorem wd_505 : Cond.code yX10_join cX10_join 5 (some .int) ∈ dm_W := dm_in (List.mem_append_right _ (dt_2 (List.mem_of_getElem? (i := 206) (by decide +kernel)))) (by decide +kernel)
theorem wd_506 : Cond.methodLink RX10 99 yX10_canMelt ∈ dm_W := dm_in (List.mem_append_right _ (dt_2 (List.mem_of_getElem? (i := 207) (by decide +kernel)))) (by decide +kernel)
theorem wd_508 : Cond.instanceMethod yX10_canMelt ∈ dm_W := dm_in (List.mem_append_right _ (dt_2 (List.mem_of_getElem? (i := 209) (by decide +kernel)))) (by decide +kernel)
theorem wd_509 : Cond.code yX10_canMelt cX10_canMelt 3 (some .boolean) ∈ dm_W := dm_in (List.mem_append_right _ (dt_2 (List.mem_of_getElem? (i := 210) (by decide +kernel)))) (by decide +kernel)
theorem wd_510 : Cond.methodLink RX10 107 yX2_isLiving ∈ dm_W := dm_in (List.mem_append_right _ (dt_2 (List.mem_of_getElem? (i := 211) (by decide +kernel)))) (by decide +kernel)
theorem wd_511 : Cond.methodLink RX10 103 yX10_makeJoin ∈ dm_W := dm_in (List.mem_append_right _ (dt_2 (List.mem_of_getElem? (i := 212) (by decide +kernel)))) (by decide +kernel)
theorem wd_513 : Cond.instanceMethod yX10_makeJoin ∈ dm_W := dm_in (List.mem_append_right _ (dt_2 (List.mem_of_getElem? (i := 214) (by decide +kernel)))) (by decide +kernel)
theorem wd_514 : Cond.code yX10_makeJoin cX10_makeJoin 6 (some .int) ∈ dm_W := dm_in (List.mem_append_right _ (dt_2 (List.mem_of_getElem? (i := 215) (by decide +kernel)))) (by decide +kernel)
theorem wd_515 : Cond.methodLink RX10 263 yX3_higher ∈ dm_W := dm_in (List.mem_append_right _ (dt_2 (List.mem_of_getElem? (i := 216) (by decide +kernel)))) (by decide +kernel)
theorem wd_516 : Cond.static yX3_higher ∈ dm_W := dm_in (List.mem_append_right _ (dt_2 (List.mem_of_getElem? (i := 217) (by decide +kernel)))) (by decide +kernel)
theorem wd_517 : Cond.code yX3_higher cX3_higher 4 (some .int) ∈ dm_W := dm_in (List.mem_append_right _ (dt_2 (List.mem_of_getElem? (i := 218) (by decide +kernel)))) (by decide +kernel)
theorem wd_518 : Cond.methodLink RX3 50 yX3_higherFrom ∈ dm_W := dm_in (List.mem_append_right _ (dt_2 (List.mem_of_getElem? (i := 219) (by decide +kernel)))) (by decide +kernel)
theorem wd_519 : Cond.static yX3_higherFrom ∈ dm_W := dm_in (List.mem_append_right _ (dt_2 (List.mem_of_getElem? (i := 220) (by decide +kernel)))) (by decide +kernel)
theorem wd_520 : Cond.code yX3_higherFrom cX3_higherFrom 9 none ∈ dm_W := dm_in (List.mem_append_right _ (dt_2 (List.mem_of_getElem? (i := 221) (by decide +kernel)))) (by decide +kernel)
theorem wd_524 : Cond.code yX10_peek cX10_peek 4 (some .int) ∈ dm_W := dm_in (List.mem_append_right _ (dt_2 (List.mem_of_getElem? (i := 225) (by decide +kernel)))) (by decide +kernel)
theorem wd_525 : Cond.methodLink RX10 110 yX10_makePeek ∈ dm_W := dm_in (List.mem_append_right _ (dt_2 (List.mem_of_getElem? (i := 226) (by decide +kernel)))) (by decide +kernel)
theorem wd_527 : Cond.instanceMethod yX10_makePeek ∈ dm_W := dm_in (List.mem_append_right _ (dt_2 (List.mem_of_getElem? (i := 228) (by decide +kernel)))) (by decide +kernel)
theorem wd_528 : Cond.code yX10_makePeek cX10_makePeek 2 (some .int) ∈ dm_W := dm_in (List.mem_append_right _ (dt_2 (List.mem_of_getElem? (i := 229) (by decide +kernel)))) (by decide +kernel)
theorem wd_532 : Cond.code yX10_send cX10_send 4 (some .int) ∈ dm_W := dm_in (List.mem_append_right _ (dt_2 (List.mem_of_getElem? (i := 233) (by decide +kernel)))) (by decide +kernel)
theorem wd_536 : Cond.code yX10_take cX10_take 6 (some .int) ∈ dm_W := dm_in (List.mem_append_right _ (dt_2 (List.mem_of_getElem? (i := 237) (by decide +kernel)))) (by decide +kernel)
theorem wd_540 : Cond.code yX10_lose cX10_lose 2 (some .boolean) ∈ dm_W := dm_in (List.mem_append_right _ (dt_3 (List.mem_of_getElem? (i := 1) (by decide +kernel)))) (by decide +kernel)
theorem wd_541 : Cond.methodLink RX10 121 yX2_setState ∈ dm_W := dm_in (List.mem_append_right _ (dt_3 (List.mem_of_getElem? (i := 2) (by decide +kernel)))) (by decide +kernel)
theorem wd_545 : Cond.code yX10_home cX10_home 5 (some .int) ∈ dm_W := dm_in (List.mem_append_right _ (dt_3 (List.mem_of_getElem? (i := 6) (by decide +kernel)))) (by decide +kernel)
theorem wd_546 : Cond.methodLink RX10 125 yX2_isLost ∈ dm_W := dm_in (List.mem_append_right _ (dt_3 (List.mem_of_getElem? (i := 7) (by decide +kernel)))) (by decide +kernel)
theorem wd_547 : Cond.instanceMethod yX2_isLost ∈ dm_W := dm_in (List.mem_append_right _ (dt_3 (List.mem_of_getElem? (i := 8) (by decide +kernel)))) (by decide +kernel)
theorem wd_548 : Cond.selects RX2 yX2_isLost yX2_isLost ∈ dm_W := dm_in (List.mem_append_right _ (dt_3 (List.mem_of_getElem? (i := 9) (by decide +kernel)))) (by decide +kernel)
theorem wd_549 : Cond.code yX2_isLost cX2_isLost 2 (some .boolean) ∈ dm_W := dm_in (List.mem_append_right _ (dt_3 (List.mem_of_getElem? (i := 10) (by decide +kernel)))) (by decide +kernel)
theorem wd_550 : Cond.methodLink RX10 128 yX10_leads ∈ dm_W := dm_in (List.mem_append_right _ (dt_3 (List.mem_of_getElem? (i := 11) (by decide +kernel)))) (by decide +kernel)
theorem wd_552 : Cond.instanceMethod yX10_leads ∈ dm_W := dm_in (List.mem_append_right _ (dt_3 (List.mem_of_getElem? (i := 13) (by decide +kernel)))) (by decide +kernel)
theorem wd_553 : Cond.code yX10_leads cX10_leads 3 (some .boolean) ∈ dm_W := dm_in (List.mem_append_right _ (dt_3 (List.mem_of_getElem? (i := 14) (by decide +kernel)))) (by decide +kernel)
theorem wd_554 : Cond.methodLink RX10 256 yX7_above ∈ dm_W := dm_in (List.mem_append_right _ (dt_3 (List.mem_of_getElem? (i := 15) (by decide +kernel)))) (by decide +kernel)
theorem wd_555 : Cond.static yX7_above ∈ dm_W := dm_in (List.mem_append_right _ (dt_3 (List.mem_of_getElem? (i := 16) (by decide +kernel)))) (by decide +kernel)
theorem wd_556 : Cond.code yX7_above cX7_above 3 (some .boolean) ∈ dm_W := dm_in (List.mem_append_right _ (dt_3 (List.mem_of_getElem? (i := 17) (by decide +kernel)))) (by decide +kernel)
theorem wd_557 : Cond.methodLink RX7 9 yX7_aboveFrom ∈ dm_W := dm_in (List.mem_append_right _ (dt_3 (List.mem_of_getElem? (i := 18) (by decide +kernel)))) (by decide +kernel)
theorem wd_558 : Cond.static yX7_aboveFrom ∈ dm_W := dm_in (List.mem_append_right _ (dt_3 (List.mem_of_getElem? (i := 19) (by decide +kernel)))) (by decide +kernel)
theorem wd_559 : Cond.code yX7_aboveFrom cX7_aboveFrom 6 (some .boolean) ∈ dm_W := dm_in (List.mem_append_right _ (dt_3 (List.mem_of_getElem? (i := 20) (by decide +kernel)))) (by decide +kernel)
theorem wd_560 : Cond.methodLink RX7 15 yX8_numberOf ∈ dm_W := dm_in (List.mem_append_right _ (dt_3 (List.mem_of_getElem? (i := 21) (by decide +kernel)))) (by decide +kernel)
theorem wd_561 : Cond.methodLink RX7 21 yX8_isNumber ∈ dm_W := dm_in (List.mem_append_right _ (dt_3 (List.mem_of_getElem? (i := 22) (by decide +kernel)))) (by decide +kernel)
theorem wd_562 : Cond.methodLink RX7 25 yX8_leftOf ∈ dm_W := dm_in (List.mem_append_right _ (dt_3 (List.mem_of_getElem? (i := 23) (by decide +kernel)))) (by decide +kernel)
theorem wd_563 : Cond.methodLink RX7 28 yX8_rightOf ∈ dm_W := dm_in (List.mem_append_right _ (dt_3 (List.mem_of_getElem? (i := 24) (by decide +kernel)))) (by decide +kernel)
theorem wd_567 : Cond.code yX10_undo cX10_undo 1 (some .boolean) ∈ dm_W := dm_in (List.mem_append_right _ (dt_3 (List.mem_of_getElem? (i := 28) (by decide +kernel)))) (by decide +kernel)
theorem wd_568 : Cond.methodLink RX10 131 yX0_takeBack ∈ dm_W := dm_in (List.mem_append_right _ (dt_3 (List.mem_of_getElem? (i := 29) (by decide +kernel)))) (by decide +kernel)
theorem wd_569 : Cond.instanceMethod yX0_takeBack ∈ dm_W := dm_in (List.mem_append_right _ (dt_3 (List.mem_of_getElem? (i := 30) (by decide +kernel)))) (by decide +kernel)
theorem wd_570 : Cond.selects RX0 yX0_takeBack yX0_takeBack ∈ dm_W := dm_in (List.mem_append_right _ (dt_3 (List.mem_of_getElem? (i := 31) (by decide +kernel)))) (by decide +kernel)
theorem wd_571 : Cond.code yX0_takeBack cX0_takeBack 2 (some .boolean) ∈ dm_W := dm_in (List.mem_append_right _ (dt_3 (List.mem_of_getElem? (i := 32) (by decide +kernel)))) (by decide +kernel)
theorem wd_572 : Cond.methodLink RX0 46 yX4_at ∈ dm_W := dm_in (List.mem_append_right _ (dt_3 (List.mem_of_getElem? (i := 33) (by decide +kernel)))) (by decide +kernel)
theorem wd_573 : Cond.methodLink RX0 49 yX2_cut ∈ dm_W := dm_in (List.mem_append_right _ (dt_3 (List.mem_of_getElem? (i := 34) (by decide +kernel)))) (by decide +kernel)
theorem wd_574 : Cond.methodLink RX0 52 yX2_setState ∈ dm_W := dm_in (List.mem_append_right _ (dt_3 (List.mem_of_getElem? (i := 35) (by decide +kernel)))) (by decide +kernel)
theorem wd_576 : Cond.instanceMethod yX10_relation ∈ dm_W := dm_in (List.mem_append_right _ (dt_3 (List.mem_of_getElem? (i := 37) (by decide +kernel)))) (by decide +kernel)
theorem wd_577 : Cond.selects RX10 yX10_relation yX10_relation ∈ dm_W := dm_in (List.mem_append_right _ (dt_3 (List.mem_of_getElem? (i := 38) (by decide +kernel)))) (by decide +kernel)
theorem wd_578 : Cond.code yX10_relation cX10_relation 5 (some .int) ∈ dm_W := dm_in (List.mem_append_right _ (dt_3 (List.mem_of_getElem? (i := 39) (by decide +kernel)))) (by decide +kernel)
theorem wd_579 : Cond.methodLink RX10 135 yX2_has ∈ dm_W := dm_in (List.mem_append_right _ (dt_3 (List.mem_of_getElem? (i := 40) (by decide +kernel)))) (by decide +kernel)
theorem wd_583 : Cond.code yX10_unseen cX10_unseen 3 (some .int) ∈ dm_W := dm_in (List.mem_append_right _ (dt_3 (List.mem_of_getElem? (i := 44) (by decide +kernel)))) (by decide +kernel)
theorem wd_584 : Cond.methodLink RX10 138 yX5_missing ∈ dm_W := dm_in (List.mem_append_right _ (dt_3 (List.mem_of_getElem? (i := 45) (by decide +kernel)))) (by decide +kernel)
theorem wd_585 : Cond.instanceMethod yX5_missing ∈ dm_W := dm_in (List.mem_append_right _ (dt_3 (List.mem_of_getElem? (i := 46) (by decide +kernel)))) (by decide +kernel)
theorem wd_586 : Cond.selects RX5 yX5_missing yX5_missing ∈ dm_W := dm_in (List.mem_append_right _ (dt_3 (List.mem_of_getElem? (i := 47) (by decide +kernel)))) (by decide +kernel)
theorem wd_587 : Cond.code yX5_missing cX5_missing 5 (some .int) ∈ dm_W := dm_in (List.mem_append_right _ (dt_3 (List.mem_of_getElem? (i := 48) (by decide +kernel)))) (by decide +kernel)
theorem wd_588 : Cond.methodLink RX5 23 yX5_trace ∈ dm_W := dm_in (List.mem_append_right _ (dt_3 (List.mem_of_getElem? (i := 49) (by decide +kernel)))) (by decide +kernel)
theorem wd_589 : Cond.static yX5_trace ∈ dm_W := dm_in (List.mem_append_right _ (dt_3 (List.mem_of_getElem? (i := 50) (by decide +kernel)))) (by decide +kernel)
theorem wd_590 : Cond.code yX5_trace cX5_trace 5 (some .boolean) ∈ dm_W := dm_in (List.mem_append_right _ (dt_3 (List.mem_of_getElem? (i := 51) (by decide +kernel)))) (by decide +kernel)
theorem wd_591 : Cond.methodLink RX5 31 yX2_size ∈ dm_W := dm_in (List.mem_append_right _ (dt_3 (List.mem_of_getElem? (i := 52) (by decide +kernel)))) (by decide +kernel)
theorem wd_592 : Cond.methodLink RX5 41 yX4_put ∈ dm_W := dm_in (List.mem_append_right _ (dt_3 (List.mem_of_getElem? (i := 53) (by decide +kernel)))) (by decide +kernel)
theorem wd_593 : Cond.methodLink RX5 37 yX4_at ∈ dm_W := dm_in (List.mem_append_right _ (dt_3 (List.mem_of_getElem? (i := 54) (by decide +kernel)))) (by decide +kernel)
theorem wd_594 : Cond.methodLink RX5 48 yX2_firstOf ∈ dm_W := dm_in (List.mem_append_right _ (dt_3 (List.mem_of_getElem? (i := 55) (by decide +kernel)))) (by decide +kernel)
theorem wd_595 : Cond.instanceMethod yX2_firstOf ∈ dm_W := dm_in (List.mem_append_right _ (dt_3 (List.mem_of_getElem? (i := 56) (by decide +kernel)))) (by decide +kernel)
theorem wd_596 : Cond.selects RX2 yX2_firstOf yX2_firstOf ∈ dm_W := dm_in (List.mem_append_right _ (dt_3 (List.mem_of_getElem? (i := 57) (by decide +kernel)))) (by decide +kernel)
theorem wd_597 : Cond.code yX2_firstOf cX2_firstOf 2 (some .int) ∈ dm_W := dm_in (List.mem_append_right _ (dt_3 (List.mem_of_getElem? (i := 58) (by decide +kernel)))) (by decide +kernel)
theorem wd_598 : Cond.methodLink RX5 51 yX2_secondOf ∈ dm_W := dm_in (List.mem_append_right _ (dt_3 (List.mem_of_getElem? (i := 59) (by decide +kernel)))) (by decide +kernel)
theorem wd_599 : Cond.instanceMethod yX2_secondOf ∈ dm_W := dm_in (List.mem_append_right _ (dt_3 (List.mem_of_getElem? (i := 60) (by decide +kernel)))) (by decide +kernel)
theorem wd_600 : Cond.selects RX2 yX2_secondOf yX2_secondOf ∈ dm_W := dm_in (List.mem_append_right _ (dt_3 (List.mem_of_getElem? (i := 61) (by decide +kernel)))) (by decide +kernel)
theorem wd_601 : Cond.code yX2_secondOf cX2_secondOf 2 (some .int) ∈ dm_W := dm_in (List.mem_append_right _ (dt_3 (List.mem_of_getElem? (i := 62) (by decide +kernel)))) (by decide +kernel)
theorem wd_602 : Cond.methodLink RX5 45 yX2_howOf ∈ dm_W := dm_in (List.mem_append_right _ (dt_3 (List.mem_of_getElem? (i := 63) (by decide +kernel)))) (by decide +kernel)
theorem wd_603 : Cond.instanceMethod yX2_howOf ∈ dm_W := dm_in (List.mem_append_right _ (dt_3 (List.mem_of_getElem? (i := 64) (by decide +kernel)))) (by decide +kernel)
theorem wd_604 : Cond.selects RX2 yX2_howOf yX2_howOf ∈ dm_W := dm_in (List.mem_append_right _ (dt_3 (List.mem_of_getElem? (i := 65) (by decide +kernel)))) (by decide +kernel)
theorem wd_605 : Cond.code yX2_howOf cX2_howOf 2 (some .int) ∈ dm_W := dm_in (List.mem_append_right _ (dt_3 (List.mem_of_getElem? (i := 66) (by decide +kernel)))) (by decide +kernel)
theorem wd_606 : Cond.methodLink RX5 27 yX5_eventsIn ∈ dm_W := dm_in (List.mem_append_right _ (dt_3 (List.mem_of_getElem? (i := 67) (by decide +kernel)))) (by decide +kernel)
theorem wd_607 : Cond.static yX5_eventsIn ∈ dm_W := dm_in (List.mem_append_right _ (dt_3 (List.mem_of_getElem? (i := 68) (by decide +kernel)))) (by decide +kernel)
theorem wd_608 : Cond.code yX5_eventsIn cX5_eventsIn 4 (some .int) ∈ dm_W := dm_in (List.mem_append_right _ (dt_3 (List.mem_of_getElem? (i := 69) (by decide +kernel)))) (by decide +kernel)
theorem wd_612 : Cond.code yX10_meets cX10_meets 3 (some .boolean) ∈ dm_W := dm_in (List.mem_append_right _ (dt_3 (List.mem_of_getElem? (i := 73) (by decide +kernel)))) (by decide +kernel)
theorem wd_613 : Cond.methodLink RX10 142 yX7_overlap ∈ dm_W := dm_in (List.mem_append_right _ (dt_3 (List.mem_of_getElem? (i := 74) (by decide +kernel)))) (by decide +kernel)
theorem wd_614 : Cond.static yX7_overlap ∈ dm_W := dm_in (List.mem_append_right _ (dt_3 (List.mem_of_getElem? (i := 75) (by decide +kernel)))) (by decide +kernel)
theorem wd_615 : Cond.code yX7_overlap cX7_overlap 3 (some .boolean) ∈ dm_W := dm_in (List.mem_append_right _ (dt_3 (List.mem_of_getElem? (i := 76) (by decide +kernel)))) (by decide +kernel)
theorem wd_616 : Cond.methodLink RX7 39 yX7_overlapFrom ∈ dm_W := dm_in (List.mem_append_right _ (dt_3 (List.mem_of_getElem? (i := 77) (by decide +kernel)))) (by decide +kernel)
theorem wd_617 : Cond.static yX7_overlapFrom ∈ dm_W := dm_in (List.mem_append_right _ (dt_3 (List.mem_of_getElem? (i := 78) (by decide +kernel)))) (by decide +kernel)
theorem wd_618 : Cond.code yX7_overlapFrom cX7_overlapFrom 4 (some .boolean) ∈ dm_W := dm_in (List.mem_append_right _ (dt_3 (List.mem_of_getElem? (i := 79) (by decide +kernel)))) (by decide +kernel)
theorem wd_619 : Cond.methodLink RX7 43 yX8_isJust ∈ dm_W := dm_in (List.mem_append_right _ (dt_3 (List.mem_of_getElem? (i := 80) (by decide +kernel)))) (by decide +kernel)
theorem wd_623 : Cond.code yX10_stamp cX10_stamp 3 (some .int) ∈ dm_W := dm_in (List.mem_append_right _ (dt_3 (List.mem_of_getElem? (i := 84) (by decide +kernel)))) (by decide +kernel)
theorem wd_624 : Cond.methodLink RX10 165 yX8_nodesOf ∈ dm_W := dm_in (List.mem_append_right _ (dt_3 (List.mem_of_getElem? (i := 85) (by decide +kernel)))) (by decide +kernel)
theorem wd_625 : Cond.methodLink RX10 168 yX2_howOf ∈ dm_W := dm_in (List.mem_append_right _ (dt_3 (List.mem_of_getElem? (i := 86) (by decide +kernel)))) (by decide +kernel)
theorem wd_626 : Cond.methodLink RX10 171 yX2_firstOf ∈ dm_W := dm_in (List.mem_append_right _ (dt_3 (List.mem_of_getElem? (i := 87) (by decide +kernel)))) (by decide +kernel)
theorem wd_627 : Cond.methodLink RX10 174 yX2_secondOf ∈ dm_W := dm_in (List.mem_append_right _ (dt_3 (List.mem_of_getElem? (i := 88) (by decide +kernel)))) (by decide +kernel)
theorem wd_628 : Cond.methodLink RX10 177 yX10_draftOf ∈ dm_W := dm_in (List.mem_append_right _ (dt_3 (List.mem_of_getElem? (i := 89) (by decide +kernel)))) (by decide +kernel)
theorem wd_630 : Cond.instanceMethod yX10_draftOf ∈ dm_W := dm_in (List.mem_append_right _ (dt_3 (List.mem_of_getElem? (i := 91) (by decide +kernel)))) (by decide +kernel)
theorem wd_631 : Cond.code yX10_draftOf cX10_draftOf 2 (some .int) ∈ dm_W := dm_in (List.mem_append_right _ (dt_3 (List.mem_of_getElem? (i := 92) (by decide +kernel)))) (by decide +kernel)
theorem wd_633 : Cond.static yX9_shareFrom ∈ dm_W := dm_in (List.mem_append_right _ (dt_3 (List.mem_of_getElem? (i := 94) (by decide +kernel)))) (by decide +kernel)
theorem wd_634 : Cond.code yX9_shareFrom cX9_shareFrom 6 none ∈ dm_W := dm_in (List.mem_append_right _ (dt_3 (List.mem_of_getElem? (i := 95) (by decide +kernel)))) (by decide +kernel)
theorem wd_635 : Cond.methodLink RX9 9 yX8_isNumber ∈ dm_W := dm_in (List.mem_append_right _ (dt_3 (List.mem_of_getElem? (i := 96) (by decide +kernel)))) (by decide +kernel)
theorem wd_636 : Cond.methodLink RX9 15 yX8_numberOf ∈ dm_W := dm_in (List.mem_append_right _ (dt_3 (List.mem_of_getElem? (i := 97) (by decide +kernel)))) (by decide +kernel)
theorem wd_637 : Cond.methodLink RX9 19 yX1_push ∈ dm_W := dm_in (List.mem_append_right _ (dt_3 (List.mem_of_getElem? (i := 98) (by decide +kernel)))) (by decide +kernel)
theorem wd_638 : Cond.instanceMethod yX1_push ∈ dm_W := dm_in (List.mem_append_right _ (dt_3 (List.mem_of_getElem? (i := 99) (by decide +kernel)))) (by decide +kernel)
theorem wd_639 : Cond.selects RX1 yX1_push yX1_push ∈ dm_W := dm_in (List.mem_append_right _ (dt_3 (List.mem_of_getElem? (i := 100) (by decide +kernel)))) (by decide +kernel)
theorem wd_640 : Cond.code yX1_push cX1_push 5 none ∈ dm_W := dm_in (List.mem_append_right _ (dt_3 (List.mem_of_getElem? (i := 101) (by decide +kernel)))) (by decide +kernel)
theorem wd_641 : Cond.methodLink RX1 28 yX4_put ∈ dm_W := dm_in (List.mem_append_right _ (dt_3 (List.mem_of_getElem? (i := 102) (by decide +kernel)))) (by decide +kernel)
theorem wd_642 : Cond.methodLink RX9 25 yX8_leftOf ∈ dm_W := dm_in (List.mem_append_right _ (dt_3 (List.mem_of_getElem? (i := 103) (by decide +kernel)))) (by decide +kernel)
theorem wd_643 : Cond.methodLink RX9 28 yX8_isJust ∈ dm_W := dm_in (List.mem_append_right _ (dt_3 (List.mem_of_getElem? (i := 104) (by decide +kernel)))) (by decide +kernel)
theorem wd_644 : Cond.methodLink RX9 32 yX8_rightOf ∈ dm_W := dm_in (List.mem_append_right _ (dt_3 (List.mem_of_getElem? (i := 105) (by decide +kernel)))) (by decide +kernel)
theorem wd_645 : Cond.methodLink RX9 35 yX9_shareFrom ∈ dm_W := dm_in (List.mem_append_right _ (dt_3 (List.mem_of_getElem? (i := 106) (by decide +kernel)))) (by decide +kernel)
theorem wd_647 : Cond.static yX9_heightFrom ∈ dm_W := dm_in (List.mem_append_right _ (dt_3 (List.mem_of_getElem? (i := 108) (by decide +kernel)))) (by decide +kernel)
theorem wd_648 : Cond.code yX9_heightFrom cX9_heightFrom 7 none ∈ dm_W := dm_in (List.mem_append_right _ (dt_3 (List.mem_of_getElem? (i := 109) (by decide +kernel)))) (by decide +kernel)
theorem wd_649 : Cond.methodLink RX9 41 yX9_pushNumber ∈ dm_W := dm_in (List.mem_append_right _ (dt_3 (List.mem_of_getElem? (i := 110) (by decide +kernel)))) (by decide +kernel)
theorem wd_650 : Cond.static yX9_pushNumber ∈ dm_W := dm_in (List.mem_append_right _ (dt_3 (List.mem_of_getElem? (i := 111) (by decide +kernel)))) (by decide +kernel)
theorem wd_651 : Cond.code yX9_pushNumber cX9_pushNumber 4 none ∈ dm_W := dm_in (List.mem_append_right _ (dt_3 (List.mem_of_getElem? (i := 112) (by decide +kernel)))) (by decide +kernel)
theorem wd_652 : Cond.methodLink RX9 45 yX9_heightFrom ∈ dm_W := dm_in (List.mem_append_right _ (dt_3 (List.mem_of_getElem? (i := 113) (by decide +kernel)))) (by decide +kernel)
theorem wd_653 : Cond.methodLink RX10 213 yX1_size ∈ dm_W := dm_in (List.mem_append_right _ (dt_3 (List.mem_of_getElem? (i := 114) (by decide +kernel)))) (by decide +kernel)
theorem wd_654 : Cond.instanceMethod yX1_size ∈ dm_W := dm_in (List.mem_append_right _ (dt_3 (List.mem_of_getElem? (i := 115) (by decide +kernel)))) (by decide +kernel)
theorem wd_655 : Cond.selects RX1 yX1_size yX1_size ∈ dm_W := dm_in (List.mem_append_right _ (dt_3 (List.mem_of_getElem? (i := 116) (by decide +kernel)))) (by decide +kernel)
theorem wd_656 : Cond.code yX1_size cX1_size 1 (some .int) ∈ dm_W := dm_in (List.mem_append_right _ (dt_3 (List.mem_of_getElem? (i := 117) (by decide +kernel)))) (by decide +kernel)
theorem wd_657 : Cond.methodLink RX10 180 yX8_numberOf ∈ dm_W := dm_in (List.mem_append_right _ (dt_3 (List.mem_of_getElem? (i := 118) (by decide +kernel)))) (by decide +kernel)
theorem wd_658 : Cond.methodLink RX10 183 yX8_greatestOf ∈ dm_W := dm_in (List.mem_append_right _ (dt_3 (List.mem_of_getElem? (i := 119) (by decide +kernel)))) (by decide +kernel)
theorem wd_659 : Cond.methodLink RX10 186 yX5_seen ∈ dm_W := dm_in (List.mem_append_right _ (dt_3 (List.mem_of_getElem? (i := 120) (by decide +kernel)))) (by decide +kernel)
theorem wd_660 : Cond.instanceMethod yX5_seen ∈ dm_W := dm_in (List.mem_append_right _ (dt_3 (List.mem_of_getElem? (i := 121) (by decide +kernel)))) (by decide +kernel)
theorem wd_661 : Cond.selects RX5 yX5_seen yX5_seen ∈ dm_W := dm_in (List.mem_append_right _ (dt_3 (List.mem_of_getElem? (i := 122) (by decide +kernel)))) (by decide +kernel)
theorem wd_662 : Cond.code yX5_seen cX5_seen 3 (some .int) ∈ dm_W := dm_in (List.mem_append_right _ (dt_3 (List.mem_of_getElem? (i := 123) (by decide +kernel)))) (by decide +kernel)
theorem wd_666 : Cond.code yX10_witness cX10_witness 8 (some .boolean) ∈ dm_W := dm_in (List.mem_append_right _ (dt_3 (List.mem_of_getElem? (i := 127) (by decide +kernel)))) (by decide +kernel)
theorem wd_667 : Cond.methodLink RX10 190 yX10_relation ∈ dm_W := dm_in (List.mem_append_right _ (dt_3 (List.mem_of_getElem? (i := 128) (by decide +kernel)))) (by decide +kernel)
theorem wd_668 : Cond.methodLink RX10 194 yX7_firstAbove ∈ dm_W := dm_in (List.mem_append_right _ (dt_3 (List.mem_of_getElem? (i := 129) (by decide +kernel)))) (by decide +kernel)
theorem wd_669 : Cond.static yX7_firstAbove ∈ dm_W := dm_in (List.mem_append_right _ (dt_3 (List.mem_of_getElem? (i := 130) (by decide +kernel)))) (by decide +kernel)
theorem wd_670 : Cond.code yX7_firstAbove cX7_firstAbove 3 (some .long) ∈ dm_W := dm_in (List.mem_append_right _ (dt_3 (List.mem_of_getElem? (i := 131) (by decide +kernel)))) (by decide +kernel)
theorem wd_671 : Cond.methodLink RX7 31 yX7_seek ∈ dm_W := dm_in (List.mem_append_right _ (dt_3 (List.mem_of_getElem? (i := 132) (by decide +kernel)))) (by decide +kernel)
theorem wd_672 : Cond.static yX7_seek ∈ dm_W := dm_in (List.mem_append_right _ (dt_3 (List.mem_of_getElem? (i := 133) (by decide +kernel)))) (by decide +kernel)
theorem wd_673 : Cond.code yX7_seek cX7_seek 12 (some .long) ∈ dm_W := dm_in (List.mem_append_right _ (dt_3 (List.mem_of_getElem? (i := 134) (by decide +kernel)))) (by decide +kernel)
theorem wd_674 : Cond.constantLong RX7 35 (-1) ∈ dm_W := dm_in (List.mem_append_right _ (dt_3 (List.mem_of_getElem? (i := 135) (by decide +kernel)))) (by decide +kernel)
theorem wd_675 : Cond.constantLong RX7 37 (2) ∈ dm_W := dm_in (List.mem_append_right _ (dt_3 (List.mem_of_getElem? (i := 136) (by decide +kernel)))) (by decide +kernel)
theorem wd_679 : Cond.code yX10_place cX10_place 1 (some .long) ∈ dm_W := dm_in (List.mem_append_right _ (dt_3 (List.mem_of_getElem? (i := 140) (by decide +kernel)))) (by decide +kernel)
theorem wd_683 : Cond.code yX10_digits cX10_digits 1 (some .int) ∈ dm_W := dm_in (List.mem_append_right _ (dt_3 (List.mem_of_getElem? (i := 144) (by decide +kernel)))) (by decide +kernel)
theorem wd_687 : Cond.code yX10_check cX10_check 9 (some .int) ∈ dm_W := dm_in (List.mem_append_right _ (dt_3 (List.mem_of_getElem? (i := 148) (by decide +kernel)))) (by decide +kernel)
theorem wd_688 : Cond.methodLink RX10 148 yX10_isPlace ∈ dm_W := dm_in (List.mem_append_right _ (dt_3 (List.mem_of_getElem? (i := 149) (by decide +kernel)))) (by decide +kernel)
theorem wd_689 : Cond.static yX10_isPlace ∈ dm_W := dm_in (List.mem_append_right _ (dt_3 (List.mem_of_getElem? (i := 150) (by decide +kernel)))) (by decide +kernel)
theorem wd_690 : Cond.code yX10_isPlace cX10_isPlace 3 (some .boolean) ∈ dm_W := dm_in (List.mem_append_right _ (dt_3 (List.mem_of_getElem? (i := 151) (by decide +kernel)))) (by decide +kernel)
theorem wd_691 : Cond.methodLink RX10 206 yX10_isAboveAt ∈ dm_W := dm_in (List.mem_append_right _ (dt_3 (List.mem_of_getElem? (i := 152) (by decide +kernel)))) (by decide +kernel)
theorem wd_693 : Cond.instanceMethod yX10_isAboveAt ∈ dm_W := dm_in (List.mem_append_right _ (dt_3 (List.mem_of_getElem? (i := 154) (by decide +kernel)))) (by decide +kernel)
theorem wd_694 : Cond.code yX10_isAboveAt cX10_isAboveAt 6 (some .boolean) ∈ dm_W := dm_in (List.mem_append_right _ (dt_3 (List.mem_of_getElem? (i := 155) (by decide +kernel)))) (by decide +kernel)
theorem wd_695 : Cond.methodLink RX10 159 yX8_numberAt ∈ dm_W := dm_in (List.mem_append_right _ (dt_3 (List.mem_of_getElem? (i := 156) (by decide +kernel)))) (by decide +kernel)
theorem wd_696 : Cond.instanceMethod yX8_numberAt ∈ dm_W := dm_in (List.mem_append_right _ (dt_3 (List.mem_of_getElem? (i := 157) (by decide +kernel)))) (by decide +kernel)
theorem wd_697 : Cond.selects RX8 yX8_numberAt yX8_numberAt ∈ dm_W := dm_in (List.mem_append_right _ (dt_3 (List.mem_of_getElem? (i := 158) (by decide +kernel)))) (by decide +kernel)
theorem wd_698 : Cond.code yX8_numberAt cX8_numberAt 9 (some .int) ∈ dm_W := dm_in (List.mem_append_right _ (dt_3 (List.mem_of_getElem? (i := 159) (by decide +kernel)))) (by decide +kernel)
theorem wd_702 : Cond.code yX10_pack cX10_pack 2 (some .int) ∈ dm_W := dm_in (List.mem_append_right _ (dt_3 (List.mem_of_getElem? (i := 163) (by decide +kernel)))) (by decide +kernel)
theorem wd_703 : Cond.methodLink RX10 210 yX1_copyFrom ∈ dm_W := dm_in (List.mem_append_right _ (dt_3 (List.mem_of_getElem? (i := 164) (by decide +kernel)))) (by decide +kernel)
theorem wd_704 : Cond.instanceMethod yX1_copyFrom ∈ dm_W := dm_in (List.mem_append_right _ (dt_3 (List.mem_of_getElem? (i := 165) (by decide +kernel)))) (by decide +kernel)
theorem wd_705 : Cond.selects RX1 yX1_copyFrom yX1_copyFrom ∈ dm_W := dm_in (List.mem_append_right _ (dt_3 (List.mem_of_getElem? (i := 166) (by decide +kernel)))) (by decide +kernel)
theorem wd_706 : Cond.code yX1_copyFrom cX1_copyFrom 2 none ∈ dm_W := dm_in (List.mem_append_right _ (dt_3 (List.mem_of_getElem? (i := 167) (by decide +kernel)))) (by decide +kernel)
theorem wd_707 : Cond.methodLink RX1 32 yX4_copyFrom ∈ dm_W := dm_in (List.mem_append_right _ (dt_3 (List.mem_of_getElem? (i := 168) (by decide +kernel)))) (by decide +kernel)
theorem wd_708 : Cond.instanceMethod yX4_copyFrom ∈ dm_W := dm_in (List.mem_append_right _ (dt_3 (List.mem_of_getElem? (i := 169) (by decide +kernel)))) (by decide +kernel)
theorem wd_709 : Cond.selects RX4 yX4_copyFrom yX4_copyFrom ∈ dm_W := dm_in (List.mem_append_right _ (dt_3 (List.mem_of_getElem? (i := 170) (by decide +kernel)))) (by decide +kernel)
theorem wd_710 : Cond.code yX4_copyFrom cX4_copyFrom 4 none ∈ dm_W := dm_in (List.mem_append_right _ (dt_3 (List.mem_of_getElem? (i := 171) (by decide +kernel)))) (by decide +kernel)
theorem wd_711 : Cond.methodLink RX4 30 arraycopyName ∈ dm_W := dm_in (List.mem_append_right _ (dt_3 (List.mem_of_getElem? (i := 172) (by decide +kernel)))) (by decide +kernel)
theorem wd_715 : Cond.code yX10_bit cX10_bit 2 (some .int) ∈ dm_W := dm_in (List.mem_append_right _ (dt_3 (List.mem_of_getElem? (i := 176) (by decide +kernel)))) (by decide +kernel)
theorem wd_716 : Cond.methodLink RX10 214 yX1_bitAt ∈ dm_W := dm_in (List.mem_append_right _ (dt_3 (List.mem_of_getElem? (i := 177) (by decide +kernel)))) (by decide +kernel)
theorem wd_717 : Cond.instanceMethod yX1_bitAt ∈ dm_W := dm_in (List.mem_append_right _ (dt_3 (List.mem_of_getElem? (i := 178) (by decide +kernel)))) (by decide +kernel)
theorem wd_718 : Cond.selects RX1 yX1_bitAt yX1_bitAt ∈ dm_W := dm_in (List.mem_append_right _ (dt_3 (List.mem_of_getElem? (i := 179) (by decide +kernel)))) (by decide +kernel)
theorem wd_719 : Cond.code yX1_bitAt cX1_bitAt 2 (some .int) ∈ dm_W := dm_in (List.mem_append_right _ (dt_3 (List.mem_of_getElem? (i := 180) (by decide +kernel)))) (by decide +kernel)
theorem wd_720 : Cond.methodLink RX1 24 yX4_at ∈ dm_W := dm_in (List.mem_append_right _ (dt_3 (List.mem_of_getElem? (i := 181) (by decide +kernel)))) (by decide +kernel)
theorem wd_724 : Cond.code yX10_add cX10_add 4 (some .int) ∈ dm_W := dm_in (List.mem_append_right _ (dt_3 (List.mem_of_getElem? (i := 185) (by decide +kernel)))) (by decide +kernel)
theorem wd_725 : Cond.methodLink RX10 217 yX1_push ∈ dm_W := dm_in (List.mem_append_right _ (dt_3 (List.mem_of_getElem? (i := 186) (by decide +kernel)))) (by decide +kernel)
theorem wd_729 : Cond.code yX10_end cX10_end 2 (some .boolean) ∈ dm_W := dm_in (List.mem_append_right _ (dt_3 (List.mem_of_getElem? (i := 190) (by decide +kernel)))) (by decide +kernel)
theorem wd_733 : Cond.code yX10_read cX10_read 3 (some .int) ∈ dm_W := dm_in (List.mem_append_right _ (dt_3 (List.mem_of_getElem? (i := 194) (by decide +kernel)))) (by decide +kernel)
theorem wd_734 : Cond.methodLink RX10 224 yX6_scan ∈ dm_W := dm_in (List.mem_append_right _ (dt_3 (List.mem_of_getElem? (i := 195) (by decide +kernel)))) (by decide +kernel)
theorem wd_735 : Cond.instanceMethod yX6_scan ∈ dm_W := dm_in (List.mem_append_right _ (dt_3 (List.mem_of_getElem? (i := 196) (by decide +kernel)))) (by decide +kernel)
theorem wd_736 : Cond.selects RX6 yX6_scan yX6_scan ∈ dm_W := dm_in (List.mem_append_right _ (dt_3 (List.mem_of_getElem? (i := 197) (by decide +kernel)))) (by decide +kernel)
theorem wd_737 : Cond.code yX6_scan cX6_scan 3 (some .int) ∈ dm_W := dm_in (List.mem_append_right _ (dt_3 (List.mem_of_getElem? (i := 198) (by decide +kernel)))) (by decide +kernel)
theorem wd_738 : Cond.methodLink RX6 22 yX8_top ∈ dm_W := dm_in (List.mem_append_right _ (dt_3 (List.mem_of_getElem? (i := 199) (by decide +kernel)))) (by decide +kernel)
theorem wd_739 : Cond.methodLink RX6 28 yX6_shareFrom ∈ dm_W := dm_in (List.mem_append_right _ (dt_3 (List.mem_of_getElem? (i := 200) (by decide +kernel)))) (by decide +kernel)
theorem wd_740 : Cond.static yX6_shareFrom ∈ dm_W := dm_in (List.mem_append_right _ (dt_3 (List.mem_of_getElem? (i := 201) (by decide +kernel)))) (by decide +kernel)
theorem wd_741 : Cond.code yX6_shareFrom cX6_shareFrom 8 (some .int) ∈ dm_W := dm_in (List.mem_append_right _ (dt_3 (List.mem_of_getElem? (i := 202) (by decide +kernel)))) (by decide +kernel)
theorem wd_742 : Cond.methodLink RX6 41 yX6_blame ∈ dm_W := dm_in (List.mem_append_right _ (dt_3 (List.mem_of_getElem? (i := 203) (by decide +kernel)))) (by decide +kernel)
theorem wd_744 : Cond.instanceMethod yX6_blame ∈ dm_W := dm_in (List.mem_append_right _ (dt_3 (List.mem_of_getElem? (i := 205) (by decide +kernel)))) (by decide +kernel)
theorem wd_745 : Cond.code yX6_blame cX6_blame 2 none ∈ dm_W := dm_in (List.mem_append_right _ (dt_3 (List.mem_of_getElem? (i := 206) (by decide +kernel)))) (by decide +kernel)
theorem wd_746 : Cond.methodLink RX6 45 yX6_isFaulty ∈ dm_W := dm_in (List.mem_append_right _ (dt_3 (List.mem_of_getElem? (i := 207) (by decide +kernel)))) (by decide +kernel)
theorem wd_748 : Cond.instanceMethod yX6_isFaulty ∈ dm_W := dm_in (List.mem_append_right _ (dt_3 (List.mem_of_getElem? (i := 209) (by decide +kernel)))) (by decide +kernel)
theorem wd_749 : Cond.code yX6_isFaulty cX6_isFaulty 1 (some .boolean) ∈ dm_W := dm_in (List.mem_append_right _ (dt_3 (List.mem_of_getElem? (i := 210) (by decide +kernel)))) (by decide +kernel)
theorem wd_750 : Cond.methodLink RX6 56 yX6_twoBits ∈ dm_W := dm_in (List.mem_append_right _ (dt_3 (List.mem_of_getElem? (i := 211) (by decide +kernel)))) (by decide +kernel)
theorem wd_752 : Cond.instanceMethod yX6_twoBits ∈ dm_W := dm_in (List.mem_append_right _ (dt_3 (List.mem_of_getElem? (i := 213) (by decide +kernel)))) (by decide +kernel)
theorem wd_753 : Cond.code yX6_twoBits cX6_twoBits 3 (some .int) ∈ dm_W := dm_in (List.mem_append_right _ (dt_3 (List.mem_of_getElem? (i := 214) (by decide +kernel)))) (by decide +kernel)
theorem wd_754 : Cond.methodLink RX6 53 yX6_oneBit ∈ dm_W := dm_in (List.mem_append_right _ (dt_3 (List.mem_of_getElem? (i := 215) (by decide +kernel)))) (by decide +kernel)
theorem wd_756 : Cond.instanceMethod yX6_oneBit ∈ dm_W := dm_in (List.mem_append_right _ (dt_3 (List.mem_of_getElem? (i := 217) (by decide +kernel)))) (by decide +kernel)
theorem wd_757 : Cond.code yX6_oneBit cX6_oneBit 1 (some .int) ∈ dm_W := dm_in (List.mem_append_right _ (dt_3 (List.mem_of_getElem? (i := 218) (by decide +kernel)))) (by decide +kernel)
theorem wd_758 : Cond.methodLink RX6 36 yX1_size ∈ dm_W := dm_in (List.mem_append_right _ (dt_3 (List.mem_of_getElem? (i := 219) (by decide +kernel)))) (by decide +kernel)
theorem wd_759 : Cond.methodLink RX6 49 yX1_bitAt ∈ dm_W := dm_in (List.mem_append_right _ (dt_3 (List.mem_of_getElem? (i := 220) (by decide +kernel)))) (by decide +kernel)
theorem wd_760 : Cond.methodLink RX6 32 yX6_heightFrom ∈ dm_W := dm_in (List.mem_append_right _ (dt_3 (List.mem_of_getElem? (i := 221) (by decide +kernel)))) (by decide +kernel)
theorem wd_761 : Cond.static yX6_heightFrom ∈ dm_W := dm_in (List.mem_append_right _ (dt_3 (List.mem_of_getElem? (i := 222) (by decide +kernel)))) (by decide +kernel)
theorem wd_762 : Cond.code yX6_heightFrom cX6_heightFrom 9 none ∈ dm_W := dm_in (List.mem_append_right _ (dt_3 (List.mem_of_getElem? (i := 223) (by decide +kernel)))) (by decide +kernel)
theorem wd_763 : Cond.methodLink RX6 59 yX6_numberHere ∈ dm_W := dm_in (List.mem_append_right _ (dt_3 (List.mem_of_getElem? (i := 224) (by decide +kernel)))) (by decide +kernel)
theorem wd_765 : Cond.instanceMethod yX6_numberHere ∈ dm_W := dm_in (List.mem_append_right _ (dt_3 (List.mem_of_getElem? (i := 226) (by decide +kernel)))) (by decide +kernel)
theorem wd_766 : Cond.code yX6_numberHere cX6_numberHere 6 (some .int) ∈ dm_W := dm_in (List.mem_append_right _ (dt_3 (List.mem_of_getElem? (i := 227) (by decide +kernel)))) (by decide +kernel)
theorem wd_767 : Cond.methodLink RX6 62 yX8_grow ∈ dm_W := dm_in (List.mem_append_right _ (dt_3 (List.mem_of_getElem? (i := 228) (by decide +kernel)))) (by decide +kernel)
theorem wd_768 : Cond.methodLink RX6 65 yX8_turn ∈ dm_W := dm_in (List.mem_append_right _ (dt_3 (List.mem_of_getElem? (i := 229) (by decide +kernel)))) (by decide +kernel)
theorem wd_769 : Cond.methodLink RX6 68 yX6_isWellTold ∈ dm_W := dm_in (List.mem_append_right _ (dt_3 (List.mem_of_getElem? (i := 230) (by decide +kernel)))) (by decide +kernel)
theorem wd_770 : Cond.static yX6_isWellTold ∈ dm_W := dm_in (List.mem_append_right _ (dt_3 (List.mem_of_getElem? (i := 231) (by decide +kernel)))) (by decide +kernel)
theorem wd_771 : Cond.code yX6_isWellTold cX6_isWellTold 9 (some .boolean) ∈ dm_W := dm_in (List.mem_append_right _ (dt_3 (List.mem_of_getElem? (i := 232) (by decide +kernel)))) (by decide +kernel)
theorem wd_772 : Cond.methodLink RX6 72 yX8_leftOf ∈ dm_W := dm_in (List.mem_append_right _ (dt_3 (List.mem_of_getElem? (i := 233) (by decide +kernel)))) (by decide +kernel)
theorem wd_773 : Cond.methodLink RX6 75 yX8_rightOf ∈ dm_W := dm_in (List.mem_append_right _ (dt_3 (List.mem_of_getElem? (i := 234) (by decide +kernel)))) (by decide +kernel)
theorem wd_774 : Cond.methodLink RX6 78 yX8_isJust ∈ dm_W := dm_in (List.mem_append_right _ (dt_3 (List.mem_of_getElem? (i := 235) (by decide +kernel)))) (by decide +kernel)
theorem wd_775 : Cond.methodLink RX6 82 yX8_numberOf ∈ dm_W := dm_in (List.mem_append_right _ (dt_3 (List.mem_of_getElem? (i := 236) (by decide +kernel)))) (by decide +kernel)
theorem wd_776 : Cond.methodLink RX6 85 yX8_isNumber ∈ dm_W := dm_in (List.mem_append_right _ (dt_3 (List.mem_of_getElem? (i := 237) (by decide +kernel)))) (by decide +kernel)
theorem wd_777 : Cond.methodLink RX10 228 yX6_firstFault ∈ dm_W := dm_in (List.mem_append_right _ (dt_3 (List.mem_of_getElem? (i := 238) (by decide +kernel)))) (by decide +kernel)
theorem wd_778 : Cond.instanceMethod yX6_firstFault ∈ dm_W := dm_in (List.mem_append_right _ (dt_3 (List.mem_of_getElem? (i := 239) (by decide +kernel)))) (by decide +kernel)
theorem wd_779 : Cond.selects RX6 yX6_firstFault yX6_firstFault ∈ dm_W := dm_in (List.mem_append_right _ (dt_4 (List.mem_of_getElem? (i := 0) (by decide +kernel)))) (by decide +kernel)
theorem wd_780 : Cond.code yX6_firstFault cX6_firstFault 1 (some .int) ∈ dm_W := dm_in (List.mem_append_right _ (dt_4 (List.mem_of_getElem? (i := 1) (by decide +kernel)))) (by decide +kernel)
theorem wd_784 : Cond.code yX10_fault cX10_fault 1 (some .int) ∈ dm_W := dm_in (List.mem_append_right _ (dt_4 (List.mem_of_getElem? (i := 5) (by decide +kernel)))) (by decide +kernel)
theorem wd_788 : Cond.code yX10_image cX10_image 1 (some .boolean) ∈ dm_W := dm_in (List.mem_append_right _ (dt_4 (List.mem_of_getElem? (i := 9) (by decide +kernel)))) (by decide +kernel)
theorem wd_789 : Cond.methodLink RX10 234 yX2_copyFrom ∈ dm_W := dm_in (List.mem_append_right _ (dt_4 (List.mem_of_getElem? (i := 10) (by decide +kernel)))) (by decide +kernel)
theorem wd_790 : Cond.instanceMethod yX2_copyFrom ∈ dm_W := dm_in (List.mem_append_right _ (dt_4 (List.mem_of_getElem? (i := 11) (by decide +kernel)))) (by decide +kernel)
theorem wd_791 : Cond.selects RX2 yX2_copyFrom yX2_copyFrom ∈ dm_W := dm_in (List.mem_append_right _ (dt_4 (List.mem_of_getElem? (i := 12) (by decide +kernel)))) (by decide +kernel)
theorem wd_792 : Cond.code yX2_copyFrom cX2_copyFrom 2 none ∈ dm_W := dm_in (List.mem_append_right _ (dt_4 (List.mem_of_getElem? (i := 13) (by decide +kernel)))) (by decide +kernel)
theorem wd_793 : Cond.methodLink RX2 112 yX8_copyFrom ∈ dm_W := dm_in (List.mem_append_right _ (dt_4 (List.mem_of_getElem? (i := 14) (by decide +kernel)))) (by decide +kernel)
theorem wd_794 : Cond.instanceMethod yX8_copyFrom ∈ dm_W := dm_in (List.mem_append_right _ (dt_4 (List.mem_of_getElem? (i := 15) (by decide +kernel)))) (by decide +kernel)
theorem wd_795 : Cond.selects RX8 yX8_copyFrom yX8_copyFrom ∈ dm_W := dm_in (List.mem_append_right _ (dt_4 (List.mem_of_getElem? (i := 16) (by decide +kernel)))) (by decide +kernel)
theorem wd_796 : Cond.code yX8_copyFrom cX8_copyFrom 2 none ∈ dm_W := dm_in (List.mem_append_right _ (dt_4 (List.mem_of_getElem? (i := 17) (by decide +kernel)))) (by decide +kernel)
theorem wd_797 : Cond.methodLink RX8 72 yX4_copyFrom ∈ dm_W := dm_in (List.mem_append_right _ (dt_4 (List.mem_of_getElem? (i := 18) (by decide +kernel)))) (by decide +kernel)
theorem wd_798 : Cond.methodLink RX2 116 yX4_copyFrom ∈ dm_W := dm_in (List.mem_append_right _ (dt_4 (List.mem_of_getElem? (i := 19) (by decide +kernel)))) (by decide +kernel)
theorem wd_802 : Cond.code yX10_back cX10_back 1 (some .boolean) ∈ dm_W := dm_in (List.mem_append_right _ (dt_4 (List.mem_of_getElem? (i := 23) (by decide +kernel)))) (by decide +kernel)
theorem wd_806 : Cond.code yX10_count cX10_count 2 (some .int) ∈ dm_W := dm_in (List.mem_append_right _ (dt_4 (List.mem_of_getElem? (i := 27) (by decide +kernel)))) (by decide +kernel)
theorem wd_807 : Cond.methodLink RX10 240 yX2_owners ∈ dm_W := dm_in (List.mem_append_right _ (dt_4 (List.mem_of_getElem? (i := 28) (by decide +kernel)))) (by decide +kernel)
theorem wd_808 : Cond.instanceMethod yX2_owners ∈ dm_W := dm_in (List.mem_append_right _ (dt_4 (List.mem_of_getElem? (i := 29) (by decide +kernel)))) (by decide +kernel)
theorem wd_809 : Cond.selects RX2 yX2_owners yX2_owners ∈ dm_W := dm_in (List.mem_append_right _ (dt_4 (List.mem_of_getElem? (i := 30) (by decide +kernel)))) (by decide +kernel)
theorem wd_810 : Cond.code yX2_owners cX2_owners 3 (some .int) ∈ dm_W := dm_in (List.mem_append_right _ (dt_4 (List.mem_of_getElem? (i := 31) (by decide +kernel)))) (by decide +kernel)
theorem wd_811 : Cond.methodLink RX2 103 yX2_isOwner ∈ dm_W := dm_in (List.mem_append_right _ (dt_4 (List.mem_of_getElem? (i := 32) (by decide +kernel)))) (by decide +kernel)
theorem wd_812 : Cond.methodLink RX10 243 yX2_lostOnes ∈ dm_W := dm_in (List.mem_append_right _ (dt_4 (List.mem_of_getElem? (i := 33) (by decide +kernel)))) (by decide +kernel)
theorem wd_813 : Cond.instanceMethod yX2_lostOnes ∈ dm_W := dm_in (List.mem_append_right _ (dt_4 (List.mem_of_getElem? (i := 34) (by decide +kernel)))) (by decide +kernel)
theorem wd_814 : Cond.selects RX2 yX2_lostOnes yX2_lostOnes ∈ dm_W := dm_in (List.mem_append_right _ (dt_4 (List.mem_of_getElem? (i := 35) (by decide +kernel)))) (by decide +kernel)
theorem wd_815 : Cond.code yX2_lostOnes cX2_lostOnes 3 (some .int) ∈ dm_W := dm_in (List.mem_append_right _ (dt_4 (List.mem_of_getElem? (i := 36) (by decide +kernel)))) (by decide +kernel)
theorem wd_816 : Cond.methodLink RX2 106 yX2_isLost ∈ dm_W := dm_in (List.mem_append_right _ (dt_4 (List.mem_of_getElem? (i := 37) (by decide +kernel)))) (by decide +kernel)
theorem wd_817 : Cond.methodLink RX10 246 yX2_events ∈ dm_W := dm_in (List.mem_append_right _ (dt_4 (List.mem_of_getElem? (i := 38) (by decide +kernel)))) (by decide +kernel)
theorem wd_818 : Cond.instanceMethod yX2_events ∈ dm_W := dm_in (List.mem_append_right _ (dt_4 (List.mem_of_getElem? (i := 39) (by decide +kernel)))) (by decide +kernel)
theorem wd_819 : Cond.selects RX2 yX2_events yX2_events ∈ dm_W := dm_in (List.mem_append_right _ (dt_4 (List.mem_of_getElem? (i := 40) (by decide +kernel)))) (by decide +kernel)
theorem wd_820 : Cond.code yX2_events cX2_events 3 (some .int) ∈ dm_W := dm_in (List.mem_append_right _ (dt_4 (List.mem_of_getElem? (i := 41) (by decide +kernel)))) (by decide +kernel)
theorem wd_821 : Cond.methodLink RX2 109 yX2_howOf ∈ dm_W := dm_in (List.mem_append_right _ (dt_4 (List.mem_of_getElem? (i := 42) (by decide +kernel)))) (by decide +kernel)
theorem wd_822 : Cond.methodLink RX10 249 yX2_nodes ∈ dm_W := dm_in (List.mem_append_right _ (dt_4 (List.mem_of_getElem? (i := 43) (by decide +kernel)))) (by decide +kernel)
theorem wd_823 : Cond.methodLink RX10 252 yX0_size ∈ dm_W := dm_in (List.mem_append_right _ (dt_4 (List.mem_of_getElem? (i := 44) (by decide +kernel)))) (by decide +kernel)
theorem wd_824 : Cond.instanceMethod yX0_size ∈ dm_W := dm_in (List.mem_append_right _ (dt_4 (List.mem_of_getElem? (i := 45) (by decide +kernel)))) (by decide +kernel)
theorem wd_825 : Cond.selects RX0 yX0_size yX0_size ∈ dm_W := dm_in (List.mem_append_right _ (dt_4 (List.mem_of_getElem? (i := 46) (by decide +kernel)))) (by decide +kernel)
theorem wd_826 : Cond.code yX0_size cX0_size 1 (some .int) ∈ dm_W := dm_in (List.mem_append_right _ (dt_4 (List.mem_of_getElem? (i := 47) (by decide +kernel)))) (by decide +kernel)
theorem wd_834 : Cond.code yX10_height cX10_height 5 (some .int) ∈ dm_W := dm_in (List.mem_append_right _ (dt_4 (List.mem_of_getElem? (i := 55) (by decide +kernel)))) (by decide +kernel)
theorem wd_900 : Cond.arrayClass .byte ∈ dm_W := dm_in (List.mem_append_right _ (dt_4 (List.mem_of_getElem? (i := 121) (by decide +kernel)))) (by decide +kernel)
theorem wd_907 : Cond.code yX10_owns cX10_owns 5 (some .boolean) ∈ dm_W := dm_in (List.mem_append_right _ (dt_4 (List.mem_of_getElem? (i := 128) (by decide +kernel)))) (by decide +kernel)
theorem wd_912 : Cond.code yX11_init cX11_init 1 none ∈ dm_W := dm_in (List.mem_append_right _ (dt_4 (List.mem_of_getElem? (i := 133) (by decide +kernel)))) (by decide +kernel)
theorem wd_913 : Cond.methodLink RX11 1 Lib.objectInit ∈ dm_W := dm_in (List.mem_append_right _ (dt_4 (List.mem_of_getElem? (i := 134) (by decide +kernel)))) (by decide +kernel)
theorem wd_914 : Cond.methodLink RX11 162 yX11_seed ∈ dm_W := dm_in (List.mem_append_right _ (dt_4 (List.mem_of_getElem? (i := 135) (by decide +kernel)))) (by decide +kernel)
theorem wd_915 : Cond.instanceMethod yX11_seed ∈ dm_W := dm_in (List.mem_append_right _ (dt_4 (List.mem_of_getElem? (i := 136) (by decide +kernel)))) (by decide +kernel)
theorem wd_916 : Cond.selects RX11 yX11_seed yX11_seed ∈ dm_W := dm_in (List.mem_append_right _ (dt_4 (List.mem_of_getElem? (i := 137) (by decide +kernel)))) (by decide +kernel)
theorem wd_917 : Cond.code yX11_seed cX11_seed 1 none ∈ dm_W := dm_in (List.mem_append_right _ (dt_4 (List.mem_of_getElem? (i := 138) (by decide +kernel)))) (by decide +kernel)
theorem wd_918 : Cond.constantLong RX11 186 (1152921504606846976) ∈ dm_W := dm_in (List.mem_append_right _ (dt_4 (List.mem_of_getElem? (i := 139) (by decide +kernel)))) (by decide +kernel)
theorem wd_919 : Cond.methodLink RX11 188 yX11_make ∈ dm_W := dm_in (List.mem_append_right _ (dt_4 (List.mem_of_getElem? (i := 140) (by decide +kernel)))) (by decide +kernel)
theorem wd_921 : Cond.instanceMethod yX11_make ∈ dm_W := dm_in (List.mem_append_right _ (dt_4 (List.mem_of_getElem? (i := 142) (by decide +kernel)))) (by decide +kernel)
theorem wd_922 : Cond.code yX11_make cX11_make 6 (some .int) ∈ dm_W := dm_in (List.mem_append_right _ (dt_4 (List.mem_of_getElem? (i := 143) (by decide +kernel)))) (by decide +kernel)
theorem wd_923 : Cond.methodLink RX11 196 yX11_shareNodes ∈ dm_W := dm_in (List.mem_append_right _ (dt_4 (List.mem_of_getElem? (i := 144) (by decide +kernel)))) (by decide +kernel)
theorem wd_925 : Cond.instanceMethod yX11_shareNodes ∈ dm_W := dm_in (List.mem_append_right _ (dt_4 (List.mem_of_getElem? (i := 146) (by decide +kernel)))) (by decide +kernel)
theorem wd_926 : Cond.code yX11_shareNodes cX11_shareNodes 5 (some .int) ∈ dm_W := dm_in (List.mem_append_right _ (dt_4 (List.mem_of_getElem? (i := 147) (by decide +kernel)))) (by decide +kernel)
theorem wd_927 : Cond.methodLink RX11 226 yX11_part ∈ dm_W := dm_in (List.mem_append_right _ (dt_4 (List.mem_of_getElem? (i := 148) (by decide +kernel)))) (by decide +kernel)
theorem wd_929 : Cond.instanceMethod yX11_part ∈ dm_W := dm_in (List.mem_append_right _ (dt_4 (List.mem_of_getElem? (i := 150) (by decide +kernel)))) (by decide +kernel)
theorem wd_930 : Cond.code yX11_part cX11_part 8 (some .int) ∈ dm_W := dm_in (List.mem_append_right _ (dt_4 (List.mem_of_getElem? (i := 151) (by decide +kernel)))) (by decide +kernel)
theorem wd_931 : Cond.constantLong RX11 224 (2) ∈ dm_W := dm_in (List.mem_append_right _ (dt_4 (List.mem_of_getElem? (i := 152) (by decide +kernel)))) (by decide +kernel)
theorem wd_932 : Cond.methodLink RX11 200 yX11_heightNodes ∈ dm_W := dm_in (List.mem_append_right _ (dt_4 (List.mem_of_getElem? (i := 153) (by decide +kernel)))) (by decide +kernel)
theorem wd_934 : Cond.instanceMethod yX11_heightNodes ∈ dm_W := dm_in (List.mem_append_right _ (dt_4 (List.mem_of_getElem? (i := 155) (by decide +kernel)))) (by decide +kernel)
theorem wd_935 : Cond.code yX11_heightNodes cX11_heightNodes 5 (some .int) ∈ dm_W := dm_in (List.mem_append_right _ (dt_4 (List.mem_of_getElem? (i := 156) (by decide +kernel)))) (by decide +kernel)
theorem wd_936 : Cond.methodLink RX11 220 yX11_isFlat ∈ dm_W := dm_in (List.mem_append_right _ (dt_4 (List.mem_of_getElem? (i := 157) (by decide +kernel)))) (by decide +kernel)
theorem wd_938 : Cond.instanceMethod yX11_isFlat ∈ dm_W := dm_in (List.mem_append_right _ (dt_4 (List.mem_of_getElem? (i := 159) (by decide +kernel)))) (by decide +kernel)
theorem wd_939 : Cond.code yX11_isFlat cX11_isFlat 5 (some .boolean) ∈ dm_W := dm_in (List.mem_append_right _ (dt_4 (List.mem_of_getElem? (i := 160) (by decide +kernel)))) (by decide +kernel)
theorem wd_940 : Cond.methodLink RX11 203 yX11_at ∈ dm_W := dm_in (List.mem_append_right _ (dt_4 (List.mem_of_getElem? (i := 161) (by decide +kernel)))) (by decide +kernel)
theorem wd_942 : Cond.instanceMethod yX11_at ∈ dm_W := dm_in (List.mem_append_right _ (dt_4 (List.mem_of_getElem? (i := 163) (by decide +kernel)))) (by decide +kernel)
theorem wd_943 : Cond.code yX11_at cX11_at 6 (some .int) ∈ dm_W := dm_in (List.mem_append_right _ (dt_4 (List.mem_of_getElem? (i := 164) (by decide +kernel)))) (by decide +kernel)
theorem wd_944 : Cond.methodLink RX11 207 yX11_behind ∈ dm_W := dm_in (List.mem_append_right _ (dt_4 (List.mem_of_getElem? (i := 165) (by decide +kernel)))) (by decide +kernel)
theorem wd_946 : Cond.instanceMethod yX11_behind ∈ dm_W := dm_in (List.mem_append_right _ (dt_4 (List.mem_of_getElem? (i := 167) (by decide +kernel)))) (by decide +kernel)
theorem wd_947 : Cond.code yX11_behind cX11_behind 2 (some .long) ∈ dm_W := dm_in (List.mem_append_right _ (dt_4 (List.mem_of_getElem? (i := 168) (by decide +kernel)))) (by decide +kernel)
theorem wd_948 : Cond.fieldLink RX11 9 "SplitClocksModel" "steps" "[J" ∈ dm_W := dm_in (List.mem_append_right _ (dt_4 (List.mem_of_getElem? (i := 169) (by decide +kernel)))) (by decide +kernel)
theorem wd_949 : Cond.fieldLink RX11 13 "SplitClocksModel" "heights" "[I" ∈ dm_W := dm_in (List.mem_append_right _ (dt_4 (List.mem_of_getElem? (i := 170) (by decide +kernel)))) (by decide +kernel)
theorem wd_950 : Cond.fieldLink RX11 17 "SplitClocksModel" "froms" "[J" ∈ dm_W := dm_in (List.mem_append_right _ (dt_4 (List.mem_of_getElem? (i := 171) (by decide +kernel)))) (by decide +kernel)
theorem wd_951 : Cond.fieldLink RX11 20 "SplitClocksModel" "tos" "[J" ∈ dm_W := dm_in (List.mem_append_right _ (dt_4 (List.mem_of_getElem? (i := 172) (by decide +kernel)))) (by decide +kernel)
theorem wd_952 : Cond.fieldLink RX11 23 "SplitClocksModel" "stepFrom" "[I" ∈ dm_W := dm_in (List.mem_append_right _ (dt_4 (List.mem_of_getElem? (i := 173) (by decide +kernel)))) (by decide +kernel)
theorem wd_953 : Cond.fieldLink RX11 26 "SplitClocksModel" "spanFrom" "[I" ∈ dm_W := dm_in (List.mem_append_right _ (dt_4 (List.mem_of_getElem? (i := 174) (by decide +kernel)))) (by decide +kernel)
theorem wd_954 : Cond.fieldLink RX11 29 "SplitClocksModel" "lives" "[Z" ∈ dm_W := dm_in (List.mem_append_right _ (dt_4 (List.mem_of_getElem? (i := 175) (by decide +kernel)))) (by decide +kernel)
theorem wd_955 : Cond.fieldLink RX11 33 "SplitClocksModel" "lost" "[Z" ∈ dm_W := dm_in (List.mem_append_right _ (dt_4 (List.mem_of_getElem? (i := 176) (by decide +kernel)))) (by decide +kernel)
theorem wd_956 : Cond.fieldLink RX11 36 "SplitClocksModel" "strange" "[Z" ∈ dm_W := dm_in (List.mem_append_right _ (dt_4 (List.mem_of_getElem? (i := 177) (by decide +kernel)))) (by decide +kernel)
theorem wd_957 : Cond.fieldLink RX11 39 "SplitClocksModel" "how" "[B" ∈ dm_W := dm_in (List.mem_append_right _ (dt_4 (List.mem_of_getElem? (i := 178) (by decide +kernel)))) (by decide +kernel)
theorem wd_958 : Cond.fieldLink RX11 43 "SplitClocksModel" "first" "[S" ∈ dm_W := dm_in (List.mem_append_right _ (dt_4 (List.mem_of_getElem? (i := 179) (by decide +kernel)))) (by decide +kernel)
theorem wd_959 : Cond.fieldLink RX11 47 "SplitClocksModel" "second" "[S" ∈ dm_W := dm_in (List.mem_append_right _ (dt_4 (List.mem_of_getElem? (i := 180) (by decide +kernel)))) (by decide +kernel)
theorem wd_960 : Cond.fieldLink RX11 50 "SplitClocksModel" "ownNodes" "[I" ∈ dm_W := dm_in (List.mem_append_right _ (dt_4 (List.mem_of_getElem? (i := 181) (by decide +kernel)))) (by decide +kernel)
theorem wd_961 : Cond.fieldLink RX11 53 "SplitClocksModel" "knownNodes" "[I" ∈ dm_W := dm_in (List.mem_append_right _ (dt_4 (List.mem_of_getElem? (i := 182) (by decide +kernel)))) (by decide +kernel)
theorem wd_962 : Cond.fieldLink RX11 56 "SplitClocksModel" "seen" "[J" ∈ dm_W := dm_in (List.mem_append_right _ (dt_4 (List.mem_of_getElem? (i := 183) (by decide +kernel)))) (by decide +kernel)
theorem wd_963 : Cond.fieldLink RX11 168 "SplitClocksModel" "many" "I" ∈ dm_W := dm_in (List.mem_append_right _ (dt_4 (List.mem_of_getElem? (i := 184) (by decide +kernel)))) (by decide +kernel)
theorem wd_964 : Cond.fieldLink RX11 171 "SplitClocksModel" "events" "I" ∈ dm_W := dm_in (List.mem_append_right _ (dt_4 (List.mem_of_getElem? (i := 185) (by decide +kernel)))) (by decide +kernel)
theorem wd_965 : Cond.fieldLink RX11 174 "SplitClocksModel" "nodes" "I" ∈ dm_W := dm_in (List.mem_append_right _ (dt_4 (List.mem_of_getElem? (i := 186) (by decide +kernel)))) (by decide +kernel)
theorem wd_966 : Cond.fieldLink RX11 59 "SplitClocksModel" "actMany" "[S" ∈ dm_W := dm_in (List.mem_append_right _ (dt_4 (List.mem_of_getElem? (i := 187) (by decide +kernel)))) (by decide +kernel)
theorem wd_967 : Cond.fieldLink RX11 62 "SplitClocksModel" "actEvents" "[S" ∈ dm_W := dm_in (List.mem_append_right _ (dt_4 (List.mem_of_getElem? (i := 188) (by decide +kernel)))) (by decide +kernel)
theorem wd_968 : Cond.fieldLink RX11 65 "SplitClocksModel" "actOne" "[S" ∈ dm_W := dm_in (List.mem_append_right _ (dt_4 (List.mem_of_getElem? (i := 189) (by decide +kernel)))) (by decide +kernel)
theorem wd_969 : Cond.fieldLink RX11 68 "SplitClocksModel" "actTwo" "[S" ∈ dm_W := dm_in (List.mem_append_right _ (dt_4 (List.mem_of_getElem? (i := 190) (by decide +kernel)))) (by decide +kernel)
theorem wd_970 : Cond.fieldLink RX11 71 "SplitClocksModel" "actOneLived" "[Z" ∈ dm_W := dm_in (List.mem_append_right _ (dt_4 (List.mem_of_getElem? (i := 191) (by decide +kernel)))) (by decide +kernel)
theorem wd_971 : Cond.fieldLink RX11 74 "SplitClocksModel" "actTwoLived" "[Z" ∈ dm_W := dm_in (List.mem_append_right _ (dt_4 (List.mem_of_getElem? (i := 192) (by decide +kernel)))) (by decide +kernel)
theorem wd_972 : Cond.fieldLink RX11 77 "SplitClocksModel" "actLost" "[S" ∈ dm_W := dm_in (List.mem_append_right _ (dt_4 (List.mem_of_getElem? (i := 193) (by decide +kernel)))) (by decide +kernel)
theorem wd_973 : Cond.fieldLink RX11 80 "SplitClocksModel" "actHome" "[S" ∈ dm_W := dm_in (List.mem_append_right _ (dt_4 (List.mem_of_getElem? (i := 194) (by decide +kernel)))) (by decide +kernel)
theorem wd_974 : Cond.fieldLink RX11 177 "SplitClocksModel" "acts" "I" ∈ dm_W := dm_in (List.mem_append_right _ (dt_4 (List.mem_of_getElem? (i := 195) (by decide +kernel)))) (by decide +kernel)
theorem wd_975 : Cond.fieldLink RX11 83 "SplitClocksModel" "w" "[J" ∈ dm_W := dm_in (List.mem_append_right _ (dt_4 (List.mem_of_getElem? (i := 196) (by decide +kernel)))) (by decide +kernel)
theorem wd_976 : Cond.fieldLink RX11 86 "SplitClocksModel" "wh" "[I" ∈ dm_W := dm_in (List.mem_append_right _ (dt_4 (List.mem_of_getElem? (i := 197) (by decide +kernel)))) (by decide +kernel)
theorem wd_977 : Cond.fieldLink RX11 180 "SplitClocksModel" "wMany" "I" ∈ dm_W := dm_in (List.mem_append_right _ (dt_4 (List.mem_of_getElem? (i := 198) (by decide +kernel)))) (by decide +kernel)
theorem wd_978 : Cond.fieldLink RX11 89 "SplitClocksModel" "x" "[J" ∈ dm_W := dm_in (List.mem_append_right _ (dt_4 (List.mem_of_getElem? (i := 199) (by decide +kernel)))) (by decide +kernel)
theorem wd_979 : Cond.fieldLink RX11 92 "SplitClocksModel" "xh" "[I" ∈ dm_W := dm_in (List.mem_append_right _ (dt_4 (List.mem_of_getElem? (i := 200) (by decide +kernel)))) (by decide +kernel)
theorem wd_980 : Cond.fieldLink RX11 95 "SplitClocksModel" "of" "[J" ∈ dm_W := dm_in (List.mem_append_right _ (dt_4 (List.mem_of_getElem? (i := 201) (by decide +kernel)))) (by decide +kernel)
theorem wd_981 : Cond.fieldLink RX11 98 "SplitClocksModel" "ot" "[J" ∈ dm_W := dm_in (List.mem_append_right _ (dt_4 (List.mem_of_getElem? (i := 202) (by decide +kernel)))) (by decide +kernel)
theorem wd_982 : Cond.fieldLink RX11 183 "SplitClocksModel" "oMany" "I" ∈ dm_W := dm_in (List.mem_append_right _ (dt_4 (List.mem_of_getElem? (i := 203) (by decide +kernel)))) (by decide +kernel)
theorem wd_983 : Cond.fieldLink RX11 101 "SplitClocksModel" "row" "[Z" ∈ dm_W := dm_in (List.mem_append_right _ (dt_4 (List.mem_of_getElem? (i := 204) (by decide +kernel)))) (by decide +kernel)
theorem wd_984 : Cond.fieldLink RX11 352 "SplitClocksModel" "bits" "I" ∈ dm_W := dm_in (List.mem_append_right _ (dt_4 (List.mem_of_getElem? (i := 205) (by decide +kernel)))) (by decide +kernel)
theorem wd_985 : Cond.fieldLink RX11 104 "SplitClocksModel" "fault" "I" ∈ dm_W := dm_in (List.mem_append_right _ (dt_4 (List.mem_of_getElem? (i := 206) (by decide +kernel)))) (by decide +kernel)
theorem wd_986 : Cond.fieldLink RX11 329 "SplitClocksModel" "witnessPlace" "J" ∈ dm_W := dm_in (List.mem_append_right _ (dt_4 (List.mem_of_getElem? (i := 207) (by decide +kernel)))) (by decide +kernel)
theorem wd_987 : Cond.fieldLink RX11 108 "SplitClocksModel" "witnessDigits" "I" ∈ dm_W := dm_in (List.mem_append_right _ (dt_4 (List.mem_of_getElem? (i := 208) (by decide +kernel)))) (by decide +kernel)
theorem wd_988 : Cond.fieldLink RX11 165 "SplitClocksModel" "thrown" "I" ∈ dm_W := dm_in (List.mem_append_right _ (dt_4 (List.mem_of_getElem? (i := 209) (by decide +kernel)))) (by decide +kernel)
theorem wd_989 : Cond.fieldLink RX11 381 "SplitClocksModel" "hasImage" "Z" ∈ dm_W := dm_in (List.mem_append_right _ (dt_4 (List.mem_of_getElem? (i := 210) (by decide +kernel)))) (by decide +kernel)
theorem wd_990 : Cond.fieldLink RX11 111 "SplitClocksModel" "kSteps" "[J" ∈ dm_W := dm_in (List.mem_append_right _ (dt_4 (List.mem_of_getElem? (i := 211) (by decide +kernel)))) (by decide +kernel)
theorem wd_991 : Cond.fieldLink RX11 114 "SplitClocksModel" "kHeights" "[I" ∈ dm_W := dm_in (List.mem_append_right _ (dt_4 (List.mem_of_getElem? (i := 212) (by decide +kernel)))) (by decide +kernel)
theorem wd_992 : Cond.fieldLink RX11 117 "SplitClocksModel" "kFroms" "[J" ∈ dm_W := dm_in (List.mem_append_right _ (dt_4 (List.mem_of_getElem? (i := 213) (by decide +kernel)))) (by decide +kernel)
theorem wd_993 : Cond.fieldLink RX11 120 "SplitClocksModel" "kTos" "[J" ∈ dm_W := dm_in (List.mem_append_right _ (dt_4 (List.mem_of_getElem? (i := 214) (by decide +kernel)))) (by decide +kernel)
theorem wd_994 : Cond.fieldLink RX11 123 "SplitClocksModel" "kStepFrom" "[I" ∈ dm_W := dm_in (List.mem_append_right _ (dt_4 (List.mem_of_getElem? (i := 215) (by decide +kernel)))) (by decide +kernel)
theorem wd_995 : Cond.fieldLink RX11 126 "SplitClocksModel" "kSpanFrom" "[I" ∈ dm_W := dm_in (List.mem_append_right _ (dt_4 (List.mem_of_getElem? (i := 216) (by decide +kernel)))) (by decide +kernel)
theorem wd_996 : Cond.fieldLink RX11 129 "SplitClocksModel" "kLives" "[Z" ∈ dm_W := dm_in (List.mem_append_right _ (dt_4 (List.mem_of_getElem? (i := 217) (by decide +kernel)))) (by decide +kernel)
theorem wd_997 : Cond.fieldLink RX11 132 "SplitClocksModel" "kLost" "[Z" ∈ dm_W := dm_in (List.mem_append_right _ (dt_4 (List.mem_of_getElem? (i := 218) (by decide +kernel)))) (by decide +kernel)
theorem wd_998 : Cond.fieldLink RX11 135 "SplitClocksModel" "kStrange" "[Z" ∈ dm_W := dm_in (List.mem_append_right _ (dt_4 (List.mem_of_getElem? (i := 219) (by decide +kernel)))) (by decide +kernel)
theorem wd_999 : Cond.fieldLink RX11 138 "SplitClocksModel" "kHow" "[B" ∈ dm_W := dm_in (List.mem_append_right _ (dt_4 (List.mem_of_getElem? (i := 220) (by decide +kernel)))) (by decide +kernel)
theorem wd_1000 : Cond.fieldLink RX11 141 "SplitClocksModel" "kFirst" "[S" ∈ dm_W := dm_in (List.mem_append_right _ (dt_4 (List.mem_of_getElem? (i := 221) (by decide +kernel)))) (by decide +kernel)
theorem wd_1001 : Cond.fieldLink RX11 144 "SplitClocksModel" "kSecond" "[S" ∈ dm_W := dm_in (List.mem_append_right _ (dt_4 (List.mem_of_getElem? (i := 222) (by decide +kernel)))) (by decide +kernel)
theorem wd_1002 : Cond.fieldLink RX11 147 "SplitClocksModel" "kOwnNodes" "[I" ∈ dm_W := dm_in (List.mem_append_right _ (dt_4 (List.mem_of_getElem? (i := 223) (by decide +kernel)))) (by decide +kernel)
theorem wd_1003 : Cond.fieldLink RX11 150 "SplitClocksModel" "kKnownNodes" "[I" ∈ dm_W := dm_in (List.mem_append_right _ (dt_4 (List.mem_of_getElem? (i := 224) (by decide +kernel)))) (by decide +kernel)
theorem wd_1004 : Cond.fieldLink RX11 153 "SplitClocksModel" "kSeen" "[J" ∈ dm_W := dm_in (List.mem_append_right _ (dt_4 (List.mem_of_getElem? (i := 225) (by decide +kernel)))) (by decide +kernel)
theorem wd_1005 : Cond.fieldLink RX11 384 "SplitClocksModel" "kMany" "I" ∈ dm_W := dm_in (List.mem_append_right _ (dt_4 (List.mem_of_getElem? (i := 226) (by decide +kernel)))) (by decide +kernel)
theorem wd_1006 : Cond.fieldLink RX11 387 "SplitClocksModel" "kEvents" "I" ∈ dm_W := dm_in (List.mem_append_right _ (dt_4 (List.mem_of_getElem? (i := 227) (by decide +kernel)))) (by decide +kernel)
theorem wd_1007 : Cond.fieldLink RX11 390 "SplitClocksModel" "kNodes" "I" ∈ dm_W := dm_in (List.mem_append_right _ (dt_4 (List.mem_of_getElem? (i := 228) (by decide +kernel)))) (by decide +kernel)
theorem wd_1008 : Cond.fieldLink RX11 270 "SplitClocksModel" "growFrom" "J" ∈ dm_W := dm_in (List.mem_append_right _ (dt_4 (List.mem_of_getElem? (i := 229) (by decide +kernel)))) (by decide +kernel)
theorem wd_1009 : Cond.fieldLink RX11 274 "SplitClocksModel" "growSize" "J" ∈ dm_W := dm_in (List.mem_append_right _ (dt_4 (List.mem_of_getElem? (i := 230) (by decide +kernel)))) (by decide +kernel)
theorem wd_1010 : Cond.fieldLink RX11 156 "SplitClocksModel" "oldSteps" "[J" ∈ dm_W := dm_in (List.mem_append_right _ (dt_4 (List.mem_of_getElem? (i := 231) (by decide +kernel)))) (by decide +kernel)
theorem wd_1011 : Cond.fieldLink RX11 159 "SplitClocksModel" "oldHeights" "[I" ∈ dm_W := dm_in (List.mem_append_right _ (dt_4 (List.mem_of_getElem? (i := 232) (by decide +kernel)))) (by decide +kernel)
theorem wd_1012 : Cond.fieldLink RX11 332 "SplitClocksModel" "writes" "Z" ∈ dm_W := dm_in (List.mem_append_right _ (dt_4 (List.mem_of_getElem? (i := 233) (by decide +kernel)))) (by decide +kernel)
theorem wd_1013 : Cond.fieldLink RX11 336 "SplitClocksModel" "at" "I" ∈ dm_W := dm_in (List.mem_append_right _ (dt_4 (List.mem_of_getElem? (i := 234) (by decide +kernel)))) (by decide +kernel)
theorem wd_1014 : Cond.fieldLink RX11 355 "SplitClocksModel" "wrong" "I" ∈ dm_W := dm_in (List.mem_append_right _ (dt_4 (List.mem_of_getElem? (i := 235) (by decide +kernel)))) (by decide +kernel)
theorem wd_1015 : Cond.fieldLink RX11 368 "SplitClocksModel" "isNumber" "Z" ∈ dm_W := dm_in (List.mem_append_right _ (dt_4 (List.mem_of_getElem? (i := 236) (by decide +kernel)))) (by decide +kernel)
theorem wd_1153 : Cond.arrayClass .long ∈ dm_W := dm_in (List.mem_append_right _ (dt_5 (List.mem_of_getElem? (i := 134) (by decide +kernel)))) (by decide +kernel)
theorem wd_1154 : Cond.arrayClass .boolean ∈ dm_W := dm_in (List.mem_append_right _ (dt_5 (List.mem_of_getElem? (i := 135) (by decide +kernel)))) (by decide +kernel)
theorem wd_1155 : Cond.arrayClass .short ∈ dm_W := dm_in (List.mem_append_right _ (dt_5 (List.mem_of_getElem? (i := 136) (by decide +kernel)))) (by decide +kernel)
theorem wd_1159 : Cond.code yX11_thrown cX11_thrown 1 (some .int) ∈ dm_W := dm_in (List.mem_append_right _ (dt_5 (List.mem_of_getElem? (i := 140) (by decide +kernel)))) (by decide +kernel)
theorem wd_1164 : Cond.code yX11_fork cX11_fork 11 (some .int) ∈ dm_W := dm_in (List.mem_append_right _ (dt_5 (List.mem_of_getElem? (i := 145) (by decide +kernel)))) (by decide +kernel)
theorem wd_1165 : Cond.methodLink RX11 232 yX11_isAlive ∈ dm_W := dm_in (List.mem_append_right _ (dt_5 (List.mem_of_getElem? (i := 146) (by decide +kernel)))) (by decide +kernel)
theorem wd_1167 : Cond.instanceMethod yX11_isAlive ∈ dm_W := dm_in (List.mem_append_right _ (dt_5 (List.mem_of_getElem? (i := 148) (by decide +kernel)))) (by decide +kernel)
theorem wd_1168 : Cond.code yX11_isAlive cX11_isAlive 2 (some .boolean) ∈ dm_W := dm_in (List.mem_append_right _ (dt_5 (List.mem_of_getElem? (i := 149) (by decide +kernel)))) (by decide +kernel)
theorem wd_1169 : Cond.methodLink RX11 192 yX11_is ∈ dm_W := dm_in (List.mem_append_right _ (dt_5 (List.mem_of_getElem? (i := 150) (by decide +kernel)))) (by decide +kernel)
theorem wd_1171 : Cond.instanceMethod yX11_is ∈ dm_W := dm_in (List.mem_append_right _ (dt_5 (List.mem_of_getElem? (i := 152) (by decide +kernel)))) (by decide +kernel)
theorem wd_1172 : Cond.code yX11_is cX11_is 2 (some .boolean) ∈ dm_W := dm_in (List.mem_append_right _ (dt_5 (List.mem_of_getElem? (i := 153) (by decide +kernel)))) (by decide +kernel)
theorem wd_1173 : Cond.methodLink RX11 229 yX11_owns ∈ dm_W := dm_in (List.mem_append_right _ (dt_5 (List.mem_of_getElem? (i := 154) (by decide +kernel)))) (by decide +kernel)
theorem wd_1175 : Cond.instanceMethod yX11_owns ∈ dm_W := dm_in (List.mem_append_right _ (dt_5 (List.mem_of_getElem? (i := 156) (by decide +kernel)))) (by decide +kernel)
theorem wd_1176 : Cond.code yX11_owns cX11_owns 2 (some .boolean) ∈ dm_W := dm_in (List.mem_append_right _ (dt_5 (List.mem_of_getElem? (i := 157) (by decide +kernel)))) (by decide +kernel)
theorem wd_1177 : Cond.methodLink RX11 235 yX11_takeOwn ∈ dm_W := dm_in (List.mem_append_right _ (dt_5 (List.mem_of_getElem? (i := 158) (by decide +kernel)))) (by decide +kernel)
theorem wd_1179 : Cond.instanceMethod yX11_takeOwn ∈ dm_W := dm_in (List.mem_append_right _ (dt_5 (List.mem_of_getElem? (i := 160) (by decide +kernel)))) (by decide +kernel)
theorem wd_1180 : Cond.code yX11_takeOwn cX11_takeOwn 3 none ∈ dm_W := dm_in (List.mem_append_right _ (dt_5 (List.mem_of_getElem? (i := 161) (by decide +kernel)))) (by decide +kernel)
theorem wd_1181 : Cond.methodLink RX11 238 yX11_cut ∈ dm_W := dm_in (List.mem_append_right _ (dt_5 (List.mem_of_getElem? (i := 162) (by decide +kernel)))) (by decide +kernel)
theorem wd_1183 : Cond.instanceMethod yX11_cut ∈ dm_W := dm_in (List.mem_append_right _ (dt_5 (List.mem_of_getElem? (i := 164) (by decide +kernel)))) (by decide +kernel)
theorem wd_1184 : Cond.code yX11_cut cX11_cut 11 none ∈ dm_W := dm_in (List.mem_append_right _ (dt_5 (List.mem_of_getElem? (i := 165) (by decide +kernel)))) (by decide +kernel)
theorem wd_1185 : Cond.methodLink RX11 242 yX11_hasRoom ∈ dm_W := dm_in (List.mem_append_right _ (dt_5 (List.mem_of_getElem? (i := 166) (by decide +kernel)))) (by decide +kernel)
theorem wd_1187 : Cond.instanceMethod yX11_hasRoom ∈ dm_W := dm_in (List.mem_append_right _ (dt_5 (List.mem_of_getElem? (i := 168) (by decide +kernel)))) (by decide +kernel)
theorem wd_1188 : Cond.code yX11_hasRoom cX11_hasRoom 3 (some .boolean) ∈ dm_W := dm_in (List.mem_append_right _ (dt_5 (List.mem_of_getElem? (i := 169) (by decide +kernel)))) (by decide +kernel)
theorem wd_1189 : Cond.methodLink RX11 246 yX11_note ∈ dm_W := dm_in (List.mem_append_right _ (dt_5 (List.mem_of_getElem? (i := 170) (by decide +kernel)))) (by decide +kernel)
theorem wd_1191 : Cond.instanceMethod yX11_note ∈ dm_W := dm_in (List.mem_append_right _ (dt_5 (List.mem_of_getElem? (i := 172) (by decide +kernel)))) (by decide +kernel)
theorem wd_1192 : Cond.code yX11_note cX11_note 3 none ∈ dm_W := dm_in (List.mem_append_right _ (dt_5 (List.mem_of_getElem? (i := 173) (by decide +kernel)))) (by decide +kernel)
theorem wd_1193 : Cond.methodLink RX11 250 yX11_takeKnown ∈ dm_W := dm_in (List.mem_append_right _ (dt_5 (List.mem_of_getElem? (i := 174) (by decide +kernel)))) (by decide +kernel)
theorem wd_1195 : Cond.instanceMethod yX11_takeKnown ∈ dm_W := dm_in (List.mem_append_right _ (dt_5 (List.mem_of_getElem? (i := 176) (by decide +kernel)))) (by decide +kernel)
theorem wd_1196 : Cond.code yX11_takeKnown cX11_takeKnown 3 none ∈ dm_W := dm_in (List.mem_append_right _ (dt_5 (List.mem_of_getElem? (i := 177) (by decide +kernel)))) (by decide +kernel)
theorem wd_1197 : Cond.methodLink RX11 253 yX11_spend ∈ dm_W := dm_in (List.mem_append_right _ (dt_5 (List.mem_of_getElem? (i := 178) (by decide +kernel)))) (by decide +kernel)
theorem wd_1199 : Cond.instanceMethod yX11_spend ∈ dm_W := dm_in (List.mem_append_right _ (dt_5 (List.mem_of_getElem? (i := 180) (by decide +kernel)))) (by decide +kernel)
theorem wd_1200 : Cond.code yX11_spend cX11_spend 2 none ∈ dm_W := dm_in (List.mem_append_right _ (dt_5 (List.mem_of_getElem? (i := 181) (by decide +kernel)))) (by decide +kernel)
theorem wd_1204 : Cond.code yX11_event cX11_event 3 (some .int) ∈ dm_W := dm_in (List.mem_append_right _ (dt_5 (List.mem_of_getElem? (i := 185) (by decide +kernel)))) (by decide +kernel)
theorem wd_1205 : Cond.methodLink RX11 280 yX11_happen ∈ dm_W := dm_in (List.mem_append_right _ (dt_5 (List.mem_of_getElem? (i := 186) (by decide +kernel)))) (by decide +kernel)
theorem wd_1207 : Cond.instanceMethod yX11_happen ∈ dm_W := dm_in (List.mem_append_right _ (dt_5 (List.mem_of_getElem? (i := 188) (by decide +kernel)))) (by decide +kernel)
theorem wd_1208 : Cond.code yX11_happen cX11_happen 4 none ∈ dm_W := dm_in (List.mem_append_right _ (dt_5 (List.mem_of_getElem? (i := 189) (by decide +kernel)))) (by decide +kernel)
theorem wd_1209 : Cond.methodLink RX11 263 yX11_fill ∈ dm_W := dm_in (List.mem_append_right _ (dt_5 (List.mem_of_getElem? (i := 190) (by decide +kernel)))) (by decide +kernel)
theorem wd_1211 : Cond.instanceMethod yX11_fill ∈ dm_W := dm_in (List.mem_append_right _ (dt_5 (List.mem_of_getElem? (i := 192) (by decide +kernel)))) (by decide +kernel)
theorem wd_1212 : Cond.code yX11_fill cX11_fill 12 none ∈ dm_W := dm_in (List.mem_append_right _ (dt_5 (List.mem_of_getElem? (i := 193) (by decide +kernel)))) (by decide +kernel)
theorem wd_1213 : Cond.methodLink RX11 256 yX11_most ∈ dm_W := dm_in (List.mem_append_right _ (dt_5 (List.mem_of_getElem? (i := 194) (by decide +kernel)))) (by decide +kernel)
theorem wd_1215 : Cond.instanceMethod yX11_most ∈ dm_W := dm_in (List.mem_append_right _ (dt_5 (List.mem_of_getElem? (i := 196) (by decide +kernel)))) (by decide +kernel)
theorem wd_1216 : Cond.code yX11_most cX11_most 7 (some .int) ∈ dm_W := dm_in (List.mem_append_right _ (dt_5 (List.mem_of_getElem? (i := 197) (by decide +kernel)))) (by decide +kernel)
theorem wd_1217 : Cond.methodLink RX11 259 yX11_set ∈ dm_W := dm_in (List.mem_append_right _ (dt_5 (List.mem_of_getElem? (i := 198) (by decide +kernel)))) (by decide +kernel)
theorem wd_1219 : Cond.instanceMethod yX11_set ∈ dm_W := dm_in (List.mem_append_right _ (dt_5 (List.mem_of_getElem? (i := 200) (by decide +kernel)))) (by decide +kernel)
theorem wd_1220 : Cond.code yX11_set cX11_set 13 none ∈ dm_W := dm_in (List.mem_append_right _ (dt_5 (List.mem_of_getElem? (i := 201) (by decide +kernel)))) (by decide +kernel)
theorem wd_1221 : Cond.methodLink RX11 212 yX11_lay ∈ dm_W := dm_in (List.mem_append_right _ (dt_5 (List.mem_of_getElem? (i := 202) (by decide +kernel)))) (by decide +kernel)
theorem wd_1223 : Cond.instanceMethod yX11_lay ∈ dm_W := dm_in (List.mem_append_right _ (dt_5 (List.mem_of_getElem? (i := 204) (by decide +kernel)))) (by decide +kernel)
theorem wd_1224 : Cond.code yX11_lay cX11_lay 5 (some .int) ∈ dm_W := dm_in (List.mem_append_right _ (dt_5 (List.mem_of_getElem? (i := 205) (by decide +kernel)))) (by decide +kernel)
theorem wd_1225 : Cond.methodLink RX11 216 yX11_become ∈ dm_W := dm_in (List.mem_append_right _ (dt_5 (List.mem_of_getElem? (i := 206) (by decide +kernel)))) (by decide +kernel)
theorem wd_1227 : Cond.instanceMethod yX11_become ∈ dm_W := dm_in (List.mem_append_right _ (dt_5 (List.mem_of_getElem? (i := 208) (by decide +kernel)))) (by decide +kernel)
theorem wd_1228 : Cond.code yX11_become cX11_become 3 none ∈ dm_W := dm_in (List.mem_append_right _ (dt_5 (List.mem_of_getElem? (i := 209) (by decide +kernel)))) (by decide +kernel)
theorem wd_1229 : Cond.methodLink RX11 267 yX11_least ∈ dm_W := dm_in (List.mem_append_right _ (dt_5 (List.mem_of_getElem? (i := 210) (by decide +kernel)))) (by decide +kernel)
theorem wd_1231 : Cond.instanceMethod yX11_least ∈ dm_W := dm_in (List.mem_append_right _ (dt_5 (List.mem_of_getElem? (i := 212) (by decide +kernel)))) (by decide +kernel)
theorem wd_1232 : Cond.code yX11_least cX11_least 7 (some .int) ∈ dm_W := dm_in (List.mem_append_right _ (dt_5 (List.mem_of_getElem? (i := 213) (by decide +kernel)))) (by decide +kernel)
theorem wd_1233 : Cond.constant RX11 211 (2147483647) ∈ dm_W := dm_in (List.mem_append_right _ (dt_5 (List.mem_of_getElem? (i := 214) (by decide +kernel)))) (by decide +kernel)
theorem wd_1234 : Cond.methodLink RX11 277 yX11_grow ∈ dm_W := dm_in (List.mem_append_right _ (dt_5 (List.mem_of_getElem? (i := 215) (by decide +kernel)))) (by decide +kernel)
theorem wd_1236 : Cond.instanceMethod yX11_grow ∈ dm_W := dm_in (List.mem_append_right _ (dt_5 (List.mem_of_getElem? (i := 217) (by decide +kernel)))) (by decide +kernel)
theorem wd_1237 : Cond.code yX11_grow cX11_grow 14 (some .int) ∈ dm_W := dm_in (List.mem_append_right _ (dt_5 (List.mem_of_getElem? (i := 218) (by decide +kernel)))) (by decide +kernel)
theorem wd_1238 : Cond.methodLink RX11 283 yX11_mark ∈ dm_W := dm_in (List.mem_append_right _ (dt_5 (List.mem_of_getElem? (i := 219) (by decide +kernel)))) (by decide +kernel)
theorem wd_1240 : Cond.instanceMethod yX11_mark ∈ dm_W := dm_in (List.mem_append_right _ (dt_5 (List.mem_of_getElem? (i := 221) (by decide +kernel)))) (by decide +kernel)
theorem wd_1241 : Cond.code yX11_mark cX11_mark 2 none ∈ dm_W := dm_in (List.mem_append_right _ (dt_5 (List.mem_of_getElem? (i := 222) (by decide +kernel)))) (by decide +kernel)
theorem wd_1245 : Cond.code yX11_join cX11_join 3 (some .int) ∈ dm_W := dm_in (List.mem_append_right _ (dt_5 (List.mem_of_getElem? (i := 226) (by decide +kernel)))) (by decide +kernel)
theorem wd_1246 : Cond.methodLink RX11 292 yX11_joined ∈ dm_W := dm_in (List.mem_append_right _ (dt_5 (List.mem_of_getElem? (i := 227) (by decide +kernel)))) (by decide +kernel)
theorem wd_1248 : Cond.instanceMethod yX11_joined ∈ dm_W := dm_in (List.mem_append_right _ (dt_5 (List.mem_of_getElem? (i := 229) (by decide +kernel)))) (by decide +kernel)
theorem wd_1249 : Cond.code yX11_joined cX11_joined 5 (some .int) ∈ dm_W := dm_in (List.mem_append_right _ (dt_5 (List.mem_of_getElem? (i := 230) (by decide +kernel)))) (by decide +kernel)
theorem wd_1250 : Cond.methodLink RX11 286 yX11_together ∈ dm_W := dm_in (List.mem_append_right _ (dt_5 (List.mem_of_getElem? (i := 231) (by decide +kernel)))) (by decide +kernel)
theorem wd_1252 : Cond.instanceMethod yX11_together ∈ dm_W := dm_in (List.mem_append_right _ (dt_5 (List.mem_of_getElem? (i := 233) (by decide +kernel)))) (by decide +kernel)
theorem wd_1253 : Cond.code yX11_together cX11_together 12 none ∈ dm_W := dm_in (List.mem_append_right _ (dt_5 (List.mem_of_getElem? (i := 234) (by decide +kernel)))) (by decide +kernel)
theorem wd_1254 : Cond.methodLink RX11 289 yX11_share ∈ dm_W := dm_in (List.mem_append_right _ (dt_5 (List.mem_of_getElem? (i := 235) (by decide +kernel)))) (by decide +kernel)
theorem wd_1256 : Cond.instanceMethod yX11_share ∈ dm_W := dm_in (List.mem_append_right _ (dt_5 (List.mem_of_getElem? (i := 237) (by decide +kernel)))) (by decide +kernel)
theorem wd_1257 : Cond.code yX11_share cX11_share 10 none ∈ dm_W := dm_in (List.mem_append_right _ (dt_5 (List.mem_of_getElem? (i := 238) (by decide +kernel)))) (by decide +kernel)
theorem wd_1261 : Cond.code yX11_peek cX11_peek 2 (some .int) ∈ dm_W := dm_in (List.mem_append_right _ (dt_6 (List.mem_of_getElem? (i := 2) (by decide +kernel)))) (by decide +kernel)
theorem wd_1265 : Cond.code yX11_send cX11_send 4 (some .int) ∈ dm_W := dm_in (List.mem_append_right _ (dt_6 (List.mem_of_getElem? (i := 6) (by decide +kernel)))) (by decide +kernel)
theorem wd_1269 : Cond.code yX11_take cX11_take 7 (some .int) ∈ dm_W := dm_in (List.mem_append_right _ (dt_6 (List.mem_of_getElem? (i := 10) (by decide +kernel)))) (by decide +kernel)
theorem wd_1273 : Cond.code yX11_lose cX11_lose 2 (some .boolean) ∈ dm_W := dm_in (List.mem_append_right _ (dt_6 (List.mem_of_getElem? (i := 14) (by decide +kernel)))) (by decide +kernel)
theorem wd_1277 : Cond.code yX11_home cX11_home 4 (some .int) ∈ dm_W := dm_in (List.mem_append_right _ (dt_6 (List.mem_of_getElem? (i := 18) (by decide +kernel)))) (by decide +kernel)
theorem wd_1278 : Cond.methodLink RX11 295 yX11_leads ∈ dm_W := dm_in (List.mem_append_right _ (dt_6 (List.mem_of_getElem? (i := 19) (by decide +kernel)))) (by decide +kernel)
theorem wd_1280 : Cond.instanceMethod yX11_leads ∈ dm_W := dm_in (List.mem_append_right _ (dt_6 (List.mem_of_getElem? (i := 21) (by decide +kernel)))) (by decide +kernel)
theorem wd_1281 : Cond.code yX11_leads cX11_leads 11 (some .boolean) ∈ dm_W := dm_in (List.mem_append_right _ (dt_6 (List.mem_of_getElem? (i := 22) (by decide +kernel)))) (by decide +kernel)
theorem wd_1285 : Cond.code yX11_undo cX11_undo 1 (some .boolean) ∈ dm_W := dm_in (List.mem_append_right _ (dt_6 (List.mem_of_getElem? (i := 26) (by decide +kernel)))) (by decide +kernel)
theorem wd_1289 : Cond.code yX11_relation cX11_relation 5 (some .int) ∈ dm_W := dm_in (List.mem_append_right _ (dt_6 (List.mem_of_getElem? (i := 30) (by decide +kernel)))) (by decide +kernel)
theorem wd_1291 : Cond.instanceMethod yX11_unseen ∈ dm_W := dm_in (List.mem_append_right _ (dt_6 (List.mem_of_getElem? (i := 32) (by decide +kernel)))) (by decide +kernel)
theorem wd_1292 : Cond.selects RX11 yX11_unseen yX11_unseen ∈ dm_W := dm_in (List.mem_append_right _ (dt_6 (List.mem_of_getElem? (i := 33) (by decide +kernel)))) (by decide +kernel)
theorem wd_1293 : Cond.code yX11_unseen cX11_unseen 5 (some .int) ∈ dm_W := dm_in (List.mem_append_right _ (dt_6 (List.mem_of_getElem? (i := 34) (by decide +kernel)))) (by decide +kernel)
theorem wd_1294 : Cond.constantLong RX11 298 (-1) ∈ dm_W := dm_in (List.mem_append_right _ (dt_6 (List.mem_of_getElem? (i := 35) (by decide +kernel)))) (by decide +kernel)
theorem wd_1295 : Cond.methodLink RX11 300 yJ13_bitCount_95d88 ∈ dm_W := dm_in (List.mem_append_right _ (dt_6 (List.mem_of_getElem? (i := 36) (by decide +kernel)))) (by decide +kernel)
theorem wd_1296 : Cond.static yJ13_bitCount_95d88 ∈ dm_W := dm_in (List.mem_append_right _ (dt_6 (List.mem_of_getElem? (i := 37) (by decide +kernel)))) (by decide +kernel)
theorem wd_1297 : Cond.code yJ13_bitCount_95d88 cJ13_bitCount_95d88 2 (some .int) ∈ dm_W := dm_in (List.mem_append_right _ (dt_6 (List.mem_of_getElem? (i := 38) (by decide +kernel)))) (by decide +kernel)
theorem wd_1298 : Cond.constantLong RJ13 314 (6148914691236517205) ∈ dm_W := dm_in (List.mem_append_right _ (dt_6 (List.mem_of_getElem? (i := 39) (by decide +kernel)))) (by decide +kernel)
theorem wd_1299 : Cond.constantLong RJ13 316 (3689348814741910323) ∈ dm_W := dm_in (List.mem_append_right _ (dt_6 (List.mem_of_getElem? (i := 40) (by decide +kernel)))) (by decide +kernel)
theorem wd_1300 : Cond.constantLong RJ13 318 (1085102592571150095) ∈ dm_W := dm_in (List.mem_append_right _ (dt_6 (List.mem_of_getElem? (i := 41) (by decide +kernel)))) (by decide +kernel)
theorem wd_1304 : Cond.code yX11_meets cX11_meets 5 (some .boolean) ∈ dm_W := dm_in (List.mem_append_right _ (dt_6 (List.mem_of_getElem? (i := 45) (by decide +kernel)))) (by decide +kernel)
theorem wd_1308 : Cond.code yX11_height cX11_height 5 (some .int) ∈ dm_W := dm_in (List.mem_append_right _ (dt_6 (List.mem_of_getElem? (i := 49) (by decide +kernel)))) (by decide +kernel)
theorem wd_1309 : Cond.methodLink RX11 305 yX11_isPlace ∈ dm_W := dm_in (List.mem_append_right _ (dt_6 (List.mem_of_getElem? (i := 50) (by decide +kernel)))) (by decide +kernel)
theorem wd_1310 : Cond.static yX11_isPlace ∈ dm_W := dm_in (List.mem_append_right _ (dt_6 (List.mem_of_getElem? (i := 51) (by decide +kernel)))) (by decide +kernel)
theorem wd_1311 : Cond.code yX11_isPlace cX11_isPlace 3 (some .boolean) ∈ dm_W := dm_in (List.mem_append_right _ (dt_6 (List.mem_of_getElem? (i := 52) (by decide +kernel)))) (by decide +kernel)
theorem wd_1312 : Cond.methodLink RX11 309 yX11_heightAt ∈ dm_W := dm_in (List.mem_append_right _ (dt_6 (List.mem_of_getElem? (i := 53) (by decide +kernel)))) (by decide +kernel)
theorem wd_1314 : Cond.instanceMethod yX11_heightAt ∈ dm_W := dm_in (List.mem_append_right _ (dt_6 (List.mem_of_getElem? (i := 55) (by decide +kernel)))) (by decide +kernel)
theorem wd_1315 : Cond.code yX11_heightAt cX11_heightAt 5 (some .int) ∈ dm_W := dm_in (List.mem_append_right _ (dt_6 (List.mem_of_getElem? (i := 56) (by decide +kernel)))) (by decide +kernel)
theorem wd_1319 : Cond.code yX11_owns_ cX11_owns_ 9 (some .boolean) ∈ dm_W := dm_in (List.mem_append_right _ (dt_6 (List.mem_of_getElem? (i := 60) (by decide +kernel)))) (by decide +kernel)
theorem wd_1323 : Cond.code yX11_stamp cX11_stamp 3 (some .int) ∈ dm_W := dm_in (List.mem_append_right _ (dt_6 (List.mem_of_getElem? (i := 64) (by decide +kernel)))) (by decide +kernel)
theorem wd_1324 : Cond.methodLink RX11 313 yX11_written ∈ dm_W := dm_in (List.mem_append_right _ (dt_6 (List.mem_of_getElem? (i := 65) (by decide +kernel)))) (by decide +kernel)
theorem wd_1326 : Cond.instanceMethod yX11_written ∈ dm_W := dm_in (List.mem_append_right _ (dt_6 (List.mem_of_getElem? (i := 67) (by decide +kernel)))) (by decide +kernel)
theorem wd_1327 : Cond.code yX11_written cX11_written 2 (some .int) ∈ dm_W := dm_in (List.mem_append_right _ (dt_6 (List.mem_of_getElem? (i := 68) (by decide +kernel)))) (by decide +kernel)
theorem wd_1328 : Cond.methodLink RX11 342 yX11_writeShare ∈ dm_W := dm_in (List.mem_append_right _ (dt_6 (List.mem_of_getElem? (i := 69) (by decide +kernel)))) (by decide +kernel)
theorem wd_1330 : Cond.instanceMethod yX11_writeShare ∈ dm_W := dm_in (List.mem_append_right _ (dt_6 (List.mem_of_getElem? (i := 71) (by decide +kernel)))) (by decide +kernel)
theorem wd_1331 : Cond.code yX11_writeShare cX11_writeShare 10 none ∈ dm_W := dm_in (List.mem_append_right _ (dt_6 (List.mem_of_getElem? (i := 72) (by decide +kernel)))) (by decide +kernel)
theorem wd_1332 : Cond.methodLink RX11 338 yX11_bit ∈ dm_W := dm_in (List.mem_append_right _ (dt_6 (List.mem_of_getElem? (i := 73) (by decide +kernel)))) (by decide +kernel)
theorem wd_1334 : Cond.instanceMethod yX11_bit ∈ dm_W := dm_in (List.mem_append_right _ (dt_6 (List.mem_of_getElem? (i := 75) (by decide +kernel)))) (by decide +kernel)
theorem wd_1335 : Cond.code yX11_bit cX11_bit 2 none ∈ dm_W := dm_in (List.mem_append_right _ (dt_6 (List.mem_of_getElem? (i := 76) (by decide +kernel)))) (by decide +kernel)
theorem wd_1336 : Cond.methodLink RX11 348 yX11_writeHeight ∈ dm_W := dm_in (List.mem_append_right _ (dt_6 (List.mem_of_getElem? (i := 77) (by decide +kernel)))) (by decide +kernel)
theorem wd_1338 : Cond.instanceMethod yX11_writeHeight ∈ dm_W := dm_in (List.mem_append_right _ (dt_6 (List.mem_of_getElem? (i := 79) (by decide +kernel)))) (by decide +kernel)
theorem wd_1339 : Cond.code yX11_writeHeight cX11_writeHeight 11 none ∈ dm_W := dm_in (List.mem_append_right _ (dt_6 (List.mem_of_getElem? (i := 80) (by decide +kernel)))) (by decide +kernel)
theorem wd_1340 : Cond.methodLink RX11 345 yX11_number ∈ dm_W := dm_in (List.mem_append_right _ (dt_6 (List.mem_of_getElem? (i := 81) (by decide +kernel)))) (by decide +kernel)
theorem wd_1342 : Cond.instanceMethod yX11_number ∈ dm_W := dm_in (List.mem_append_right _ (dt_6 (List.mem_of_getElem? (i := 83) (by decide +kernel)))) (by decide +kernel)
theorem wd_1343 : Cond.code yX11_number cX11_number 5 none ∈ dm_W := dm_in (List.mem_append_right _ (dt_6 (List.mem_of_getElem? (i := 84) (by decide +kernel)))) (by decide +kernel)
theorem wd_1344 : Cond.methodLink RX11 317 yX11_unseen ∈ dm_W := dm_in (List.mem_append_right _ (dt_6 (List.mem_of_getElem? (i := 85) (by decide +kernel)))) (by decide +kernel)
theorem wd_1345 : Cond.methodLink RX11 321 yX11_history ∈ dm_W := dm_in (List.mem_append_right _ (dt_6 (List.mem_of_getElem? (i := 86) (by decide +kernel)))) (by decide +kernel)
theorem wd_1347 : Cond.instanceMethod yX11_history ∈ dm_W := dm_in (List.mem_append_right _ (dt_6 (List.mem_of_getElem? (i := 88) (by decide +kernel)))) (by decide +kernel)
theorem wd_1348 : Cond.code yX11_history cX11_history 4 (some .int) ∈ dm_W := dm_in (List.mem_append_right _ (dt_6 (List.mem_of_getElem? (i := 89) (by decide +kernel)))) (by decide +kernel)
theorem wd_1352 : Cond.code yX11_witness cX11_witness 11 (some .boolean) ∈ dm_W := dm_in (List.mem_append_right _ (dt_6 (List.mem_of_getElem? (i := 93) (by decide +kernel)))) (by decide +kernel)
theorem wd_1353 : Cond.methodLink RX11 325 yX11_turn ∈ dm_W := dm_in (List.mem_append_right _ (dt_6 (List.mem_of_getElem? (i := 94) (by decide +kernel)))) (by decide +kernel)
theorem wd_1355 : Cond.instanceMethod yX11_turn ∈ dm_W := dm_in (List.mem_append_right _ (dt_6 (List.mem_of_getElem? (i := 96) (by decide +kernel)))) (by decide +kernel)
theorem wd_1356 : Cond.code yX11_turn cX11_turn 16 (some .long) ∈ dm_W := dm_in (List.mem_append_right _ (dt_6 (List.mem_of_getElem? (i := 97) (by decide +kernel)))) (by decide +kernel)
theorem wd_1360 : Cond.code yX11_place cX11_place 1 (some .long) ∈ dm_W := dm_in (List.mem_append_right _ (dt_6 (List.mem_of_getElem? (i := 101) (by decide +kernel)))) (by decide +kernel)
theorem wd_1364 : Cond.code yX11_digits cX11_digits 1 (some .int) ∈ dm_W := dm_in (List.mem_append_right _ (dt_6 (List.mem_of_getElem? (i := 105) (by decide +kernel)))) (by decide +kernel)
theorem wd_1368 : Cond.code yX11_check cX11_check 13 (some .int) ∈ dm_W := dm_in (List.mem_append_right _ (dt_6 (List.mem_of_getElem? (i := 109) (by decide +kernel)))) (by decide +kernel)
theorem wd_1372 : Cond.code yX11_pack cX11_pack 2 (some .int) ∈ dm_W := dm_in (List.mem_append_right _ (dt_6 (List.mem_of_getElem? (i := 113) (by decide +kernel)))) (by decide +kernel)
theorem wd_1376 : Cond.code yX11_bit_ cX11_bit_ 2 (some .int) ∈ dm_W := dm_in (List.mem_append_right _ (dt_6 (List.mem_of_getElem? (i := 117) (by decide +kernel)))) (by decide +kernel)
theorem wd_1380 : Cond.code yX11_add cX11_add 5 (some .int) ∈ dm_W := dm_in (List.mem_append_right _ (dt_6 (List.mem_of_getElem? (i := 121) (by decide +kernel)))) (by decide +kernel)
theorem wd_1384 : Cond.code yX11_end cX11_end 2 (some .boolean) ∈ dm_W := dm_in (List.mem_append_right _ (dt_6 (List.mem_of_getElem? (i := 125) (by decide +kernel)))) (by decide +kernel)
theorem wd_1388 : Cond.code yX11_read cX11_read 1 (some .int) ∈ dm_W := dm_in (List.mem_append_right _ (dt_6 (List.mem_of_getElem? (i := 129) (by decide +kernel)))) (by decide +kernel)
theorem wd_1389 : Cond.methodLink RX11 365 yX11_readShare ∈ dm_W := dm_in (List.mem_append_right _ (dt_6 (List.mem_of_getElem? (i := 130) (by decide +kernel)))) (by decide +kernel)
theorem wd_1391 : Cond.instanceMethod yX11_readShare ∈ dm_W := dm_in (List.mem_append_right _ (dt_6 (List.mem_of_getElem? (i := 132) (by decide +kernel)))) (by decide +kernel)
theorem wd_1392 : Cond.code yX11_readShare cX11_readShare 7 (some .int) ∈ dm_W := dm_in (List.mem_append_right _ (dt_6 (List.mem_of_getElem? (i := 133) (by decide +kernel)))) (by decide +kernel)
theorem wd_1393 : Cond.methodLink RX11 358 yX11_fails ∈ dm_W := dm_in (List.mem_append_right _ (dt_6 (List.mem_of_getElem? (i := 134) (by decide +kernel)))) (by decide +kernel)
theorem wd_1395 : Cond.instanceMethod yX11_fails ∈ dm_W := dm_in (List.mem_append_right _ (dt_6 (List.mem_of_getElem? (i := 136) (by decide +kernel)))) (by decide +kernel)
theorem wd_1396 : Cond.code yX11_fails cX11_fails 2 none ∈ dm_W := dm_in (List.mem_append_right _ (dt_6 (List.mem_of_getElem? (i := 137) (by decide +kernel)))) (by decide +kernel)
theorem wd_1397 : Cond.methodLink RX11 361 yX11_next ∈ dm_W := dm_in (List.mem_append_right _ (dt_6 (List.mem_of_getElem? (i := 138) (by decide +kernel)))) (by decide +kernel)
theorem wd_1399 : Cond.instanceMethod yX11_next ∈ dm_W := dm_in (List.mem_append_right _ (dt_6 (List.mem_of_getElem? (i := 140) (by decide +kernel)))) (by decide +kernel)
theorem wd_1400 : Cond.code yX11_next cX11_next 1 (some .int) ∈ dm_W := dm_in (List.mem_append_right _ (dt_6 (List.mem_of_getElem? (i := 141) (by decide +kernel)))) (by decide +kernel)
theorem wd_1401 : Cond.methodLink RX11 378 yX11_readHeight ∈ dm_W := dm_in (List.mem_append_right _ (dt_6 (List.mem_of_getElem? (i := 142) (by decide +kernel)))) (by decide +kernel)
theorem wd_1403 : Cond.instanceMethod yX11_readHeight ∈ dm_W := dm_in (List.mem_append_right _ (dt_6 (List.mem_of_getElem? (i := 144) (by decide +kernel)))) (by decide +kernel)
theorem wd_1404 : Cond.code yX11_readHeight cX11_readHeight 17 (some .int) ∈ dm_W := dm_in (List.mem_append_right _ (dt_6 (List.mem_of_getElem? (i := 145) (by decide +kernel)))) (by decide +kernel)
theorem wd_1405 : Cond.methodLink RX11 371 yX11_readNumber ∈ dm_W := dm_in (List.mem_append_right _ (dt_6 (List.mem_of_getElem? (i := 146) (by decide +kernel)))) (by decide +kernel)
theorem wd_1407 : Cond.instanceMethod yX11_readNumber ∈ dm_W := dm_in (List.mem_append_right _ (dt_6 (List.mem_of_getElem? (i := 148) (by decide +kernel)))) (by decide +kernel)
theorem wd_1408 : Cond.code yX11_readNumber cX11_readNumber 5 (some .int) ∈ dm_W := dm_in (List.mem_append_right _ (dt_6 (List.mem_of_getElem? (i := 149) (by decide +kernel)))) (by decide +kernel)
theorem wd_1409 : Cond.methodLink RX11 374 yX11_step ∈ dm_W := dm_in (List.mem_append_right _ (dt_6 (List.mem_of_getElem? (i := 150) (by decide +kernel)))) (by decide +kernel)
theorem wd_1411 : Cond.instanceMethod yX11_step ∈ dm_W := dm_in (List.mem_append_right _ (dt_6 (List.mem_of_getElem? (i := 152) (by decide +kernel)))) (by decide +kernel)
theorem wd_1412 : Cond.code yX11_step cX11_step 4 (some .int) ∈ dm_W := dm_in (List.mem_append_right _ (dt_6 (List.mem_of_getElem? (i := 153) (by decide +kernel)))) (by decide +kernel)
theorem wd_1416 : Cond.code yX11_fault cX11_fault 1 (some .int) ∈ dm_W := dm_in (List.mem_append_right _ (dt_6 (List.mem_of_getElem? (i := 157) (by decide +kernel)))) (by decide +kernel)
theorem wd_1420 : Cond.code yX11_image cX11_image 2 (some .boolean) ∈ dm_W := dm_in (List.mem_append_right _ (dt_6 (List.mem_of_getElem? (i := 161) (by decide +kernel)))) (by decide +kernel)
theorem wd_1424 : Cond.code yX11_back cX11_back 2 (some .boolean) ∈ dm_W := dm_in (List.mem_append_right _ (dt_6 (List.mem_of_getElem? (i := 165) (by decide +kernel)))) (by decide +kernel)
theorem wd_1428 : Cond.code yX11_count cX11_count 4 (some .int) ∈ dm_W := dm_in (List.mem_append_right _ (dt_6 (List.mem_of_getElem? (i := 169) (by decide +kernel)))) (by decide +kernel)
theorem mo_0 : dm_Mok dm_tb 0 := ⟨wd_166, wd_65, ⟨by decide, by decide⟩, by decide, by decide⟩
theorem pd_0 : (parseMethodDescriptor (dm_tb 0).1.desc).map (fun d => d.parameters.length) = some 0 := by decide +kernel
theorem mo_1 : dm_Mok dm_tb 1 := ⟨wd_305, wd_65, ⟨by decide, by decide⟩, by decide, by decide⟩
theorem pd_1 : (parseMethodDescriptor (dm_tb 1).1.desc).map (fun d => d.parameters.length) = some 0 := by decide +kernel
theorem mo_2 : dm_Mok dm_tb 2 := ⟨wd_826, wd_65, ⟨by decide, by decide⟩, by decide, by decide⟩
theorem pd_2 : (parseMethodDescriptor (dm_tb 2).1.desc).map (fun d => d.parameters.length) = some 0 := by decide +kernel
theorem mo_3 : dm_Mok dm_tb 3 := ⟨wd_442, wd_65, ⟨by decide, by decide⟩, by decide, by decide⟩
theorem pd_3 : (parseMethodDescriptor (dm_tb 3).1.desc).map (fun d => d.parameters.length) = some 4 := by decide +kernel
theorem mo_4 : dm_Mok dm_tb 4 := ⟨wd_571, wd_65, ⟨by decide, by decide⟩, by decide, by decide⟩
theorem pd_4 : (parseMethodDescriptor (dm_tb 4).1.desc).map (fun d => d.parameters.length) = some 1 := by decide +kernel
theorem mo_5 : dm_Mok dm_tb 5 := ⟨wd_208, wd_67, ⟨by decide, by decide⟩, by decide, by decide⟩
theorem pd_5 : (parseMethodDescriptor (dm_tb 5).1.desc).map (fun d => d.parameters.length) = some 0 := by decide +kernel
theorem mo_6 : dm_Mok dm_tb 6 := ⟨wd_656, wd_67, ⟨by decide, by decide⟩, by decide, by decide⟩
theorem pd_6 : (parseMethodDescriptor (dm_tb 6).1.desc).map (fun d => d.parameters.length) = some 0 := by decide +kernel
theorem mo_7 : dm_Mok dm_tb 7 := ⟨wd_719, wd_67, ⟨by decide, by decide⟩, by decide, by decide⟩
theorem pd_7 : (parseMethodDescriptor (dm_tb 7).1.desc).map (fun d => d.parameters.length) = some 1 := by decide +kernel
theorem mo_8 : dm_Mok dm_tb 8 := ⟨wd_640, wd_67, ⟨by decide, by decide⟩, by decide, by decide⟩
theorem pd_8 : (parseMethodDescriptor (dm_tb 8).1.desc).map (fun d => d.parameters.length) = some 2 := by decide +kernel
theorem mo_9 : dm_Mok dm_tb 9 := ⟨wd_309, wd_67, ⟨by decide, by decide⟩, by decide, by decide⟩
theorem pd_9 : (parseMethodDescriptor (dm_tb 9).1.desc).map (fun d => d.parameters.length) = some 1 := by decide +kernel
theorem mo_10 : dm_Mok dm_tb 10 := ⟨wd_706, wd_67, ⟨by decide, by decide⟩, by decide, by decide⟩
theorem pd_10 : (parseMethodDescriptor (dm_tb 10).1.desc).map (fun d => d.parameters.length) = some 1 := by decide +kernel
theorem mo_11 : dm_Mok dm_tb 11 := ⟨wd_92, wd_61, ⟨by decide, by decide⟩, by decide, by decide⟩
theorem pd_11 : (parseMethodDescriptor (dm_tb 11).1.desc).map (fun d => d.parameters.length) = some 0 := by decide +kernel
theorem mo_12 : dm_Mok dm_tb 12 := ⟨wd_242, wd_61, ⟨by decide, by decide⟩, by decide, by decide⟩
theorem pd_12 : (parseMethodDescriptor (dm_tb 12).1.desc).map (fun d => d.parameters.length) = some 0 := by decide +kernel
theorem mo_13 : dm_Mok dm_tb 13 := ⟨wd_404, wd_61, ⟨by decide, by decide⟩, by decide, by decide⟩
theorem pd_13 : (parseMethodDescriptor (dm_tb 13).1.desc).map (fun d => d.parameters.length) = some 0 := by decide +kernel
theorem mo_14 : dm_Mok dm_tb 14 := ⟨wd_283, wd_61, ⟨by decide, by decide⟩, by decide, by decide⟩
theorem pd_14 : (parseMethodDescriptor (dm_tb 14).1.desc).map (fun d => d.parameters.length) = some 0 := by decide +kernel
theorem mo_15 : dm_Mok dm_tb 15 := ⟨wd_279, wd_61, ⟨by decide, by decide⟩, by decide, by decide⟩
theorem pd_15 : (parseMethodDescriptor (dm_tb 15).1.desc).map (fun d => d.parameters.length) = some 5 := by decide +kernel
theorem mo_16 : dm_Mok dm_tb 16 := ⟨wd_434, wd_61, ⟨by decide, by decide⟩, by decide, by decide⟩
theorem pd_16 : (parseMethodDescriptor (dm_tb 16).1.desc).map (fun d => d.parameters.length) = some 1 := by decide +kernel
theorem mo_17 : dm_Mok dm_tb 17 := ⟨wd_363, wd_61, ⟨by decide, by decide⟩, by decide, by decide⟩
theorem pd_17 : (parseMethodDescriptor (dm_tb 17).1.desc).map (fun d => d.parameters.length) = some 1 := by decide +kernel
theorem mo_18 : dm_Mok dm_tb 18 := ⟨wd_375, wd_61, ⟨by decide, by decide⟩, by decide, by decide⟩
theorem pd_18 : (parseMethodDescriptor (dm_tb 18).1.desc).map (fun d => d.parameters.length) = some 1 := by decide +kernel
theorem mo_19 : dm_Mok dm_tb 19 := ⟨wd_408, wd_61, ⟨by decide, by decide⟩, by decide, by decide⟩
theorem pd_19 : (parseMethodDescriptor (dm_tb 19).1.desc).map (fun d => d.parameters.length) = some 1 := by decide +kernel
theorem mo_20 : dm_Mok dm_tb 20 := ⟨wd_605, wd_61, ⟨by decide, by decide⟩, by decide, by decide⟩
theorem pd_20 : (parseMethodDescriptor (dm_tb 20).1.desc).map (fun d => d.parameters.length) = some 1 := by decide +kernel
theorem mo_21 : dm_Mok dm_tb 21 := ⟨wd_597, wd_61, ⟨by decide, by decide⟩, by decide, by decide⟩
theorem pd_21 : (parseMethodDescriptor (dm_tb 21).1.desc).map (fun d => d.parameters.length) = some 1 := by decide +kernel
theorem mo_22 : dm_Mok dm_tb 22 := ⟨wd_601, wd_61, ⟨by decide, by decide⟩, by decide, by decide⟩
theorem pd_22 : (parseMethodDescriptor (dm_tb 22).1.desc).map (fun d => d.parameters.length) = some 1 := by decide +kernel
theorem mo_23 : dm_Mok dm_tb 23 := ⟨wd_367, wd_61, ⟨by decide, by decide⟩, by decide, by decide⟩
theorem pd_23 : (parseMethodDescriptor (dm_tb 23).1.desc).map (fun d => d.parameters.length) = some 1 := by decide +kernel
theorem mo_24 : dm_Mok dm_tb 24 := ⟨wd_452, wd_61, ⟨by decide, by decide⟩, by decide, by decide⟩
theorem pd_24 : (parseMethodDescriptor (dm_tb 24).1.desc).map (fun d => d.parameters.length) = some 2 := by decide +kernel
theorem mo_25 : dm_Mok dm_tb 25 := ⟨wd_371, wd_61, ⟨by decide, by decide⟩, by decide, by decide⟩
theorem pd_25 : (parseMethodDescriptor (dm_tb 25).1.desc).map (fun d => d.parameters.length) = some 1 := by decide +kernel
theorem mo_26 : dm_Mok dm_tb 26 := ⟨wd_359, wd_61, ⟨by decide, by decide⟩, by decide, by decide⟩
theorem pd_26 : (parseMethodDescriptor (dm_tb 26).1.desc).map (fun d => d.parameters.length) = some 1 := by decide +kernel
theorem mo_27 : dm_Mok dm_tb 27 := ⟨wd_355, wd_61, ⟨by decide, by decide⟩, by decide, by decide⟩
theorem pd_27 : (parseMethodDescriptor (dm_tb 27).1.desc).map (fun d => d.parameters.length) = some 1 := by decide +kernel
theorem mo_28 : dm_Mok dm_tb 28 := ⟨wd_549, wd_61, ⟨by decide, by decide⟩, by decide, by decide⟩
theorem pd_28 : (parseMethodDescriptor (dm_tb 28).1.desc).map (fun d => d.parameters.length) = some 1 := by decide +kernel
theorem mo_29 : dm_Mok dm_tb 29 := ⟨wd_448, wd_61, ⟨by decide, by decide⟩, by decide, by decide⟩
theorem pd_29 : (parseMethodDescriptor (dm_tb 29).1.desc).map (fun d => d.parameters.length) = some 1 := by decide +kernel
theorem mo_30 : dm_Mok dm_tb 30 := ⟨wd_810, wd_61, ⟨by decide, by decide⟩, by decide, by decide⟩
theorem pd_30 : (parseMethodDescriptor (dm_tb 30).1.desc).map (fun d => d.parameters.length) = some 0 := by decide +kernel
theorem mo_31 : dm_Mok dm_tb 31 := ⟨wd_815, wd_61, ⟨by decide, by decide⟩, by decide, by decide⟩
theorem pd_31 : (parseMethodDescriptor (dm_tb 31).1.desc).map (fun d => d.parameters.length) = some 0 := by decide +kernel
theorem mo_32 : dm_Mok dm_tb 32 := ⟨wd_820, wd_61, ⟨by decide, by decide⟩, by decide, by decide⟩
theorem pd_32 : (parseMethodDescriptor (dm_tb 32).1.desc).map (fun d => d.parameters.length) = some 0 := by decide +kernel
theorem mo_33 : dm_Mok dm_tb 33 := ⟨wd_792, wd_61, ⟨by decide, by decide⟩, by decide, by decide⟩
theorem pd_33 : (parseMethodDescriptor (dm_tb 33).1.desc).map (fun d => d.parameters.length) = some 1 := by decide +kernel
theorem mo_34 : dm_Mok dm_tb 34 := ⟨wd_387, wd_72, ⟨by decide, by decide⟩, by decide, by decide⟩
theorem pd_34 : (parseMethodDescriptor (dm_tb 34).1.desc).map (fun d => d.parameters.length) = some 2 := by decide +kernel
theorem mo_35 : dm_Mok dm_tb 35 := ⟨wd_390, wd_72, ⟨by decide, by decide⟩, by decide, by decide⟩
theorem pd_35 : (parseMethodDescriptor (dm_tb 35).1.desc).map (fun d => d.parameters.length) = some 2 := by decide +kernel
theorem mo_36 : dm_Mok dm_tb 36 := ⟨wd_411, wd_72, ⟨by decide, by decide⟩, by decide, by decide⟩
theorem pd_36 : (parseMethodDescriptor (dm_tb 36).1.desc).map (fun d => d.parameters.length) = some 3 := by decide +kernel
theorem mo_37 : dm_Mok dm_tb 37 := ⟨wd_415, wd_72, ⟨by decide, by decide⟩, by decide, by decide⟩
theorem pd_37 : (parseMethodDescriptor (dm_tb 37).1.desc).map (fun d => d.parameters.length) = some 4 := by decide +kernel
theorem mo_38 : dm_Mok dm_tb 38 := ⟨wd_517, wd_72, ⟨by decide, by decide⟩, by decide, by decide⟩
theorem pd_38 : (parseMethodDescriptor (dm_tb 38).1.desc).map (fun d => d.parameters.length) = some 3 := by decide +kernel
theorem mo_39 : dm_Mok dm_tb 39 := ⟨wd_520, wd_72, ⟨by decide, by decide⟩, by decide, by decide⟩
theorem pd_39 : (parseMethodDescriptor (dm_tb 39).1.desc).map (fun d => d.parameters.length) = some 6 := by decide +kernel
theorem mo_40 : dm_Mok dm_tb 40 := ⟨wd_463, wd_72, ⟨by decide, by decide⟩, by decide, by decide⟩
theorem pd_40 : (parseMethodDescriptor (dm_tb 40).1.desc).map (fun d => d.parameters.length) = some 3 := by decide +kernel
theorem mo_41 : dm_Mok dm_tb 41 := ⟨wd_466, wd_72, ⟨by decide, by decide⟩, by decide, by decide⟩
theorem pd_41 : (parseMethodDescriptor (dm_tb 41).1.desc).map (fun d => d.parameters.length) = some 4 := by decide +kernel
theorem mo_42 : dm_Mok dm_tb 42 := ⟨wd_496, wd_72, ⟨by decide, by decide⟩, by decide, by decide⟩
theorem pd_42 : (parseMethodDescriptor (dm_tb 42).1.desc).map (fun d => d.parameters.length) = some 4 := by decide +kernel
theorem mo_43 : dm_Mok dm_tb 43 := ⟨wd_499, wd_72, ⟨by decide, by decide⟩, by decide, by decide⟩
theorem pd_43 : (parseMethodDescriptor (dm_tb 43).1.desc).map (fun d => d.parameters.length) = some 4 := by decide +kernel
theorem mo_44 : dm_Mok dm_tb 44 := ⟨wd_105, wd_63, ⟨by decide, by decide⟩, by decide, by decide⟩
theorem pd_44 : (parseMethodDescriptor (dm_tb 44).1.desc).map (fun d => d.parameters.length) = some 1 := by decide +kernel
theorem mo_45 : dm_Mok dm_tb 45 := ⟨wd_287, wd_63, ⟨by decide, by decide⟩, by decide, by decide⟩
theorem pd_45 : (parseMethodDescriptor (dm_tb 45).1.desc).map (fun d => d.parameters.length) = some 1 := by decide +kernel
theorem mo_46 : dm_Mok dm_tb 46 := ⟨wd_254, wd_63, ⟨by decide, by decide⟩, by decide, by decide⟩
theorem pd_46 : (parseMethodDescriptor (dm_tb 46).1.desc).map (fun d => d.parameters.length) = some 2 := by decide +kernel
theorem mo_47 : dm_Mok dm_tb 47 := ⟨wd_710, wd_63, ⟨by decide, by decide⟩, by decide, by decide⟩
theorem pd_47 : (parseMethodDescriptor (dm_tb 47).1.desc).map (fun d => d.parameters.length) = some 2 := by decide +kernel
theorem mo_48 : dm_Mok dm_tb 48 := ⟨wd_258, wd_63, ⟨by decide, by decide⟩, by decide, by decide⟩
theorem pd_48 : (parseMethodDescriptor (dm_tb 48).1.desc).map (fun d => d.parameters.length) = some 1 := by decide +kernel
theorem mo_49 : dm_Mok dm_tb 49 := ⟨wd_193, wd_66, ⟨by decide, by decide⟩, by decide, by decide⟩
theorem pd_49 : (parseMethodDescriptor (dm_tb 49).1.desc).map (fun d => d.parameters.length) = some 0 := by decide +kernel
theorem mo_50 : dm_Mok dm_tb 50 := ⟨wd_662, wd_66, ⟨by decide, by decide⟩, by decide, by decide⟩
theorem pd_50 : (parseMethodDescriptor (dm_tb 50).1.desc).map (fun d => d.parameters.length) = some 2 := by decide +kernel
theorem mo_51 : dm_Mok dm_tb 51 := ⟨wd_587, wd_66, ⟨by decide, by decide⟩, by decide, by decide⟩
theorem pd_51 : (parseMethodDescriptor (dm_tb 51).1.desc).map (fun d => d.parameters.length) = some 3 := by decide +kernel
theorem mo_52 : dm_Mok dm_tb 52 := ⟨wd_608, wd_66, ⟨by decide, by decide⟩, by decide, by decide⟩
theorem pd_52 : (parseMethodDescriptor (dm_tb 52).1.desc).map (fun d => d.parameters.length) = some 2 := by decide +kernel
theorem mo_53 : dm_Mok dm_tb 53 := ⟨wd_590, wd_66, ⟨by decide, by decide⟩, by decide, by decide⟩
theorem pd_53 : (parseMethodDescriptor (dm_tb 53).1.desc).map (fun d => d.parameters.length) = some 3 := by decide +kernel
theorem mo_54 : dm_Mok dm_tb 54 := ⟨wd_223, wd_68, ⟨by decide, by decide⟩, by decide, by decide⟩
theorem pd_54 : (parseMethodDescriptor (dm_tb 54).1.desc).map (fun d => d.parameters.length) = some 1 := by decide +kernel
theorem mo_55 : dm_Mok dm_tb 55 := ⟨wd_780, wd_68, ⟨by decide, by decide⟩, by decide, by decide⟩
theorem pd_55 : (parseMethodDescriptor (dm_tb 55).1.desc).map (fun d => d.parameters.length) = some 0 := by decide +kernel
theorem mo_56 : dm_Mok dm_tb 56 := ⟨wd_737, wd_68, ⟨by decide, by decide⟩, by decide, by decide⟩
theorem pd_56 : (parseMethodDescriptor (dm_tb 56).1.desc).map (fun d => d.parameters.length) = some 1 := by decide +kernel
theorem mo_57 : dm_Mok dm_tb 57 := ⟨wd_749, wd_68, ⟨by decide, by decide⟩, by decide, by decide⟩
theorem pd_57 : (parseMethodDescriptor (dm_tb 57).1.desc).map (fun d => d.parameters.length) = some 0 := by decide +kernel
theorem mo_58 : dm_Mok dm_tb 58 := ⟨wd_745, wd_68, ⟨by decide, by decide⟩, by decide, by decide⟩
theorem pd_58 : (parseMethodDescriptor (dm_tb 58).1.desc).map (fun d => d.parameters.length) = some 1 := by decide +kernel
theorem mo_59 : dm_Mok dm_tb 59 := ⟨wd_757, wd_68, ⟨by decide, by decide⟩, by decide, by decide⟩
theorem pd_59 : (parseMethodDescriptor (dm_tb 59).1.desc).map (fun d => d.parameters.length) = some 0 := by decide +kernel
theorem mo_60 : dm_Mok dm_tb 60 := ⟨wd_753, wd_68, ⟨by decide, by decide⟩, by decide, by decide⟩
theorem pd_60 : (parseMethodDescriptor (dm_tb 60).1.desc).map (fun d => d.parameters.length) = some 0 := by decide +kernel
theorem mo_61 : dm_Mok dm_tb 61 := ⟨wd_766, wd_68, ⟨by decide, by decide⟩, by decide, by decide⟩
theorem pd_61 : (parseMethodDescriptor (dm_tb 61).1.desc).map (fun d => d.parameters.length) = some 0 := by decide +kernel
theorem mo_62 : dm_Mok dm_tb 62 := ⟨wd_741, wd_68, ⟨by decide, by decide⟩, by decide, by decide⟩
theorem pd_62 : (parseMethodDescriptor (dm_tb 62).1.desc).map (fun d => d.parameters.length) = some 2 := by decide +kernel
theorem mo_63 : dm_Mok dm_tb 63 := ⟨wd_762, wd_68, ⟨by decide, by decide⟩, by decide, by decide⟩
theorem pd_63 : (parseMethodDescriptor (dm_tb 63).1.desc).map (fun d => d.parameters.length) = some 3 := by decide +kernel
theorem mo_64 : dm_Mok dm_tb 64 := ⟨wd_771, wd_68, ⟨by decide, by decide⟩, by decide, by decide⟩
theorem pd_64 : (parseMethodDescriptor (dm_tb 64).1.desc).map (fun d => d.parameters.length) = some 3 := by decide +kernel
theorem mo_65 : dm_Mok dm_tb 65 := ⟨wd_556, wd_73, ⟨by decide, by decide⟩, by decide, by decide⟩
theorem pd_65 : (parseMethodDescriptor (dm_tb 65).1.desc).map (fun d => d.parameters.length) = some 3 := by decide +kernel
theorem mo_66 : dm_Mok dm_tb 66 := ⟨wd_559, wd_73, ⟨by decide, by decide⟩, by decide, by decide⟩
theorem pd_66 : (parseMethodDescriptor (dm_tb 66).1.desc).map (fun d => d.parameters.length) = some 5 := by decide +kernel
theorem mo_67 : dm_Mok dm_tb 67 := ⟨wd_670, wd_73, ⟨by decide, by decide⟩, by decide, by decide⟩
theorem pd_67 : (parseMethodDescriptor (dm_tb 67).1.desc).map (fun d => d.parameters.length) = some 3 := by decide +kernel
theorem mo_68 : dm_Mok dm_tb 68 := ⟨wd_673, wd_73, ⟨by decide, by decide⟩, by decide, by decide⟩
theorem pd_68 : (parseMethodDescriptor (dm_tb 68).1.desc).map (fun d => d.parameters.length) = some 6 := by decide +kernel
theorem mo_69 : dm_Mok dm_tb 69 := ⟨wd_615, wd_73, ⟨by decide, by decide⟩, by decide, by decide⟩
theorem pd_69 : (parseMethodDescriptor (dm_tb 69).1.desc).map (fun d => d.parameters.length) = some 3 := by decide +kernel
theorem mo_70 : dm_Mok dm_tb 70 := ⟨wd_618, wd_73, ⟨by decide, by decide⟩, by decide, by decide⟩
theorem pd_70 : (parseMethodDescriptor (dm_tb 70).1.desc).map (fun d => d.parameters.length) = some 4 := by decide +kernel
theorem mo_71 : dm_Mok dm_tb 71 := ⟨wd_98, wd_62, ⟨by decide, by decide⟩, by decide, by decide⟩
theorem pd_71 : (parseMethodDescriptor (dm_tb 71).1.desc).map (fun d => d.parameters.length) = some 0 := by decide +kernel
theorem mo_72 : dm_Mok dm_tb 72 := ⟨wd_246, wd_62, ⟨by decide, by decide⟩, by decide, by decide⟩
theorem pd_72 : (parseMethodDescriptor (dm_tb 72).1.desc).map (fun d => d.parameters.length) = some 0 := by decide +kernel
theorem mo_73 : dm_Mok dm_tb 73 := ⟨wd_301, wd_62, ⟨by decide, by decide⟩, by decide, by decide⟩
theorem pd_73 : (parseMethodDescriptor (dm_tb 73).1.desc).map (fun d => d.parameters.length) = some 0 := by decide +kernel
theorem mo_74 : dm_Mok dm_tb 74 := ⟨wd_438, wd_62, ⟨by decide, by decide⟩, by decide, by decide⟩
theorem pd_74 : (parseMethodDescriptor (dm_tb 74).1.desc).map (fun d => d.parameters.length) = some 1 := by decide +kernel
theorem mo_75 : dm_Mok dm_tb 75 := ⟨wd_383, wd_62, ⟨by decide, by decide⟩, by decide, by decide⟩
theorem pd_75 : (parseMethodDescriptor (dm_tb 75).1.desc).map (fun d => d.parameters.length) = some 1 := by decide +kernel
theorem mo_76 : dm_Mok dm_tb 76 := ⟨wd_482, wd_62, ⟨by decide, by decide⟩, by decide, by decide⟩
theorem pd_76 : (parseMethodDescriptor (dm_tb 76).1.desc).map (fun d => d.parameters.length) = some 2 := by decide +kernel
theorem mo_77 : dm_Mok dm_tb 77 := ⟨wd_295, wd_62, ⟨by decide, by decide⟩, by decide, by decide⟩
theorem pd_77 : (parseMethodDescriptor (dm_tb 77).1.desc).map (fun d => d.parameters.length) = some 1 := by decide +kernel
theorem mo_78 : dm_Mok dm_tb 78 := ⟨wd_379, wd_62, ⟨by decide, by decide⟩, by decide, by decide⟩
theorem pd_78 : (parseMethodDescriptor (dm_tb 78).1.desc).map (fun d => d.parameters.length) = some 2 := by decide +kernel
theorem mo_79 : dm_Mok dm_tb 79 := ⟨wd_395, wd_62, ⟨by decide, by decide⟩, by decide, by decide⟩
theorem pd_79 : (parseMethodDescriptor (dm_tb 79).1.desc).map (fun d => d.parameters.length) = some 1 := by decide +kernel
theorem mo_80 : dm_Mok dm_tb 80 := ⟨wd_400, wd_62, ⟨by decide, by decide⟩, by decide, by decide⟩
theorem pd_80 : (parseMethodDescriptor (dm_tb 80).1.desc).map (fun d => d.parameters.length) = some 1 := by decide +kernel
theorem mo_81 : dm_Mok dm_tb 81 := ⟨wd_250, wd_62, ⟨by decide, by decide⟩, by decide, by decide⟩
theorem pd_81 : (parseMethodDescriptor (dm_tb 81).1.desc).map (fun d => d.parameters.length) = some 1 := by decide +kernel
theorem mo_82 : dm_Mok dm_tb 82 := ⟨wd_420, wd_62, ⟨by decide, by decide⟩, by decide, by decide⟩
theorem pd_82 : (parseMethodDescriptor (dm_tb 82).1.desc).map (fun d => d.parameters.length) = some 1 := by decide +kernel
theorem mo_83 : dm_Mok dm_tb 83 := ⟨wd_486, wd_62, ⟨by decide, by decide⟩, by decide, by decide⟩
theorem pd_83 : (parseMethodDescriptor (dm_tb 83).1.desc).map (fun d => d.parameters.length) = some 1 := by decide +kernel
theorem mo_84 : dm_Mok dm_tb 84 := ⟨wd_291, wd_62, ⟨by decide, by decide⟩, by decide, by decide⟩
theorem pd_84 : (parseMethodDescriptor (dm_tb 84).1.desc).map (fun d => d.parameters.length) = some 1 := by decide +kernel
theorem mo_85 : dm_Mok dm_tb 85 := ⟨wd_424, wd_62, ⟨by decide, by decide⟩, by decide, by decide⟩
theorem pd_85 : (parseMethodDescriptor (dm_tb 85).1.desc).map (fun d => d.parameters.length) = some 1 := by decide +kernel
theorem mo_86 : dm_Mok dm_tb 86 := ⟨wd_492, wd_62, ⟨by decide, by decide⟩, by decide, by decide⟩
theorem pd_86 : (parseMethodDescriptor (dm_tb 86).1.desc).map (fun d => d.parameters.length) = some 2 := by decide +kernel
theorem mo_87 : dm_Mok dm_tb 87 := ⟨wd_698, wd_62, ⟨by decide, by decide⟩, by decide, by decide⟩
theorem pd_87 : (parseMethodDescriptor (dm_tb 87).1.desc).map (fun d => d.parameters.length) = some 3 := by decide +kernel
theorem mo_88 : dm_Mok dm_tb 88 := ⟨wd_470, wd_62, ⟨by decide, by decide⟩, by decide, by decide⟩
theorem pd_88 : (parseMethodDescriptor (dm_tb 88).1.desc).map (fun d => d.parameters.length) = some 1 := by decide +kernel
theorem mo_89 : dm_Mok dm_tb 89 := ⟨wd_473, wd_62, ⟨by decide, by decide⟩, by decide, by decide⟩
theorem pd_89 : (parseMethodDescriptor (dm_tb 89).1.desc).map (fun d => d.parameters.length) = some 3 := by decide +kernel
theorem mo_90 : dm_Mok dm_tb 90 := ⟨wd_796, wd_62, ⟨by decide, by decide⟩, by decide, by decide⟩
theorem pd_90 : (parseMethodDescriptor (dm_tb 90).1.desc).map (fun d => d.parameters.length) = some 1 := by decide +kernel
theorem mo_91 : dm_Mok dm_tb 91 := ⟨wd_634, wd_79, ⟨by decide, by decide⟩, by decide, by decide⟩
theorem pd_91 : (parseMethodDescriptor (dm_tb 91).1.desc).map (fun d => d.parameters.length) = some 4 := by decide +kernel
theorem mo_92 : dm_Mok dm_tb 92 := ⟨wd_648, wd_79, ⟨by decide, by decide⟩, by decide, by decide⟩
theorem pd_92 : (parseMethodDescriptor (dm_tb 92).1.desc).map (fun d => d.parameters.length) = some 4 := by decide +kernel
theorem mo_93 : dm_Mok dm_tb 93 := ⟨wd_651, wd_79, ⟨by decide, by decide⟩, by decide, by decide⟩
theorem pd_93 : (parseMethodDescriptor (dm_tb 93).1.desc).map (fun d => d.parameters.length) = some 2 := by decide +kernel
theorem mo_94 : dm_Mok dm_tb 94 := ⟨wd_84, wd_60, ⟨by decide, by decide⟩, by decide, by decide⟩
theorem pd_94 : (parseMethodDescriptor (dm_tb 94).1.desc).map (fun d => d.parameters.length) = some 0 := by decide +kernel
theorem mo_95 : dm_Mok dm_tb 95 := ⟨wd_347, wd_60, ⟨by decide, by decide⟩, by decide, by decide⟩
theorem pd_95 : (parseMethodDescriptor (dm_tb 95).1.desc).map (fun d => d.parameters.length) = some 0 := by decide +kernel
theorem mo_96 : dm_Mok dm_tb 96 := ⟨wd_351, wd_60, ⟨by decide, by decide⟩, by decide, by decide⟩
theorem pd_96 : (parseMethodDescriptor (dm_tb 96).1.desc).map (fun d => d.parameters.length) = some 1 := by decide +kernel
theorem mo_97 : dm_Mok dm_tb 97 := ⟨wd_456, wd_60, ⟨by decide, by decide⟩, by decide, by decide⟩
theorem pd_97 : (parseMethodDescriptor (dm_tb 97).1.desc).map (fun d => d.parameters.length) = some 1 := by decide +kernel
theorem mo_98 : dm_Mok dm_tb 98 := ⟨wd_505, wd_60, ⟨by decide, by decide⟩, by decide, by decide⟩
theorem pd_98 : (parseMethodDescriptor (dm_tb 98).1.desc).map (fun d => d.parameters.length) = some 2 := by decide +kernel
theorem mo_99 : dm_Mok dm_tb 99 := ⟨wd_524, wd_60, ⟨by decide, by decide⟩, by decide, by decide⟩
theorem pd_99 : (parseMethodDescriptor (dm_tb 99).1.desc).map (fun d => d.parameters.length) = some 1 := by decide +kernel
theorem mo_100 : dm_Mok dm_tb 100 := ⟨wd_532, wd_60, ⟨by decide, by decide⟩, by decide, by decide⟩
theorem pd_100 : (parseMethodDescriptor (dm_tb 100).1.desc).map (fun d => d.parameters.length) = some 1 := by decide +kernel
theorem mo_101 : dm_Mok dm_tb 101 := ⟨wd_536, wd_60, ⟨by decide, by decide⟩, by decide, by decide⟩
theorem pd_101 : (parseMethodDescriptor (dm_tb 101).1.desc).map (fun d => d.parameters.length) = some 2 := by decide +kernel
theorem mo_102 : dm_Mok dm_tb 102 := ⟨wd_540, wd_60, ⟨by decide, by decide⟩, by decide, by decide⟩
theorem pd_102 : (parseMethodDescriptor (dm_tb 102).1.desc).map (fun d => d.parameters.length) = some 1 := by decide +kernel
theorem mo_103 : dm_Mok dm_tb 103 := ⟨wd_545, wd_60, ⟨by decide, by decide⟩, by decide, by decide⟩
theorem pd_103 : (parseMethodDescriptor (dm_tb 103).1.desc).map (fun d => d.parameters.length) = some 2 := by decide +kernel
theorem mo_104 : dm_Mok dm_tb 104 := ⟨wd_567, wd_60, ⟨by decide, by decide⟩, by decide, by decide⟩
theorem pd_104 : (parseMethodDescriptor (dm_tb 104).1.desc).map (fun d => d.parameters.length) = some 0 := by decide +kernel
theorem mo_105 : dm_Mok dm_tb 105 := ⟨wd_578, wd_60, ⟨by decide, by decide⟩, by decide, by decide⟩
theorem pd_105 : (parseMethodDescriptor (dm_tb 105).1.desc).map (fun d => d.parameters.length) = some 2 := by decide +kernel
theorem mo_106 : dm_Mok dm_tb 106 := ⟨wd_583, wd_60, ⟨by decide, by decide⟩, by decide, by decide⟩
theorem pd_106 : (parseMethodDescriptor (dm_tb 106).1.desc).map (fun d => d.parameters.length) = some 2 := by decide +kernel
theorem mo_107 : dm_Mok dm_tb 107 := ⟨wd_612, wd_60, ⟨by decide, by decide⟩, by decide, by decide⟩
theorem pd_107 : (parseMethodDescriptor (dm_tb 107).1.desc).map (fun d => d.parameters.length) = some 2 := by decide +kernel
theorem mo_108 : dm_Mok dm_tb 108 := ⟨wd_834, wd_60, ⟨by decide, by decide⟩, by decide, by decide⟩
theorem pd_108 : (parseMethodDescriptor (dm_tb 108).1.desc).map (fun d => d.parameters.length) = some 3 := by decide +kernel
theorem mo_109 : dm_Mok dm_tb 109 := ⟨wd_907, wd_60, ⟨by decide, by decide⟩, by decide, by decide⟩
theorem pd_109 : (parseMethodDescriptor (dm_tb 109).1.desc).map (fun d => d.parameters.length) = some 3 := by decide +kernel
theorem mo_110 : dm_Mok dm_tb 110 := ⟨wd_623, wd_60, ⟨by decide, by decide⟩, by decide, by decide⟩
theorem pd_110 : (parseMethodDescriptor (dm_tb 110).1.desc).map (fun d => d.parameters.length) = some 2 := by decide +kernel
theorem mo_111 : dm_Mok dm_tb 111 := ⟨wd_666, wd_60, ⟨by decide, by decide⟩, by decide, by decide⟩
theorem pd_111 : (parseMethodDescriptor (dm_tb 111).1.desc).map (fun d => d.parameters.length) = some 3 := by decide +kernel
theorem mo_112 : dm_Mok dm_tb 112 := ⟨wd_679, wd_60, ⟨by decide, by decide⟩, by decide, by decide⟩
theorem pd_112 : (parseMethodDescriptor (dm_tb 112).1.desc).map (fun d => d.parameters.length) = some 0 := by decide +kernel
theorem mo_113 : dm_Mok dm_tb 113 := ⟨wd_683, wd_60, ⟨by decide, by decide⟩, by decide, by decide⟩
theorem pd_113 : (parseMethodDescriptor (dm_tb 113).1.desc).map (fun d => d.parameters.length) = some 0 := by decide +kernel
theorem mo_114 : dm_Mok dm_tb 114 := ⟨wd_687, wd_60, ⟨by decide, by decide⟩, by decide, by decide⟩
theorem pd_114 : (parseMethodDescriptor (dm_tb 114).1.desc).map (fun d => d.parameters.length) = some 6 := by decide +kernel
theorem mo_115 : dm_Mok dm_tb 115 := ⟨wd_702, wd_60, ⟨by decide, by decide⟩, by decide, by decide⟩
theorem pd_115 : (parseMethodDescriptor (dm_tb 115).1.desc).map (fun d => d.parameters.length) = some 1 := by decide +kernel
theorem mo_116 : dm_Mok dm_tb 116 := ⟨wd_715, wd_60, ⟨by decide, by decide⟩, by decide, by decide⟩
theorem pd_116 : (parseMethodDescriptor (dm_tb 116).1.desc).map (fun d => d.parameters.length) = some 1 := by decide +kernel
theorem mo_117 : dm_Mok dm_tb 117 := ⟨wd_724, wd_60, ⟨by decide, by decide⟩, by decide, by decide⟩
theorem pd_117 : (parseMethodDescriptor (dm_tb 117).1.desc).map (fun d => d.parameters.length) = some 2 := by decide +kernel
theorem mo_118 : dm_Mok dm_tb 118 := ⟨wd_729, wd_60, ⟨by decide, by decide⟩, by decide, by decide⟩
theorem pd_118 : (parseMethodDescriptor (dm_tb 118).1.desc).map (fun d => d.parameters.length) = some 1 := by decide +kernel
theorem mo_119 : dm_Mok dm_tb 119 := ⟨wd_733, wd_60, ⟨by decide, by decide⟩, by decide, by decide⟩
theorem pd_119 : (parseMethodDescriptor (dm_tb 119).1.desc).map (fun d => d.parameters.length) = some 0 := by decide +kernel
theorem mo_120 : dm_Mok dm_tb 120 := ⟨wd_784, wd_60, ⟨by decide, by decide⟩, by decide, by decide⟩
theorem pd_120 : (parseMethodDescriptor (dm_tb 120).1.desc).map (fun d => d.parameters.length) = some 0 := by decide +kernel
theorem mo_121 : dm_Mok dm_tb 121 := ⟨wd_788, wd_60, ⟨by decide, by decide⟩, by decide, by decide⟩
theorem pd_121 : (parseMethodDescriptor (dm_tb 121).1.desc).map (fun d => d.parameters.length) = some 0 := by decide +kernel
theorem mo_122 : dm_Mok dm_tb 122 := ⟨wd_802, wd_60, ⟨by decide, by decide⟩, by decide, by decide⟩
theorem pd_122 : (parseMethodDescriptor (dm_tb 122).1.desc).map (fun d => d.parameters.length) = some 0 := by decide +kernel
theorem mo_123 : dm_Mok dm_tb 123 := ⟨wd_806, wd_60, ⟨by decide, by decide⟩, by decide, by decide⟩
theorem pd_123 : (parseMethodDescriptor (dm_tb 123).1.desc).map (fun d => d.parameters.length) = some 1 := by decide +kernel
theorem mo_124 : dm_Mok dm_tb 124 := ⟨wd_238, wd_60, ⟨by decide, by decide⟩, by decide, by decide⟩
theorem pd_124 : (parseMethodDescriptor (dm_tb 124).1.desc).map (fun d => d.parameters.length) = some 0 := by decide +kernel
theorem mo_125 : dm_Mok dm_tb 125 := ⟨wd_430, wd_60, ⟨by decide, by decide⟩, by decide, by decide⟩
theorem pd_125 : (parseMethodDescriptor (dm_tb 125).1.desc).map (fun d => d.parameters.length) = some 4 := by decide +kernel
theorem mo_126 : dm_Mok dm_tb 126 := ⟨wd_509, wd_60, ⟨by decide, by decide⟩, by decide, by decide⟩
theorem pd_126 : (parseMethodDescriptor (dm_tb 126).1.desc).map (fun d => d.parameters.length) = some 2 := by decide +kernel
theorem mo_127 : dm_Mok dm_tb 127 := ⟨wd_553, wd_60, ⟨by decide, by decide⟩, by decide, by decide⟩
theorem pd_127 : (parseMethodDescriptor (dm_tb 127).1.desc).map (fun d => d.parameters.length) = some 2 := by decide +kernel
theorem mo_128 : dm_Mok dm_tb 128 := ⟨wd_460, wd_60, ⟨by decide, by decide⟩, by decide, by decide⟩
theorem pd_128 : (parseMethodDescriptor (dm_tb 128).1.desc).map (fun d => d.parameters.length) = some 1 := by decide +kernel
theorem mo_129 : dm_Mok dm_tb 129 := ⟨wd_514, wd_60, ⟨by decide, by decide⟩, by decide, by decide⟩
theorem pd_129 : (parseMethodDescriptor (dm_tb 129).1.desc).map (fun d => d.parameters.length) = some 3 := by decide +kernel
theorem mo_130 : dm_Mok dm_tb 130 := ⟨wd_528, wd_60, ⟨by decide, by decide⟩, by decide, by decide⟩
theorem pd_130 : (parseMethodDescriptor (dm_tb 130).1.desc).map (fun d => d.parameters.length) = some 1 := by decide +kernel
theorem mo_131 : dm_Mok dm_tb 131 := ⟨wd_694, wd_60, ⟨by decide, by decide⟩, by decide, by decide⟩
theorem pd_131 : (parseMethodDescriptor (dm_tb 131).1.desc).map (fun d => d.parameters.length) = some 4 := by decide +kernel
theorem mo_132 : dm_Mok dm_tb 132 := ⟨wd_631, wd_60, ⟨by decide, by decide⟩, by decide, by decide⟩
theorem pd_132 : (parseMethodDescriptor (dm_tb 132).1.desc).map (fun d => d.parameters.length) = some 1 := by decide +kernel
theorem mo_133 : dm_Mok dm_tb 133 := ⟨wd_690, wd_60, ⟨by decide, by decide⟩, by decide, by decide⟩
theorem pd_133 : (parseMethodDescriptor (dm_tb 133).1.desc).map (fun d => d.parameters.length) = some 2 := by decide +kernel
theorem mo_134 : dm_Mok dm_tb 134 := ⟨wd_912, wd_71, ⟨by decide, by decide⟩, by decide, by decide⟩
theorem pd_134 : (parseMethodDescriptor (dm_tb 134).1.desc).map (fun d => d.parameters.length) = some 0 := by decide +kernel
theorem mo_135 : dm_Mok dm_tb 135 := ⟨wd_1159, wd_71, ⟨by decide, by decide⟩, by decide, by decide⟩
theorem pd_135 : (parseMethodDescriptor (dm_tb 135).1.desc).map (fun d => d.parameters.length) = some 0 := by decide +kernel
theorem mo_136 : dm_Mok dm_tb 136 := ⟨wd_917, wd_71, ⟨by decide, by decide⟩, by decide, by decide⟩
theorem pd_136 : (parseMethodDescriptor (dm_tb 136).1.desc).map (fun d => d.parameters.length) = some 0 := by decide +kernel
theorem mo_137 : dm_Mok dm_tb 137 := ⟨wd_1172, wd_71, ⟨by decide, by decide⟩, by decide, by decide⟩
theorem pd_137 : (parseMethodDescriptor (dm_tb 137).1.desc).map (fun d => d.parameters.length) = some 1 := by decide +kernel
theorem mo_138 : dm_Mok dm_tb 138 := ⟨wd_1168, wd_71, ⟨by decide, by decide⟩, by decide, by decide⟩
theorem pd_138 : (parseMethodDescriptor (dm_tb 138).1.desc).map (fun d => d.parameters.length) = some 1 := by decide +kernel
theorem mo_139 : dm_Mok dm_tb 139 := ⟨wd_1176, wd_71, ⟨by decide, by decide⟩, by decide, by decide⟩
theorem pd_139 : (parseMethodDescriptor (dm_tb 139).1.desc).map (fun d => d.parameters.length) = some 1 := by decide +kernel
theorem mo_140 : dm_Mok dm_tb 140 := ⟨wd_1188, wd_71, ⟨by decide, by decide⟩, by decide, by decide⟩
theorem pd_140 : (parseMethodDescriptor (dm_tb 140).1.desc).map (fun d => d.parameters.length) = some 2 := by decide +kernel
theorem mo_141 : dm_Mok dm_tb 141 := ⟨wd_922, wd_71, ⟨by decide, by decide⟩, by decide, by decide⟩
theorem pd_141 : (parseMethodDescriptor (dm_tb 141).1.desc).map (fun d => d.parameters.length) = some 3 := by decide +kernel
theorem mo_142 : dm_Mok dm_tb 142 := ⟨wd_1196, wd_71, ⟨by decide, by decide⟩, by decide, by decide⟩
theorem pd_142 : (parseMethodDescriptor (dm_tb 142).1.desc).map (fun d => d.parameters.length) = some 1 := by decide +kernel
theorem mo_143 : dm_Mok dm_tb 143 := ⟨wd_1180, wd_71, ⟨by decide, by decide⟩, by decide, by decide⟩
theorem pd_143 : (parseMethodDescriptor (dm_tb 143).1.desc).map (fun d => d.parameters.length) = some 1 := by decide +kernel
theorem mo_144 : dm_Mok dm_tb 144 := ⟨wd_943, wd_71, ⟨by decide, by decide⟩, by decide, by decide⟩
theorem pd_144 : (parseMethodDescriptor (dm_tb 144).1.desc).map (fun d => d.parameters.length) = some 1 := by decide +kernel
theorem mo_145 : dm_Mok dm_tb 145 := ⟨wd_947, wd_71, ⟨by decide, by decide⟩, by decide, by decide⟩
theorem pd_145 : (parseMethodDescriptor (dm_tb 145).1.desc).map (fun d => d.parameters.length) = some 1 := by decide +kernel
theorem mo_146 : dm_Mok dm_tb 146 := ⟨wd_939, wd_71, ⟨by decide, by decide⟩, by decide, by decide⟩
theorem pd_146 : (parseMethodDescriptor (dm_tb 146).1.desc).map (fun d => d.parameters.length) = some 2 := by decide +kernel
theorem mo_147 : dm_Mok dm_tb 147 := ⟨wd_1216, wd_71, ⟨by decide, by decide⟩, by decide, by decide⟩
theorem pd_147 : (parseMethodDescriptor (dm_tb 147).1.desc).map (fun d => d.parameters.length) = some 2 := by decide +kernel
theorem mo_148 : dm_Mok dm_tb 148 := ⟨wd_1232, wd_71, ⟨by decide, by decide⟩, by decide, by decide⟩
theorem pd_148 : (parseMethodDescriptor (dm_tb 148).1.desc).map (fun d => d.parameters.length) = some 2 := by decide +kernel
theorem mo_149 : dm_Mok dm_tb 149 := ⟨wd_1224, wd_71, ⟨by decide, by decide⟩, by decide, by decide⟩
theorem pd_149 : (parseMethodDescriptor (dm_tb 149).1.desc).map (fun d => d.parameters.length) = some 3 := by decide +kernel
theorem mo_150 : dm_Mok dm_tb 150 := ⟨wd_1228, wd_71, ⟨by decide, by decide⟩, by decide, by decide⟩
theorem pd_150 : (parseMethodDescriptor (dm_tb 150).1.desc).map (fun d => d.parameters.length) = some 1 := by decide +kernel
theorem mo_151 : dm_Mok dm_tb 151 := ⟨wd_1220, wd_71, ⟨by decide, by decide⟩, by decide, by decide⟩
theorem pd_151 : (parseMethodDescriptor (dm_tb 151).1.desc).map (fun d => d.parameters.length) = some 4 := by decide +kernel
theorem mo_152 : dm_Mok dm_tb 152 := ⟨wd_935, wd_71, ⟨by decide, by decide⟩, by decide, by decide⟩
theorem pd_152 : (parseMethodDescriptor (dm_tb 152).1.desc).map (fun d => d.parameters.length) = some 2 := by decide +kernel
theorem mo_153 : dm_Mok dm_tb 153 := ⟨wd_930, wd_71, ⟨by decide, by decide⟩, by decide, by decide⟩
theorem pd_153 : (parseMethodDescriptor (dm_tb 153).1.desc).map (fun d => d.parameters.length) = some 2 := by decide +kernel
theorem mo_154 : dm_Mok dm_tb 154 := ⟨wd_926, wd_71, ⟨by decide, by decide⟩, by decide, by decide⟩
theorem pd_154 : (parseMethodDescriptor (dm_tb 154).1.desc).map (fun d => d.parameters.length) = some 2 := by decide +kernel
theorem mo_155 : dm_Mok dm_tb 155 := ⟨wd_1184, wd_71, ⟨by decide, by decide⟩, by decide, by decide⟩
theorem pd_155 : (parseMethodDescriptor (dm_tb 155).1.desc).map (fun d => d.parameters.length) = some 3 := by decide +kernel
theorem mo_156 : dm_Mok dm_tb 156 := ⟨wd_1192, wd_71, ⟨by decide, by decide⟩, by decide, by decide⟩
theorem pd_156 : (parseMethodDescriptor (dm_tb 156).1.desc).map (fun d => d.parameters.length) = some 2 := by decide +kernel
theorem mo_157 : dm_Mok dm_tb 157 := ⟨wd_1200, wd_71, ⟨by decide, by decide⟩, by decide, by decide⟩
theorem pd_157 : (parseMethodDescriptor (dm_tb 157).1.desc).map (fun d => d.parameters.length) = some 1 := by decide +kernel
theorem mo_158 : dm_Mok dm_tb 158 := ⟨wd_1164, wd_71, ⟨by decide, by decide⟩, by decide, by decide⟩
theorem pd_158 : (parseMethodDescriptor (dm_tb 158).1.desc).map (fun d => d.parameters.length) = some 1 := by decide +kernel
theorem mo_159 : dm_Mok dm_tb 159 := ⟨wd_1212, wd_71, ⟨by decide, by decide⟩, by decide, by decide⟩
theorem pd_159 : (parseMethodDescriptor (dm_tb 159).1.desc).map (fun d => d.parameters.length) = some 2 := by decide +kernel
theorem mo_160 : dm_Mok dm_tb 160 := ⟨wd_1237, wd_71, ⟨by decide, by decide⟩, by decide, by decide⟩
theorem pd_160 : (parseMethodDescriptor (dm_tb 160).1.desc).map (fun d => d.parameters.length) = some 2 := by decide +kernel
theorem mo_161 : dm_Mok dm_tb 161 := ⟨wd_1208, wd_71, ⟨by decide, by decide⟩, by decide, by decide⟩
theorem pd_161 : (parseMethodDescriptor (dm_tb 161).1.desc).map (fun d => d.parameters.length) = some 0 := by decide +kernel
theorem mo_162 : dm_Mok dm_tb 162 := ⟨wd_1241, wd_71, ⟨by decide, by decide⟩, by decide, by decide⟩
theorem pd_162 : (parseMethodDescriptor (dm_tb 162).1.desc).map (fun d => d.parameters.length) = some 1 := by decide +kernel
theorem mo_163 : dm_Mok dm_tb 163 := ⟨wd_1204, wd_71, ⟨by decide, by decide⟩, by decide, by decide⟩
theorem pd_163 : (parseMethodDescriptor (dm_tb 163).1.desc).map (fun d => d.parameters.length) = some 1 := by decide +kernel
theorem mo_164 : dm_Mok dm_tb 164 := ⟨wd_1253, wd_71, ⟨by decide, by decide⟩, by decide, by decide⟩
theorem pd_164 : (parseMethodDescriptor (dm_tb 164).1.desc).map (fun d => d.parameters.length) = some 2 := by decide +kernel
theorem mo_165 : dm_Mok dm_tb 165 := ⟨wd_1257, wd_71, ⟨by decide, by decide⟩, by decide, by decide⟩
theorem pd_165 : (parseMethodDescriptor (dm_tb 165).1.desc).map (fun d => d.parameters.length) = some 2 := by decide +kernel
theorem mo_166 : dm_Mok dm_tb 166 := ⟨wd_1249, wd_71, ⟨by decide, by decide⟩, by decide, by decide⟩
theorem pd_166 : (parseMethodDescriptor (dm_tb 166).1.desc).map (fun d => d.parameters.length) = some 3 := by decide +kernel
theorem mo_167 : dm_Mok dm_tb 167 := ⟨wd_1245, wd_71, ⟨by decide, by decide⟩, by decide, by decide⟩
theorem pd_167 : (parseMethodDescriptor (dm_tb 167).1.desc).map (fun d => d.parameters.length) = some 2 := by decide +kernel
theorem mo_168 : dm_Mok dm_tb 168 := ⟨wd_1261, wd_71, ⟨by decide, by decide⟩, by decide, by decide⟩
theorem pd_168 : (parseMethodDescriptor (dm_tb 168).1.desc).map (fun d => d.parameters.length) = some 1 := by decide +kernel
theorem mo_169 : dm_Mok dm_tb 169 := ⟨wd_1265, wd_71, ⟨by decide, by decide⟩, by decide, by decide⟩
theorem pd_169 : (parseMethodDescriptor (dm_tb 169).1.desc).map (fun d => d.parameters.length) = some 1 := by decide +kernel
theorem mo_170 : dm_Mok dm_tb 170 := ⟨wd_1269, wd_71, ⟨by decide, by decide⟩, by decide, by decide⟩
theorem pd_170 : (parseMethodDescriptor (dm_tb 170).1.desc).map (fun d => d.parameters.length) = some 2 := by decide +kernel
theorem mo_171 : dm_Mok dm_tb 171 := ⟨wd_1273, wd_71, ⟨by decide, by decide⟩, by decide, by decide⟩
theorem pd_171 : (parseMethodDescriptor (dm_tb 171).1.desc).map (fun d => d.parameters.length) = some 1 := by decide +kernel
theorem mo_172 : dm_Mok dm_tb 172 := ⟨wd_1277, wd_71, ⟨by decide, by decide⟩, by decide, by decide⟩
theorem pd_172 : (parseMethodDescriptor (dm_tb 172).1.desc).map (fun d => d.parameters.length) = some 2 := by decide +kernel
theorem mo_173 : dm_Mok dm_tb 173 := ⟨wd_1285, wd_71, ⟨by decide, by decide⟩, by decide, by decide⟩
theorem pd_173 : (parseMethodDescriptor (dm_tb 173).1.desc).map (fun d => d.parameters.length) = some 0 := by decide +kernel
theorem mo_174 : dm_Mok dm_tb 174 := ⟨wd_1281, wd_71, ⟨by decide, by decide⟩, by decide, by decide⟩
theorem pd_174 : (parseMethodDescriptor (dm_tb 174).1.desc).map (fun d => d.parameters.length) = some 2 := by decide +kernel
theorem mo_175 : dm_Mok dm_tb 175 := ⟨wd_1289, wd_71, ⟨by decide, by decide⟩, by decide, by decide⟩
theorem pd_175 : (parseMethodDescriptor (dm_tb 175).1.desc).map (fun d => d.parameters.length) = some 2 := by decide +kernel
theorem mo_176 : dm_Mok dm_tb 176 := ⟨wd_1293, wd_71, ⟨by decide, by decide⟩, by decide, by decide⟩
theorem pd_176 : (parseMethodDescriptor (dm_tb 176).1.desc).map (fun d => d.parameters.length) = some 2 := by decide +kernel
theorem mo_177 : dm_Mok dm_tb 177 := ⟨wd_1304, wd_71, ⟨by decide, by decide⟩, by decide, by decide⟩
theorem pd_177 : (parseMethodDescriptor (dm_tb 177).1.desc).map (fun d => d.parameters.length) = some 2 := by decide +kernel
theorem mo_178 : dm_Mok dm_tb 178 := ⟨wd_1311, wd_71, ⟨by decide, by decide⟩, by decide, by decide⟩
theorem pd_178 : (parseMethodDescriptor (dm_tb 178).1.desc).map (fun d => d.parameters.length) = some 2 := by decide +kernel
theorem mo_179 : dm_Mok dm_tb 179 := ⟨wd_1315, wd_71, ⟨by decide, by decide⟩, by decide, by decide⟩
theorem pd_179 : (parseMethodDescriptor (dm_tb 179).1.desc).map (fun d => d.parameters.length) = some 2 := by decide +kernel
theorem mo_180 : dm_Mok dm_tb 180 := ⟨wd_1308, wd_71, ⟨by decide, by decide⟩, by decide, by decide⟩
theorem pd_180 : (parseMethodDescriptor (dm_tb 180).1.desc).map (fun d => d.parameters.length) = some 3 := by decide +kernel
theorem mo_181 : dm_Mok dm_tb 181 := ⟨wd_1319, wd_71, ⟨by decide, by decide⟩, by decide, by decide⟩
theorem pd_181 : (parseMethodDescriptor (dm_tb 181).1.desc).map (fun d => d.parameters.length) = some 3 := by decide +kernel
theorem mo_182 : dm_Mok dm_tb 182 := ⟨wd_1323, wd_71, ⟨by decide, by decide⟩, by decide, by decide⟩
theorem pd_182 : (parseMethodDescriptor (dm_tb 182).1.desc).map (fun d => d.parameters.length) = some 2 := by decide +kernel
theorem mo_183 : dm_Mok dm_tb 183 := ⟨wd_1348, wd_71, ⟨by decide, by decide⟩, by decide, by decide⟩
theorem pd_183 : (parseMethodDescriptor (dm_tb 183).1.desc).map (fun d => d.parameters.length) = some 1 := by decide +kernel
theorem mo_184 : dm_Mok dm_tb 184 := ⟨wd_1356, wd_71, ⟨by decide, by decide⟩, by decide, by decide⟩
theorem pd_184 : (parseMethodDescriptor (dm_tb 184).1.desc).map (fun d => d.parameters.length) = some 4 := by decide +kernel
theorem mo_185 : dm_Mok dm_tb 185 := ⟨wd_1352, wd_71, ⟨by decide, by decide⟩, by decide, by decide⟩
theorem pd_185 : (parseMethodDescriptor (dm_tb 185).1.desc).map (fun d => d.parameters.length) = some 3 := by decide +kernel
theorem mo_186 : dm_Mok dm_tb 186 := ⟨wd_1360, wd_71, ⟨by decide, by decide⟩, by decide, by decide⟩
theorem pd_186 : (parseMethodDescriptor (dm_tb 186).1.desc).map (fun d => d.parameters.length) = some 0 := by decide +kernel
theorem mo_187 : dm_Mok dm_tb 187 := ⟨wd_1364, wd_71, ⟨by decide, by decide⟩, by decide, by decide⟩
theorem pd_187 : (parseMethodDescriptor (dm_tb 187).1.desc).map (fun d => d.parameters.length) = some 0 := by decide +kernel
theorem mo_188 : dm_Mok dm_tb 188 := ⟨wd_1368, wd_71, ⟨by decide, by decide⟩, by decide, by decide⟩
theorem pd_188 : (parseMethodDescriptor (dm_tb 188).1.desc).map (fun d => d.parameters.length) = some 6 := by decide +kernel
theorem mo_189 : dm_Mok dm_tb 189 := ⟨wd_1335, wd_71, ⟨by decide, by decide⟩, by decide, by decide⟩
theorem pd_189 : (parseMethodDescriptor (dm_tb 189).1.desc).map (fun d => d.parameters.length) = some 1 := by decide +kernel
theorem mo_190 : dm_Mok dm_tb 190 := ⟨wd_1343, wd_71, ⟨by decide, by decide⟩, by decide, by decide⟩
theorem pd_190 : (parseMethodDescriptor (dm_tb 190).1.desc).map (fun d => d.parameters.length) = some 1 := by decide +kernel
theorem mo_191 : dm_Mok dm_tb 191 := ⟨wd_1331, wd_71, ⟨by decide, by decide⟩, by decide, by decide⟩
theorem pd_191 : (parseMethodDescriptor (dm_tb 191).1.desc).map (fun d => d.parameters.length) = some 2 := by decide +kernel
theorem mo_192 : dm_Mok dm_tb 192 := ⟨wd_1339, wd_71, ⟨by decide, by decide⟩, by decide, by decide⟩
theorem pd_192 : (parseMethodDescriptor (dm_tb 192).1.desc).map (fun d => d.parameters.length) = some 3 := by decide +kernel
theorem mo_193 : dm_Mok dm_tb 193 := ⟨wd_1327, wd_71, ⟨by decide, by decide⟩, by decide, by decide⟩
theorem pd_193 : (parseMethodDescriptor (dm_tb 193).1.desc).map (fun d => d.parameters.length) = some 1 := by decide +kernel
theorem mo_194 : dm_Mok dm_tb 194 := ⟨wd_1372, wd_71, ⟨by decide, by decide⟩, by decide, by decide⟩
theorem pd_194 : (parseMethodDescriptor (dm_tb 194).1.desc).map (fun d => d.parameters.length) = some 1 := by decide +kernel
theorem mo_195 : dm_Mok dm_tb 195 := ⟨wd_1376, wd_71, ⟨by decide, by decide⟩, by decide, by decide⟩
theorem pd_195 : (parseMethodDescriptor (dm_tb 195).1.desc).map (fun d => d.parameters.length) = some 1 := by decide +kernel
theorem mo_196 : dm_Mok dm_tb 196 := ⟨wd_1380, wd_71, ⟨by decide, by decide⟩, by decide, by decide⟩
theorem pd_196 : (parseMethodDescriptor (dm_tb 196).1.desc).map (fun d => d.parameters.length) = some 2 := by decide +kernel
theorem mo_197 : dm_Mok dm_tb 197 := ⟨wd_1384, wd_71, ⟨by decide, by decide⟩, by decide, by decide⟩
theorem pd_197 : (parseMethodDescriptor (dm_tb 197).1.desc).map (fun d => d.parameters.length) = some 1 := by decide +kernel
theorem mo_198 : dm_Mok dm_tb 198 := ⟨wd_1396, wd_71, ⟨by decide, by decide⟩, by decide, by decide⟩
theorem pd_198 : (parseMethodDescriptor (dm_tb 198).1.desc).map (fun d => d.parameters.length) = some 1 := by decide +kernel
theorem mo_199 : dm_Mok dm_tb 199 := ⟨wd_1400, wd_71, ⟨by decide, by decide⟩, by decide, by decide⟩
theorem pd_199 : (parseMethodDescriptor (dm_tb 199).1.desc).map (fun d => d.parameters.length) = some 0 := by decide +kernel
theorem mo_200 : dm_Mok dm_tb 200 := ⟨wd_1408, wd_71, ⟨by decide, by decide⟩, by decide, by decide⟩
theorem pd_200 : (parseMethodDescriptor (dm_tb 200).1.desc).map (fun d => d.parameters.length) = some 0 := by decide +kernel
theorem mo_201 : dm_Mok dm_tb 201 := ⟨wd_1392, wd_71, ⟨by decide, by decide⟩, by decide, by decide⟩
theorem pd_201 : (parseMethodDescriptor (dm_tb 201).1.desc).map (fun d => d.parameters.length) = some 1 := by decide +kernel
theorem mo_202 : dm_Mok dm_tb 202 := ⟨wd_1404, wd_71, ⟨by decide, by decide⟩, by decide, by decide⟩
theorem pd_202 : (parseMethodDescriptor (dm_tb 202).1.desc).map (fun d => d.parameters.length) = some 3 := by decide +kernel
theorem mo_203 : dm_Mok dm_tb 203 := ⟨wd_1412, wd_71, ⟨by decide, by decide⟩, by decide, by decide⟩
theorem pd_203 : (parseMethodDescriptor (dm_tb 203).1.desc).map (fun d => d.parameters.length) = some 2 := by decide +kernel
theorem mo_204 : dm_Mok dm_tb 204 := ⟨wd_1388, wd_71, ⟨by decide, by decide⟩, by decide, by decide⟩
theorem pd_204 : (parseMethodDescriptor (dm_tb 204).1.desc).map (fun d => d.parameters.length) = some 0 := by decide +kernel
theorem mo_205 : dm_Mok dm_tb 205 := ⟨wd_1416, wd_71, ⟨by decide, by decide⟩, by decide, by decide⟩
theorem pd_205 : (parseMethodDescriptor (dm_tb 205).1.desc).map (fun d => d.parameters.length) = some 0 := by decide +kernel
theorem mo_206 : dm_Mok dm_tb 206 := ⟨wd_1420, wd_71, ⟨by decide, by decide⟩, by decide, by decide⟩
theorem pd_206 : (parseMethodDescriptor (dm_tb 206).1.desc).map (fun d => d.parameters.length) = some 0 := by decide +kernel
theorem mo_207 : dm_Mok dm_tb 207 := ⟨wd_1424, wd_71, ⟨by decide, by decide⟩, by decide, by decide⟩
theorem pd_207 : (parseMethodDescriptor (dm_tb 207).1.desc).map (fun d => d.parameters.length) = some 0 := by decide +kernel
theorem mo_208 : dm_Mok dm_tb 208 := ⟨wd_1428, wd_71, ⟨by decide, by decide⟩, by decide, by decide⟩
theorem pd_208 : (parseMethodDescriptor (dm_tb 208).1.desc).map (fun d => d.parameters.length) = some 1 := by decide +kernel
theorem mo_209 : dm_Mok dm_tb 209 := ⟨wd_1297, wd_74, ⟨by decide, by decide⟩, by decide, by decide⟩
theorem pd_209 : (parseMethodDescriptor (dm_tb 209).1.desc).map (fun d => d.parameters.length) = some 1 := by decide +kernel
theorem mo_210 : dm_Mok dm_tb 210 := ⟨wd_264, wd_69, ⟨by decide, by decide⟩, by decide, by decide⟩
theorem pd_210 : (parseMethodDescriptor (dm_tb 210).1.desc).map (fun d => d.parameters.length) = some 2 := by decide +kernel
end
