section
-- ===== PART A: goes FIRST, ahead of the names: the tables' words, and 'selects' of the private methods out of them =====
/-- a private method of a class that the tables say can be made, by its rows of tables_1 -/
def lw_okq (q : MethodName × Nat) : Prop := (q.1.cls ≠ "java/lang/invoke/MethodHandle" ∧ q.1.cls ≠ "java/lang/invoke/VarHandle") ∧ Cond.instantiable q.1.cls q.2 ∈ tables_1 ∧ Cond.privateMethod q.1 ∈ tables_1 ∧ Cond.instanceMethod q.1 ∈ tables_1
theorem lw_p0 : lw_okq (⟨"LineKeeper", "isSameByReplay", "()Z"⟩, 5) := ⟨⟨by decide +kernel, by decide +kernel⟩, List.mem_of_getElem? (i := 27) (by decide +kernel), List.mem_of_getElem? (i := 177) (by decide +kernel), List.mem_of_getElem? (i := 178) (by decide +kernel)⟩
theorem lw_p1 : lw_okq (⟨"LineKeeper", "replay", "(LLineKeeper$Event;)I"⟩, 5) := ⟨⟨by decide +kernel, by decide +kernel⟩, List.mem_of_getElem? (i := 27) (by decide +kernel), List.mem_of_getElem? (i := 214) (by decide +kernel), List.mem_of_getElem? (i := 215) (by decide +kernel)⟩
theorem lw_p2 : lw_okq (⟨"LineKeeper$Caches", "costOfNext", "(IIZ)I"⟩, 11) := ⟨⟨by decide +kernel, by decide +kernel⟩, List.mem_of_getElem? (i := 55) (by decide +kernel), List.mem_of_getElem? (i := 222) (by decide +kernel), List.mem_of_getElem? (i := 223) (by decide +kernel)⟩
theorem lw_p3 : lw_okq (⟨"LineKeeper$Caches", "makeRoom", "(II)Z"⟩, 11) := ⟨⟨by decide +kernel, by decide +kernel⟩, List.mem_of_getElem? (i := 55) (by decide +kernel), List.mem_of_getElem? (i := 226) (by decide +kernel), List.mem_of_getElem? (i := 227) (by decide +kernel)⟩
theorem lw_p4 : lw_okq (⟨"LineKeeper$Caches", "drop", "(III)V"⟩, 11) := ⟨⟨by decide +kernel, by decide +kernel⟩, List.mem_of_getElem? (i := 55) (by decide +kernel), List.mem_of_getElem? (i := 238) (by decide +kernel), List.mem_of_getElem? (i := 239) (by decide +kernel)⟩
theorem lw_p5 : lw_okq (⟨"LineKeeper$Caches", "shareAll", "(I)V"⟩, 11) := ⟨⟨by decide +kernel, by decide +kernel⟩, List.mem_of_getElem? (i := 55) (by decide +kernel), List.mem_of_getElem? (i := 242) (by decide +kernel), List.mem_of_getElem? (i := 243) (by decide +kernel)⟩
theorem lw_p6 : lw_okq (⟨"LineKeeper$Caches", "bring", "(II)V"⟩, 11) := ⟨⟨by decide +kernel, by decide +kernel⟩, List.mem_of_getElem? (i := 55) (by decide +kernel), List.mem_of_getElem? (i := 246) (by decide +kernel), List.mem_of_getElem? (i := 247) (by decide +kernel)⟩
theorem lw_p7 : lw_okq (⟨"LineKeeper$Caches", "dropElsewhere", "(III)V"⟩, 11) := ⟨⟨by decide +kernel, by decide +kernel⟩, List.mem_of_getElem? (i := 55) (by decide +kernel), List.mem_of_getElem? (i := 250) (by decide +kernel), List.mem_of_getElem? (i := 251) (by decide +kernel)⟩
theorem lw_p8 : lw_okq (⟨"LineKeeper$Caches", "use", "(II)V"⟩, 11) := ⟨⟨by decide +kernel, by decide +kernel⟩, List.mem_of_getElem? (i := 55) (by decide +kernel), List.mem_of_getElem? (i := 254) (by decide +kernel), List.mem_of_getElem? (i := 255) (by decide +kernel)⟩
theorem lw_p9 : lw_okq (⟨"LineKeeper$Caches", "learn", "(II)I"⟩, 11) := ⟨⟨by decide +kernel, by decide +kernel⟩, List.mem_of_getElem? (i := 55) (by decide +kernel), List.mem_of_getElem? (i := 258) (by decide +kernel), List.mem_of_getElem? (i := 259) (by decide +kernel)⟩
theorem lw_p10 : lw_okq (⟨"LineKeeper$Caches", "canFetch", "(II)Z"⟩, 11) := ⟨⟨by decide +kernel, by decide +kernel⟩, List.mem_of_getElem? (i := 55) (by decide +kernel), List.mem_of_getElem? (i := 262) (by decide +kernel), List.mem_of_getElem? (i := 263) (by decide +kernel)⟩
theorem lw_p11 : lw_okq (⟨"LineKeeper$Caches", "fetch", "(II)V"⟩, 11) := ⟨⟨by decide +kernel, by decide +kernel⟩, List.mem_of_getElem? (i := 55) (by decide +kernel), List.mem_of_getElem? (i := 266) (by decide +kernel), List.mem_of_getElem? (i := 267) (by decide +kernel)⟩
theorem lw_p12 : lw_okq (⟨"java/lang/Throwable", "fillInStackTrace", "(I)Ljava/lang/Throwable;"⟩, 6) := ⟨⟨by decide +kernel, by decide +kernel⟩, List.mem_of_getElem? (i := 330) (by decide +kernel), List.mem_of_getElem? (i := 328) (by decide +kernel), List.mem_of_getElem? (i := 329) (by decide +kernel)⟩
theorem lw_p13 : lw_okq (⟨"LineKeeper", "checkName", "(I)V"⟩, 5) := ⟨⟨by decide +kernel, by decide +kernel⟩, List.mem_of_getElem? (i := 27) (by decide +kernel), List.mem_of_getElem? (i := 393) (by decide +kernel), List.mem_of_getElem? (i := 394) (by decide +kernel)⟩
theorem lw_p14 : lw_okq (⟨"LineKeeper$Layout", "lowestFor", "(II)I"⟩, 4) := ⟨⟨by decide +kernel, by decide +kernel⟩, List.mem_of_getElem? (i := 35) (by decide +kernel), List.mem_of_getElem? (i := 453) (by decide +kernel), List.mem_of_getElem? (i := 454) (by decide +kernel)⟩
theorem lw_p15 : lw_okq (⟨"LineKeeper", "checkPlacedName", "(I)V"⟩, 5) := ⟨⟨by decide +kernel, by decide +kernel⟩, List.mem_of_getElem? (i := 27) (by decide +kernel), List.mem_of_getElem? (i := 485) (by decide +kernel), List.mem_of_getElem? (i := 486) (by decide +kernel)⟩
def lw_privs_1 : List (MethodName × Nat) := [(⟨"LineKeeper", "isSameByReplay", "()Z"⟩, 5), (⟨"LineKeeper", "replay", "(LLineKeeper$Event;)I"⟩, 5), (⟨"LineKeeper$Caches", "costOfNext", "(IIZ)I"⟩, 11), (⟨"LineKeeper$Caches", "makeRoom", "(II)Z"⟩, 11), (⟨"LineKeeper$Caches", "drop", "(III)V"⟩, 11), (⟨"LineKeeper$Caches", "shareAll", "(I)V"⟩, 11), (⟨"LineKeeper$Caches", "bring", "(II)V"⟩, 11), (⟨"LineKeeper$Caches", "dropElsewhere", "(III)V"⟩, 11), (⟨"LineKeeper$Caches", "use", "(II)V"⟩, 11), (⟨"LineKeeper$Caches", "learn", "(II)I"⟩, 11), (⟨"LineKeeper$Caches", "canFetch", "(II)Z"⟩, 11), (⟨"LineKeeper$Caches", "fetch", "(II)V"⟩, 11), (⟨"java/lang/Throwable", "fillInStackTrace", "(I)Ljava/lang/Throwable;"⟩, 6), (⟨"LineKeeper", "checkName", "(I)V"⟩, 5), (⟨"LineKeeper$Layout", "lowestFor", "(II)I"⟩, 4), (⟨"LineKeeper", "checkPlacedName", "(I)V"⟩, 5)]
theorem lw_r1 : ∀ q ∈ lw_privs_1, lw_okq q := List.forall_mem_cons.mpr ⟨lw_p0, List.forall_mem_cons.mpr ⟨lw_p1, List.forall_mem_cons.mpr ⟨lw_p2, List.forall_mem_cons.mpr ⟨lw_p3, List.forall_mem_cons.mpr ⟨lw_p4, List.forall_mem_cons.mpr ⟨lw_p5, List.forall_mem_cons.mpr ⟨lw_p6, List.forall_mem_cons.mpr ⟨lw_p7, List.forall_mem_cons.mpr ⟨lw_p8, List.forall_mem_cons.mpr ⟨lw_p9, List.forall_mem_cons.mpr ⟨lw_p10, List.forall_mem_cons.mpr ⟨lw_p11, List.forall_mem_cons.mpr ⟨lw_p12, List.forall_mem_cons.mpr ⟨lw_p13, List.forall_mem_cons.mpr ⟨lw_p14, List.forall_mem_cons.mpr ⟨lw_p15, fun _ h => absurd h List.not_mem_nil⟩⟩⟩⟩⟩⟩⟩⟩⟩⟩⟩⟩⟩⟩⟩⟩
theorem lw_p16 : lw_okq (⟨"LineKeeper", "checkWord", "(II)V"⟩, 5) := ⟨⟨by decide +kernel, by decide +kernel⟩, List.mem_of_getElem? (i := 27) (by decide +kernel), List.mem_of_getElem? (i := 501) (by decide +kernel), List.mem_of_getElem? (i := 502) (by decide +kernel)⟩
theorem lw_p17 : lw_okq (⟨"LineKeeper$Layout", "lastLineOf", "(I)I"⟩, 4) := ⟨⟨by decide +kernel, by decide +kernel⟩, List.mem_of_getElem? (i := 35) (by decide +kernel), List.mem_of_getElem? (i := 535) (by decide +kernel), List.mem_of_getElem? (i := 536) (by decide +kernel)⟩
theorem lw_p18 : lw_okq (⟨"LineKeeper", "access", "(IIII)I"⟩, 5) := ⟨⟨by decide +kernel, by decide +kernel⟩, List.mem_of_getElem? (i := 27) (by decide +kernel), List.mem_of_getElem? (i := 570) (by decide +kernel), List.mem_of_getElem? (i := 571) (by decide +kernel)⟩
theorem lw_p19 : lw_okq (⟨"LineKeeper", "isFull", "()Z"⟩, 5) := ⟨⟨by decide +kernel, by decide +kernel⟩, List.mem_of_getElem? (i := 27) (by decide +kernel), List.mem_of_getElem? (i := 590) (by decide +kernel), List.mem_of_getElem? (i := 591) (by decide +kernel)⟩
theorem lw_p20 : lw_okq (⟨"java/util/ArrayList", "add", "(Ljava/lang/Object;[Ljava/lang/Object;I)V"⟩, 3) := ⟨⟨by decide +kernel, by decide +kernel⟩, List.mem_of_getElem? (i := 105) (by decide +kernel), List.mem_of_getElem? (i := 634) (by decide +kernel), List.mem_of_getElem? (i := 635) (by decide +kernel)⟩
theorem lw_p21 : lw_okq (⟨"java/util/ArrayList", "grow", "()[Ljava/lang/Object;"⟩, 3) := ⟨⟨by decide +kernel, by decide +kernel⟩, List.mem_of_getElem? (i := 105) (by decide +kernel), List.mem_of_getElem? (i := 638) (by decide +kernel), List.mem_of_getElem? (i := 639) (by decide +kernel)⟩
theorem lw_p22 : lw_okq (⟨"java/util/ArrayList", "grow", "(I)[Ljava/lang/Object;"⟩, 3) := ⟨⟨by decide +kernel, by decide +kernel⟩, List.mem_of_getElem? (i := 105) (by decide +kernel), List.mem_of_getElem? (i := 642) (by decide +kernel), List.mem_of_getElem? (i := 643) (by decide +kernel)⟩
theorem lw_p23 : lw_okq (⟨"LineKeeper", "checkIndex", "(I)V"⟩, 5) := ⟨⟨by decide +kernel, by decide +kernel⟩, List.mem_of_getElem? (i := 27) (by decide +kernel), List.mem_of_getElem? (i := 722) (by decide +kernel), List.mem_of_getElem? (i := 723) (by decide +kernel)⟩
theorem lw_p24 : lw_okq (⟨"LineKeeper", "replayUpTo", "(I)I"⟩, 5) := ⟨⟨by decide +kernel, by decide +kernel⟩, List.mem_of_getElem? (i := 27) (by decide +kernel), List.mem_of_getElem? (i := 734) (by decide +kernel), List.mem_of_getElem? (i := 735) (by decide +kernel)⟩
theorem lw_p25 : lw_okq (⟨"LineKeeper", "sumOfName", "(I)J"⟩, 5) := ⟨⟨by decide +kernel, by decide +kernel⟩, List.mem_of_getElem? (i := 27) (by decide +kernel), List.mem_of_getElem? (i := 813) (by decide +kernel), List.mem_of_getElem? (i := 814) (by decide +kernel)⟩
theorem lw_p26 : lw_okq (⟨"LineKeeperModel", "isName", "(I)Z"⟩, 21) := ⟨⟨by decide +kernel, by decide +kernel⟩, List.mem_of_getElem? (i := 909) (by decide +kernel), List.mem_of_getElem? (i := 994) (by decide +kernel), List.mem_of_getElem? (i := 995) (by decide +kernel)⟩
theorem lw_p27 : lw_okq (⟨"LineKeeperModel", "fits", "(II)Z"⟩, 21) := ⟨⟨by decide +kernel, by decide +kernel⟩, List.mem_of_getElem? (i := 909) (by decide +kernel), List.mem_of_getElem? (i := 998) (by decide +kernel), List.mem_of_getElem? (i := 999) (by decide +kernel)⟩
theorem lw_p28 : lw_okq (⟨"LineKeeperModel", "nameOn", "(I)I"⟩, 21) := ⟨⟨by decide +kernel, by decide +kernel⟩, List.mem_of_getElem? (i := 909) (by decide +kernel), List.mem_of_getElem? (i := 1002) (by decide +kernel), List.mem_of_getElem? (i := 1003) (by decide +kernel)⟩
theorem lw_p29 : lw_okq (⟨"LineKeeperModel", "checked", "(Z)I"⟩, 21) := ⟨⟨by decide +kernel, by decide +kernel⟩, List.mem_of_getElem? (i := 909) (by decide +kernel), List.mem_of_getElem? (i := 1010) (by decide +kernel), List.mem_of_getElem? (i := 1011) (by decide +kernel)⟩
theorem lw_p30 : lw_okq (⟨"LineKeeperModel", "lowest", "(II)I"⟩, 21) := ⟨⟨by decide +kernel, by decide +kernel⟩, List.mem_of_getElem? (i := 909) (by decide +kernel), List.mem_of_getElem? (i := 1014) (by decide +kernel), List.mem_of_getElem? (i := 1015) (by decide +kernel)⟩
theorem lw_p31 : lw_okq (⟨"LineKeeperModel", "wrongAccess", "(III)I"⟩, 21) := ⟨⟨by decide +kernel, by decide +kernel⟩, List.mem_of_getElem? (i := 909) (by decide +kernel), List.mem_of_getElem? (i := 1038) (by decide +kernel), List.mem_of_getElem? (i := 1039) (by decide +kernel)⟩
def lw_privs_2 : List (MethodName × Nat) := [(⟨"LineKeeper", "checkWord", "(II)V"⟩, 5), (⟨"LineKeeper$Layout", "lastLineOf", "(I)I"⟩, 4), (⟨"LineKeeper", "access", "(IIII)I"⟩, 5), (⟨"LineKeeper", "isFull", "()Z"⟩, 5), (⟨"java/util/ArrayList", "add", "(Ljava/lang/Object;[Ljava/lang/Object;I)V"⟩, 3), (⟨"java/util/ArrayList", "grow", "()[Ljava/lang/Object;"⟩, 3), (⟨"java/util/ArrayList", "grow", "(I)[Ljava/lang/Object;"⟩, 3), (⟨"LineKeeper", "checkIndex", "(I)V"⟩, 5), (⟨"LineKeeper", "replayUpTo", "(I)I"⟩, 5), (⟨"LineKeeper", "sumOfName", "(I)J"⟩, 5), (⟨"LineKeeperModel", "isName", "(I)Z"⟩, 21), (⟨"LineKeeperModel", "fits", "(II)Z"⟩, 21), (⟨"LineKeeperModel", "nameOn", "(I)I"⟩, 21), (⟨"LineKeeperModel", "checked", "(Z)I"⟩, 21), (⟨"LineKeeperModel", "lowest", "(II)I"⟩, 21), (⟨"LineKeeperModel", "wrongAccess", "(III)I"⟩, 21)]
theorem lw_r2 : ∀ q ∈ lw_privs_2, lw_okq q := List.forall_mem_cons.mpr ⟨lw_p16, List.forall_mem_cons.mpr ⟨lw_p17, List.forall_mem_cons.mpr ⟨lw_p18, List.forall_mem_cons.mpr ⟨lw_p19, List.forall_mem_cons.mpr ⟨lw_p20, List.forall_mem_cons.mpr ⟨lw_p21, List.forall_mem_cons.mpr ⟨lw_p22, List.forall_mem_cons.mpr ⟨lw_p23, List.forall_mem_cons.mpr ⟨lw_p24, List.forall_mem_cons.mpr ⟨lw_p25, List.forall_mem_cons.mpr ⟨lw_p26, List.forall_mem_cons.mpr ⟨lw_p27, List.forall_mem_cons.mpr ⟨lw_p28, List.forall_mem_cons.mpr ⟨lw_p29, List.forall_mem_cons.mpr ⟨lw_p30, List.forall_mem_cons.mpr ⟨lw_p31, fun _ h => absurd h List.not_mem_nil⟩⟩⟩⟩⟩⟩⟩⟩⟩⟩⟩⟩⟩⟩⟩⟩
theorem lw_p32 : lw_okq (⟨"LineKeeperModel", "has", "(II)Z"⟩, 21) := ⟨⟨by decide +kernel, by decide +kernel⟩, List.mem_of_getElem? (i := 909) (by decide +kernel), List.mem_of_getElem? (i := 1045) (by decide +kernel), List.mem_of_getElem? (i := 1046) (by decide +kernel)⟩
theorem lw_p33 : lw_okq (⟨"LineKeeperModel", "uses", "(II)V"⟩, 21) := ⟨⟨by decide +kernel, by decide +kernel⟩, List.mem_of_getElem? (i := 909) (by decide +kernel), List.mem_of_getElem? (i := 1052) (by decide +kernel), List.mem_of_getElem? (i := 1053) (by decide +kernel)⟩
theorem lw_p34 : lw_okq (⟨"LineKeeperModel", "notes", "(IIIC)I"⟩, 21) := ⟨⟨by decide +kernel, by decide +kernel⟩, List.mem_of_getElem? (i := 909) (by decide +kernel), List.mem_of_getElem? (i := 1056) (by decide +kernel), List.mem_of_getElem? (i := 1057) (by decide +kernel)⟩
theorem lw_p35 : lw_okq (⟨"LineKeeperModel", "causeFor", "(III)C"⟩, 21) := ⟨⟨by decide +kernel, by decide +kernel⟩, List.mem_of_getElem? (i := 909) (by decide +kernel), List.mem_of_getElem? (i := 1063) (by decide +kernel), List.mem_of_getElem? (i := 1064) (by decide +kernel)⟩
theorem lw_p36 : lw_okq (⟨"LineKeeperModel", "othersWith", "(II)I"⟩, 21) := ⟨⟨by decide +kernel, by decide +kernel⟩, List.mem_of_getElem? (i := 909) (by decide +kernel), List.mem_of_getElem? (i := 1067) (by decide +kernel), List.mem_of_getElem? (i := 1068) (by decide +kernel)⟩
theorem lw_p37 : lw_okq (⟨"LineKeeperModel", "comes", "(IIC)Z"⟩, 21) := ⟨⟨by decide +kernel, by decide +kernel⟩, List.mem_of_getElem? (i := 909) (by decide +kernel), List.mem_of_getElem? (i := 1071) (by decide +kernel), List.mem_of_getElem? (i := 1072) (by decide +kernel)⟩
theorem lw_p38 : lw_okq (⟨"LineKeeperModel", "manyIn", "(II)I"⟩, 21) := ⟨⟨by decide +kernel, by decide +kernel⟩, List.mem_of_getElem? (i := 909) (by decide +kernel), List.mem_of_getElem? (i := 1075) (by decide +kernel), List.mem_of_getElem? (i := 1076) (by decide +kernel)⟩
theorem lw_p39 : lw_okq (⟨"LineKeeperModel", "oldestIn", "(II)I"⟩, 21) := ⟨⟨by decide +kernel, by decide +kernel⟩, List.mem_of_getElem? (i := 909) (by decide +kernel), List.mem_of_getElem? (i := 1079) (by decide +kernel), List.mem_of_getElem? (i := 1080) (by decide +kernel)⟩
theorem lw_p40 : lw_okq (⟨"LineKeeperModel", "leaves", "(III)V"⟩, 21) := ⟨⟨by decide +kernel, by decide +kernel⟩, List.mem_of_getElem? (i := 909) (by decide +kernel), List.mem_of_getElem? (i := 1083) (by decide +kernel), List.mem_of_getElem? (i := 1084) (by decide +kernel)⟩
theorem lw_p41 : lw_okq (⟨"LineKeeperModel", "learns", "(II)V"⟩, 21) := ⟨⟨by decide +kernel, by decide +kernel⟩, List.mem_of_getElem? (i := 909) (by decide +kernel), List.mem_of_getElem? (i := 1087) (by decide +kernel), List.mem_of_getElem? (i := 1088) (by decide +kernel)⟩
theorem lw_p42 : lw_okq (⟨"LineKeeperModel", "ownerOf", "(I)I"⟩, 21) := ⟨⟨by decide +kernel, by decide +kernel⟩, List.mem_of_getElem? (i := 909) (by decide +kernel), List.mem_of_getElem? (i := 1091) (by decide +kernel), List.mem_of_getElem? (i := 1092) (by decide +kernel)⟩
theorem lw_p43 : lw_okq (⟨"LineKeeperModel", "takesFromOthers", "(III)V"⟩, 21) := ⟨⟨by decide +kernel, by decide +kernel⟩, List.mem_of_getElem? (i := 909) (by decide +kernel), List.mem_of_getElem? (i := 1099) (by decide +kernel), List.mem_of_getElem? (i := 1100) (by decide +kernel)⟩
theorem lw_p44 : lw_okq (⟨"LineKeeperModel", "isAccess", "(I)Z"⟩, 21) := ⟨⟨by decide +kernel, by decide +kernel⟩, List.mem_of_getElem? (i := 909) (by decide +kernel), List.mem_of_getElem? (i := 1119) (by decide +kernel), List.mem_of_getElem? (i := 1120) (by decide +kernel)⟩
theorem lw_p45 : lw_okq (⟨"LineKeeperModel", "billFor", "(I)J"⟩, 21) := ⟨⟨by decide +kernel, by decide +kernel⟩, List.mem_of_getElem? (i := 909) (by decide +kernel), List.mem_of_getElem? (i := 1166) (by decide +kernel), List.mem_of_getElem? (i := 1167) (by decide +kernel)⟩
def lw_privs_3 : List (MethodName × Nat) := [(⟨"LineKeeperModel", "has", "(II)Z"⟩, 21), (⟨"LineKeeperModel", "uses", "(II)V"⟩, 21), (⟨"LineKeeperModel", "notes", "(IIIC)I"⟩, 21), (⟨"LineKeeperModel", "causeFor", "(III)C"⟩, 21), (⟨"LineKeeperModel", "othersWith", "(II)I"⟩, 21), (⟨"LineKeeperModel", "comes", "(IIC)Z"⟩, 21), (⟨"LineKeeperModel", "manyIn", "(II)I"⟩, 21), (⟨"LineKeeperModel", "oldestIn", "(II)I"⟩, 21), (⟨"LineKeeperModel", "leaves", "(III)V"⟩, 21), (⟨"LineKeeperModel", "learns", "(II)V"⟩, 21), (⟨"LineKeeperModel", "ownerOf", "(I)I"⟩, 21), (⟨"LineKeeperModel", "takesFromOthers", "(III)V"⟩, 21), (⟨"LineKeeperModel", "isAccess", "(I)Z"⟩, 21), (⟨"LineKeeperModel", "billFor", "(I)J"⟩, 21)]
theorem lw_r3 : ∀ q ∈ lw_privs_3, lw_okq q := List.forall_mem_cons.mpr ⟨lw_p32, List.forall_mem_cons.mpr ⟨lw_p33, List.forall_mem_cons.mpr ⟨lw_p34, List.forall_mem_cons.mpr ⟨lw_p35, List.forall_mem_cons.mpr ⟨lw_p36, List.forall_mem_cons.mpr ⟨lw_p37, List.forall_mem_cons.mpr ⟨lw_p38, List.forall_mem_cons.mpr ⟨lw_p39, List.forall_mem_cons.mpr ⟨lw_p40, List.forall_mem_cons.mpr ⟨lw_p41, List.forall_mem_cons.mpr ⟨lw_p42, List.forall_mem_cons.mpr ⟨lw_p43, List.forall_mem_cons.mpr ⟨lw_p44, List.forall_mem_cons.mpr ⟨lw_p45, fun _ h => absurd h List.not_mem_nil⟩⟩⟩⟩⟩⟩⟩⟩⟩⟩⟩⟩⟩⟩
def lw_privs : List (MethodName × Nat) := lw_privs_1 ++ (lw_privs_2 ++ (lw_privs_3))
def lw_tbl : List Cond := k2_sels lw_privs ++ tables_1
theorem lw_privs_ok : ∀ q ∈ lw_privs, lw_okq q := by
  show ∀ q ∈ lw_privs_1 ++ (lw_privs_2 ++ (lw_privs_3)), lw_okq q
  exact List.forall_mem_append.mpr ⟨lw_r1, List.forall_mem_append.mpr ⟨lw_r2, lw_r3⟩⟩
/-- the streams that the claim lets the run draw from -/
abbrev lw_cs : List Choice := [Jvm.Choice.named "NaN.bits"]
theorem lw_bits : nanBits ∈ lw_cs := by first | decide | exact List.mem_cons_self | simp [lw_cs, nanBits]
-- ===== end of PART A; then your names; then what follows =====
end
section
/-! ===== BEGIN words of one list among another's, by their places ===== -/
theorem goodIn_r {big : List Cond} (ws : List Cond) (ps : List Nat) (hp : ws = ps.filterMap (fun i => big[i]?)) (h : ws.all goodWord = true) : GoodIn big ws := by
  intro w hw
  have h1 := List.all_eq_true.mp h w hw
  rw [hp] at hw
  obtain ⟨i, -, hi⟩ := List.mem_filterMap.mp hw
  have hm : w ∈ big := by first | exact List.mem_of_getElem? hi | exact List.getElem?_mem hi
  exact ⟨hm, good_of_word h1⟩
theorem goodIn_app {big a b : List Cond} (ha : GoodIn big a) (hb : GoodIn big b) : GoodIn big (a ++ b) := fun w h => (List.mem_append.mp h).elim (ha w) (hb w)
theorem goodIn_ca {big a b : List Cond} {c : Cond} (ha : GoodIn big (c :: a)) (hb : GoodIn big b) : GoodIn big (c :: (a ++ b)) := fun w h => (List.mem_cons.mp h).elim (fun e => ha w (List.mem_cons.mpr (Or.inl e))) (fun h => (List.mem_append.mp h).elim (fun h => ha w (List.mem_cons.mpr (Or.inr h))) (hb w))
theorem goodIn_sub {big ws : List Cond} (hm : ∀ w ∈ ws, w ∈ big) (h : ws.all goodWord = true) : GoodIn big ws := fun w hw => ⟨hm w hw, good_of_word (List.all_eq_true.mp h w hw)⟩
/-! ===== END ===== -/

/-! ===== BEGIN exceptions that leave a method, and their catching by the caller (launches without stack traces) ===== -/
section VXA
/-! The laws vx_back, vx_callV, vx_callS, vx_callSW, vx_throw0, vx_throwS follow proofs of the library, with one case more: JvmDerived/Free/Laws.lean (Back.of_free), Shelf42/LK1.lean (callV, callS), Shelf/KitTraced.lean (throwNew0V, throwNewS). -/
/-- where a method has thrown q: the class by its name, the cell, what was written, the world -/
def vx_T (XC : String → State → State → Prop) (st : State) (q : Addr) (t : State) (mc ms : Nat) (free : Addr → Prop) : Prop :=
  ∃ (E : String) (ce : Cell) (L : List Loc), XC E st t ∧ t.heap[q]? = some ce ∧ ce.vm = .none ∧ st.vm.findClass E = some ce.cls ∧ st.WarmedH t.vm ∧ st.sameButNew ({ t with vm := st.vm } : State) L mc ms ∧ ∀ z ∈ L, free z.base
def vx_Q (Qc : Array Value → State → Outcome → State → Prop) (XC : String → State → State → Prop) (mc ms : Nat) (free : Addr → Prop) : Array Value → State → Outcome → State → Prop := fun a st o t =>
  (Qc a st o t ∧ ∃ L, FrameEnd st o t L mc ms ∧ ∀ q ∈ L, free q.base) ∨ ∃ q, o = .threw q ∧ vx_T XC st q t mc ms free
/-- a callee that returns or throws -/
def vx_Met (l : Launch) (y : MethodName) (ws : List Cond) (rm : Room) (Pc : Array Value → State → Prop) (Qc : Array Value → State → Outcome → State → Prop) (XC : String → State → State → Prop) (mc ms : Nat) (free : Addr → Prop) : Prop :=
  MetFree l y (headSpec ws rm) Pc (fun _ _ _ _ _ => True) (vx_Q Qc XC mc ms free)
def vx_Post (XC : String → State → State → Prop) (mc ms : Nat) (free : Addr → Prop) : Pt → Array Value → Addr → Pt → Prop := fun A a q B =>
  ∃ (g : JFrame) (mk : MethodId) (t : State) (L : List Loc) (E : String) (ce : Cell), B.U.heap = t.heap ∧ B.U.vm = t.vm ∧ XC E (A.U.calling g mk a) t ∧ t.heap[q]? = some ce ∧ ce.vm = .none ∧ A.U.vm.findClass E = some ce.cls ∧ B.locs = A.locs ++ L ∧ (∀ z ∈ L, free z.base) ∧ B.cells = A.cells + mc ∧ B.slots = A.slots + ms
def vx_Back (l : Launch) (R : Room) (p : Program) (e : Env) (below : List Frame) (s : State) (sargs : Array Value) (y : MethodName) (len W9 : Nat)
    (Pre : Pt → Array Value → Prop) (Post : Pt → Array Value → Option Value → Pt → Prop) (PostX : Pt → Array Value → Addr → Pt → Prop) : Prop :=
  ∀ (m : MethodId) (meth : Method) (c : Code) (A : Pt) (g : JFrame) (ig : Instr) (mk : MethodId) (a : Array Value),
    Stand p l e R s m sargs below meth c A.U A.locs A.cells A.slots → g.method = m → g.locals.size = c.maxLocals → decode c.code g.pc = .ok (ig, len) →
    2 * g.monitorRoom + (g.stack.map fun v => v.category).sum ≤ W9 → A.U.methodNamed? y = some mk → Pre A a →
    (∃ (v : Option Value) (B : Pt), Stand p l e R s m sargs below meth c B.U B.locs B.cells B.slots ∧ Post A a v B ∧
      Steps p.tables e below (doInvoke e (A.U.setTop g) [] mk a).1 (B.U.setTop { g with pc := g.pc + len, stack := v.toList ++ g.stack })) ∨
    (∃ (q : Addr) (B : Pt), Stand p l e R s m sargs below meth c B.U B.locs B.cells B.slots ∧ PostX A a q B ∧
      Steps p.tables e below (doInvoke e (A.U.setTop g) [] mk a).1 ((B.U.setTop g).pushFrame (.throwing q)))
section Payer
variable {l : Launch} {R : Room} {p : Program} {e : Env} {below : List Frame} {s : State} {sargs : Array Value} {y : MethodName} {len W9 : Nat}
theorem vx_back {ws : List Cond} {rm : Room} {Pc : Array Value → State → Prop} {Qc : Array Value → State → Outcome → State → Prop} {XC : String → State → State → Prop} {mc ms : Nat} {free : Addr → Prop} {bytes : ByteArray} {maxL : Nat} {ret : Option FieldType}
    (hM : vx_Met l y ws rm Pc Qc XC mc ms free) (hblind : FrameBlind Pc) (hrc : rm.cells = mc) (hrs : rm.slots = ms)
    (hframes : rm.frames + 1 ≤ R.frames) (hlocals : W9 + (maxL + 11) + rm.locals ≤ R.locals)
    (hws : ∀ w ∈ ws, ∀ a' U, s.WarmedH U.vm → w.before a' U = true) (hcode : Cond.code y bytes maxL ret ∈ ws) (hinit : ∀ a' U, s.WarmedH U.vm → (Cond.initialized y.cls).before a' U = true) :
    vx_Back l R p e below s sargs y len W9 (PreOf R mc ms Pc) (PostOf Qc mc ms free) (vx_Post XC mc ms free) := by
  intro m meth c A g ig mk a X hg hsize hdg hW hn hp
  have h1 : (headSpec ws rm).pre.before a A.U = true := atoms_intro fun w hw => hws w hw _ _ X.warmed
  have h2 : (Cond.code y bytes maxL ret).before a A.U = true := hws _ hcode _ _ X.warmed
  have h3 : (Cond.initialized y.cls).before a A.U = true := hinit _ _ X.warmed
  have h4 : A.cells + (headSpec ws rm).room.cells ≤ R.cells := by rw [show (headSpec ws rm).room.cells = mc from hrc]; exact hp.1
  have h5 : A.slots + (headSpec ws rm).room.slots ≤ R.slots := by rw [show (headSpec ws rm).room.slots = ms from hrs]; exact hp.2.1
  have hPc : Pc a (A.U.calling g mk a) := hblind _ _ _ _ hp.2.2
  obtain ⟨U, Ls, c0, s0⟩ := A
  dsimp only [Pt.U, Pt.locs, Pt.cells, Pt.slots] at h1 h2 h3 h4 h5 X hn hPc ⊢
  obtain ⟨methY, cY, hmY, hcY, -, hlY, -, -, -, -⟩ := Cond.code_spec hn h2
  obtain ⟨kY, hkY, -⟩ := className_of_methodNamed hn
  have hinitY : kY.init = .initialized := Cond.initialized_spec (findClass_of_methodNamed hn) hkY h3
  have h : At U g.method c below := by rw [hg]; exact X.here
  have hlocals9 : W9 + (maxL + 11) + (headSpec ws rm).room.locals ≤ R.locals := hlocals
  have happ : (headSpec ws rm).appliesLoose y e.platform (U.calling g mk a) = true :=
    Spec.appliesLoose_calling (g := g) h hdg hn hkY hinitY
      (X.room_calling (g := g) (R' := (headSpec ws rm).room) hsize hmY hcY hframes (by rw [hlY]; omega) h4 h5) h1
  obtain ⟨mid, hmid⟩ := h.above
  have hfr : (U.setTop g).frames = (.java g :: mid) ++ below := by rw [State.frames_setTop' g h.top, hmid]; rfl
  obtain ⟨o, s₂, hsteps, -, hend, hq⟩ := Steps.callFree hM p X.admits X.cas X.clock (acts := []) hfr happ hPc trivial
  have hq' : vx_Q Qc XC mc ms free a (U.calling g mk a) o s₂ := hq
  rw [State.frames_setTop' g h.top] at hend
  obtain ⟨g₀, hg0⟩ := Option.isSome_iff_exists.mp h.top
  obtain ⟨r, hr⟩ := State.topJava?_eq_some.mp hg0
  have hr' : (({ U with heap := s₂.heap, slotsUsed := s₂.slotsUsed } : State).setVm s₂.vm).frames = .java g₀ :: r := hr
  rcases hq' with ⟨hqc, L, hfe, hL⟩ | ⟨q, rfl, E, ce, L, hx, hce, hcv, hcl, hW₂, hsm, hL⟩
  · obtain ⟨⟨v, rfl⟩, hW₂, e2, q2, q3, q4, q5, q6⟩ := id hfe
    have e3 : s₂ = ({ (U.calling g mk a).setFrames s₂.frames with heap := s₂.heap, slotsUsed := s₂.slotsUsed } : State).setVm s₂.vm := by
      have : s₂ = ({ s₂ with vm := (U.calling g mk a).vm } : State).setVm s₂.vm := rfl
      rw [e2] at this
      exact this
    obtain ⟨c₂, i₂, len₂, hc₂, hd₂, hf₂⟩ := hend
    have hW' : U.WarmedH s₂.vm := hW₂
    have hcc : c₂ = c := by
      have h1 : s₂.code? g.method = U.code? g.method := by
        rw [State.code?_eq, State.code?_eq, hW'.alike.method?]
      exact Option.some.inj (hc₂.symm.trans (h1.trans h.code))
    subst hcc
    have hlen : len₂ = len := by rw [hdg] at hd₂; cases hd₂; rfl
    subst hlen
    have hs₂ : s₂ = (({ U with heap := s₂.heap, slotsUsed := s₂.slotsUsed } : State).setVm s₂.vm).setTop { g with pc := g.pc + len₂, stack := v.toList ++ g.stack } := by
      refine e3.trans ?_
      rw [hf₂, State.calling_eq h.top, State.setFrames_setFrames, State.setTop_of_frames _ hr', hr]
      rfl
    have hsame : U.sameButNew ({ U with heap := s₂.heap, slotsUsed := s₂.slotsUsed } : State) L mc ms := by
      refine ⟨?_, q2, q3, q4, q5, q6⟩
      obtain ⟨t, ht, -⟩ := State.frames_cons hr
      show ({ U with heap := s₂.heap, slotsUsed := s₂.slotsUsed } : State) = { U.setFrames U.frames with heap := s₂.heap, slotsUsed := s₂.slotsUsed }
      rw [State.setFrames_self ht]
    subst hg
    refine Or.inl ⟨v, ⟨(({ U with heap := s₂.heap, slotsUsed := s₂.slotsUsed } : State).setVm s₂.vm), Ls ++ L, c0 + mc, s0 + ms⟩,
      ⟨X.admits, X.cas, X.clock, X.frames, X.room, X.hears, X.method, X.code, (X.here.setHeapUsed s₂.heap s₂.slotsUsed).setVm hW'.alike, X.tail, State.WarmedH.trans X.warmed hW', X.limits, X.bytes, X.same.trans (hsame.setVm s.vm)⟩,
      ⟨g, mk, s₂, L, rfl, rfl, hqc, rfl, hL, rfl, rfl⟩, ?_⟩
    show Steps p.tables e below _ ((({ U with heap := s₂.heap, slotsUsed := s₂.slotsUsed } : State).setVm s₂.vm).setTop { g with pc := g.pc + len₂, stack := v.toList ++ g.stack })
    rw [← hs₂]
    exact hsteps
  · obtain ⟨e2, q2, q3, q4, q5, q6⟩ := id hsm
    have e3 : s₂ = ({ (U.calling g mk a).setFrames s₂.frames with heap := s₂.heap, slotsUsed := s₂.slotsUsed } : State).setVm s₂.vm := by
      have : s₂ = ({ s₂ with vm := (U.calling g mk a).vm } : State).setVm s₂.vm := rfl
      rw [e2] at this
      exact this
    have hf₂ : s₂.frames = .throwing q :: .java g :: U.frames.tail := hend
    have hW' : U.WarmedH s₂.vm := hW₂
    have hs₂ : s₂ = ((({ U with heap := s₂.heap, slotsUsed := s₂.slotsUsed } : State).setVm s₂.vm).setTop g).pushFrame (.throwing q) := by
      refine e3.trans ?_
      rw [hf₂, State.calling_eq h.top, State.setFrames_setFrames, State.pushFrame, State.frames_setTop _ hr', State.setTop_of_frames _ hr', State.setFrames_setFrames, hr]
      rfl
    have hsame : U.sameButNew ({ U with heap := s₂.heap, slotsUsed := s₂.slotsUsed } : State) L mc ms := by
      refine ⟨?_, q2, q3, q4, q5, q6⟩
      obtain ⟨t, ht, -⟩ := State.frames_cons hr
      show ({ U with heap := s₂.heap, slotsUsed := s₂.slotsUsed } : State) = { U.setFrames U.frames with heap := s₂.heap, slotsUsed := s₂.slotsUsed }
      rw [State.setFrames_self ht]
    subst hg
    refine Or.inr ⟨q, ⟨(({ U with heap := s₂.heap, slotsUsed := s₂.slotsUsed } : State).setVm s₂.vm), Ls ++ L, c0 + mc, s0 + ms⟩,
      ⟨X.admits, X.cas, X.clock, X.frames, X.room, X.hears, X.method, X.code, (X.here.setHeapUsed s₂.heap s₂.slotsUsed).setVm hW'.alike, X.tail, State.WarmedH.trans X.warmed hW', X.limits, X.bytes, X.same.trans (hsame.setVm s.vm)⟩,
      ⟨g, mk, s₂, L, E, ce, rfl, rfl, hx, hce, hcv, hcl, rfl, hL, rfl, rfl⟩, ?_⟩
    show Steps p.tables e below _ (((({ U with heap := s₂.heap, slotsUsed := s₂.slotsUsed } : State).setVm s₂.vm).setTop g).pushFrame (.throwing q))
    rw [← hs₂]
    exact hsteps
end Payer
section Calls
variable {p : Program} {l : Launch} {e : Env} {R : Room} {s : State} {m : MethodId} {args : Array Value} {below : List Frame} {meth : Method} {c : Code} {T : State} {locs : List Loc} {cells slots : Nat}
theorem vx_callV (X : Stand p l e R s m args below meth c T locs cells slots) (hexec : p.tables.exec = Jvm.exec) {own C : String} {index : Nat} {y : MethodName} {bytes : ByteArray} {maxL : Nat} {ret : Option FieldType}
    (hown : s.vm.findClass own = some m.cls) (hlink : (Cond.methodLink own index y).before args s = true) (hinst : (Cond.instanceMethod y).before args s = true) (hsel : (Cond.selects C y y).before args s = true)
    (hcode : (Cond.code y bytes maxL ret).before args s = true) (hy : y.cls ≠ "java/lang/invoke/MethodHandle" ∧ y.cls ≠ "java/lang/invoke/VarHandle")
    {W9 : Nat} {Pre : Pt → Array Value → Prop} {Post : Pt → Array Value → Option Value → Pt → Prop} {PostX : Pt → Array Value → Addr → Pt → Prop} (hK : vx_Back l R p e below s args y 3 W9 Pre Post PostX)
    {b : Addr} {cellB : Cell} (hcell : T.heap[b]? = some cellB) (hobj : cellB.vm.isStatics = false) (hcls : s.vm.findClass C = some cellB.cls)
    {g : JFrame} (hg : g.method = m) (hsize : g.locals.size = c.maxLocals) {argsL rest : List Value} (hlen : ∀ sig, parseMethodDescriptor y.desc = some sig → argsL.length = sig.parameters.length)
    (hstack : g.stack = argsL.reverse ++ .ref b :: rest) (hW : 2 * g.monitorRoom + (rest.map fun v => v.category).sum ≤ W9) (hdg : decode c.code g.pc = .ok (.invokevirtual index, 3))
    (hpre : ∀ vm₁, s.WarmedH vm₁ → Pre ⟨T.setVm vm₁, locs, cells, slots⟩ (Value.ref b :: argsL).toArray) :
    (∃ (v : Option Value) (vm₁ : Vm) (B : Pt), s.WarmedH vm₁ ∧ Stand p l e R s m args below meth c B.U B.locs B.cells B.slots ∧ Post ⟨T.setVm vm₁, locs, cells, slots⟩ (Value.ref b :: argsL).toArray v B ∧
      ∀ target, Steps p.tables e below (B.U.setTop { g with pc := g.pc + 3, stack := v.toList ++ rest }) target → Steps p.tables e below (T.setTop g) target) ∨
    (∃ (q : Addr) (vm₁ : Vm) (B : Pt), s.WarmedH vm₁ ∧ Stand p l e R s m args below meth c B.U B.locs B.cells B.slots ∧ PostX ⟨T.setVm vm₁, locs, cells, slots⟩ (Value.ref b :: argsL).toArray q B ∧
      Steps p.tables e below (T.setTop g) ((B.U.setTop { g with stack := rest }).pushFrame (.throwing q))) := by
  obtain ⟨mk, methM, hnamed, hmethM, hstM, habM⟩ := Cond.instanceMethod_spec hinst
  obtain ⟨methM', cM, hmethM', -, -, -, -, -, -, hsigM⟩ := Cond.code_spec hnamed hcode
  cases hmethM.symm.trans hmethM'
  obtain ⟨c2, r2, m2, q1, q2, q3, q4, kP, hkP, hkPi⟩ := Cond.selects_spec hsel
  cases hcls.symm.trans q1
  cases (State.methodFound?_of_named hnamed hy).symm.trans q2
  cases hnamed.symm.trans q3
  have hselP : selectMethod e.platform s.vm cellB.cls mk = .method mk := by rw [Launch.admits_selectMethod X.admits]; exact q4
  obtain ⟨vm₁, X₁, hstep₁⟩ := X.invokevirtual hexec hown hlink hnamed hmethM hstM hkP hkPi hy (a := b) (cell := cellB) hcell
    (fun z h => by rw [h] at hobj; cases hobj) hselP hmethM habM hkP hkPi (g := g) hg (argsL := argsL) (rest := rest) (hlen _ hsigM) hstack hdg
  rcases hK m meth c ⟨T.setVm vm₁, locs, cells, slots⟩ { g with stack := rest } (.invokevirtual index) mk (Value.ref b :: argsL).toArray X₁ hg hsize hdg hW (X₁.named hnamed) (hpre vm₁ X₁.warmed) with ⟨v, B, X', hpost, hsteps⟩ | ⟨q, B, X', hpost, hsteps⟩
  · exact Or.inl ⟨v, vm₁, B, X₁.warmed, X', hpost, fun target h => hstep₁ _ fun acts => by rw [doInvoke_state]; exact hsteps.trans h⟩
  · exact Or.inr ⟨q, vm₁, B, X₁.warmed, X', hpost, hstep₁ _ fun acts => by rw [doInvoke_state]; exact hsteps⟩
theorem vx_callS (X : Stand p l e R s m args below meth c T locs cells slots) (hexec : p.tables.exec = Jvm.exec) {own : String} {index : Nat} {y : MethodName} {bytes : ByteArray} {maxL : Nat} {ret : Option FieldType}
    (hown : s.vm.findClass own = some m.cls) (hlink : (Cond.methodLink own index y).before args s = true) (hstat : (Cond.static y).before args s = true) (hinit : (Cond.initialized y.cls).before args s = true)
    (hcode : (Cond.code y bytes maxL ret).before args s = true) (hy : y.cls ≠ "java/lang/invoke/MethodHandle" ∧ y.cls ≠ "java/lang/invoke/VarHandle")
    {W9 : Nat} {Pre : Pt → Array Value → Prop} {Post : Pt → Array Value → Option Value → Pt → Prop} {PostX : Pt → Array Value → Addr → Pt → Prop} (hK : vx_Back l R p e below s args y 3 W9 Pre Post PostX)
    {g : JFrame} (hg : g.method = m) (hsize : g.locals.size = c.maxLocals) {argsL rest : List Value} (hlen : ∀ sig, parseMethodDescriptor y.desc = some sig → argsL.length = sig.parameters.length)
    (hstack : g.stack = argsL.reverse ++ rest) (hW : 2 * g.monitorRoom + (rest.map fun v => v.category).sum ≤ W9) (hdg : decode c.code g.pc = .ok (.invokestatic index, 3))
    (hpre : ∀ vm₁, s.WarmedH vm₁ → Pre ⟨T.setVm vm₁, locs, cells, slots⟩ argsL.toArray) :
    (∃ (v : Option Value) (vm₁ : Vm) (B : Pt), s.WarmedH vm₁ ∧ Stand p l e R s m args below meth c B.U B.locs B.cells B.slots ∧ Post ⟨T.setVm vm₁, locs, cells, slots⟩ argsL.toArray v B ∧
      ∀ target, Steps p.tables e below (B.U.setTop { g with pc := g.pc + 3, stack := v.toList ++ rest }) target → Steps p.tables e below (T.setTop g) target) ∨
    (∃ (q : Addr) (vm₁ : Vm) (B : Pt), s.WarmedH vm₁ ∧ Stand p l e R s m args below meth c B.U B.locs B.cells B.slots ∧ PostX ⟨T.setVm vm₁, locs, cells, slots⟩ argsL.toArray q B ∧
      Steps p.tables e below (T.setTop g) ((B.U.setTop { g with stack := rest }).pushFrame (.throwing q))) := by
  obtain ⟨mk, hnamed⟩ := Cond.code_named hcode
  obtain ⟨methM, cM, hmethM, -, -, -, -, -, -, hsigM⟩ := Cond.code_spec hnamed hcode
  have hstatic : methM.isStatic = true := Cond.static_spec hnamed hmethM hstat
  obtain ⟨kP, hkP, -⟩ := className_of_methodNamed hnamed
  have hinitP : kP.init = .initialized := Cond.initialized_spec (findClass_of_methodNamed hnamed) hkP hinit
  obtain ⟨vm₁, X₁, hstep₁⟩ := X.invokestatic hexec hown hlink hnamed hmethM hstatic hkP hinitP hy (g := g) hg (argsL := argsL) (rest := rest) (hlen _ hsigM) hstack hdg
  rcases hK m meth c ⟨T.setVm vm₁, locs, cells, slots⟩ { g with stack := rest } (.invokestatic index) mk argsL.toArray X₁ hg hsize hdg hW (X₁.named hnamed) (hpre vm₁ X₁.warmed) with ⟨v, B, X', hpost, hsteps⟩ | ⟨q, B, X', hpost, hsteps⟩
  · exact Or.inl ⟨v, vm₁, B, X₁.warmed, X', hpost, fun target h => hstep₁ _ fun acts => by rw [doInvoke_state]; exact hsteps.trans h⟩
  · exact Or.inr ⟨q, vm₁, B, X₁.warmed, X', hpost, hstep₁ _ fun acts => by rw [doInvoke_state]; exact hsteps⟩
end Calls
theorem vx_cls {s : State} {T : State} {vm₁ : Vm} {E : String} {k : ClassId} (hW : s.WarmedH vm₁) (h : (T.setVm vm₁).vm.findClass E = some k) : s.vm.findClass E = some k := by
  have h1 : vm₁.findClass E = some k := h
  rw [hW.alike.findClass] at h1
  exact h1
/-- the method's frame g, with q thrown over it -/
def vx_W (p : Program) (l : Launch) (e : Env) (R : Room) (s : State) (m : MethodId) (args : Array Value) (below : List Frame) (meth : Method) (c : Code) (H : Heap) (locs : List Loc) (cells slots : Nat) (Q : State → Prop) (g : JFrame) (q : Addr) : Prop :=
  ∀ T : State, T.heap = H → Stand p l e R s m args below meth c T locs cells slots → ∃ t, Steps p.tables e below ((T.setTop g).pushFrame (.throwing q)) t ∧ Q t
def vx_Run (p : Program) (l : Launch) (e : Env) (R : Room) (s : State) (m : MethodId) (args : Array Value) (below : List Frame) (meth : Method) (c : Code) (H : Heap) (locs : List Loc) (cells slots mc ms : Nat) (g : JFrame) (rest : List Value) (Qa : State → Outcome → State → Prop) (XC : String → State → State → Prop) (free : Addr → Prop) : Prop :=
  ∀ T : State, T.heap = H → Stand p l e R s m args below meth c T locs cells slots →
    (∃ (v : Option Value) (st₀ t T' : State) (L : List Loc), st₀.heap = H ∧ Stand p l e R s m args below meth c T' (locs ++ L) (cells + mc) (slots + ms) ∧ (∀ q ∈ L, free q.base) ∧ T'.heap = t.heap ∧ T'.vm = t.vm ∧ Qa st₀ (.returned v) t ∧
      Goes p e below T g T' { g with pc := g.pc + 3, stack := v.toList ++ rest }) ∨
    (∃ (q : Addr) (st₀ t T' : State) (L : List Loc) (E : String) (ce : Cell), st₀.heap = H ∧ Stand p l e R s m args below meth c T' (locs ++ L) (cells + mc) (slots + ms) ∧ (∀ z ∈ L, free z.base) ∧ T'.heap = t.heap ∧ T'.vm = t.vm ∧ XC E st₀ t ∧ t.heap[q]? = some ce ∧ ce.vm = .none ∧ s.vm.findClass E = some ce.cls ∧
      Steps p.tables e below (T.setTop g) ((T'.setTop { g with stack := rest }).pushFrame (.throwing q)))
def vx_X {S : Type} (px : S → Prop) (B : String → S → State → Prop) (A : Nat → Prop) : String → State → State → Prop := fun E st t => ∃ u : S, px u ∧ B E u t ∧ va_F A st t
section Runs
variable {p : Program} {l : Launch} {e : Env} {R : Room} {s : State} {m : MethodId} {args : Array Value} {below : List Frame} {meth : Method} {c : Code} {H : Heap} {locs : List Loc} {cells slots : Nat}
variable {y : MethodName} {bytes cc : ByteArray} {maxL nL mc ms n index : Nat} {ret : Option FieldType} {ws : List Cond} {rm : Room} {Pc : Array Value → State → Prop} {Qc : Array Value → State → Outcome → State → Prop} {XC : String → State → State → Prop} {free : Addr → Prop} {Ts : List Cond} {own C : String} {b : Addr} {As rest : List Value} {g : JFrame}
theorem vx_callBack (cb : CallB R s args own index y bytes maxL ret ws rm mc ms n) (hM : vx_Met l y ws rm Pc Qc XC mc ms free) (hbl : FrameBlind Pc) : vx_Back l R p e below s args y 3 8 (PreOf R mc ms Pc) (PostOf Qc mc ms free) (vx_Post XC mc ms free) := by
  obtain ⟨hrc, hrs, hfr, hlo, hws, hcw, -, hini, -⟩ := cb
  exact vx_back (bytes := bytes) (maxL := maxL) (ret := ret) hM hbl hrc hrs hfr hlo hws hcw (fun a' U hW => word_at hW (Or.inl (by first | rfl | simp [Cond.onTables, Cond.keeps, Cond.steady])) hini)
theorem vx_runV (S : CallFix p m c cc nL s args Ts own) (hM : vx_Met l y ws rm Pc Qc XC mc ms free) (cw : CallW R s args own C index y bytes maxL ret ws rm mc ms n) (hp : PreV s H C b Pc As)
    (hg : g.method = m) (hn : As.length = n) (hsize : g.locals.size = nL) (hstack : g.stack = As.reverse ++ .ref b :: rest) (hW : 2 * g.monitorRoom + (rest.map fun v => v.category).sum ≤ 8) (hdg : decode cc g.pc = .ok (.invokevirtual index, 3)) (hf : cells + mc ≤ R.cells ∧ slots + ms ≤ R.slots) :
    vx_Run p l e R s m args below meth c H locs cells slots mc ms g rest (Qc (Value.ref b :: As).toArray) XC free := by
  have hK : vx_Back l R p e below s args y 3 8 (PreOf R mc ms Pc) (PostOf Qc mc ms free) (vx_Post XC mc ms free) := vx_callBack cw.1 hM hp.1
  obtain ⟨⟨-, -, -, -, -, -, hcode, -, hy, hlen, hl⟩, hin, hse⟩ := cw
  obtain ⟨hx, hb, hml, ho, -⟩ := S
  obtain ⟨-, ⟨cellB, hcB, hoB, hclB⟩, hPc⟩ := hp
  intro T hT X
  rcases vx_callV X hx (C := C) (bytes := bytes) (maxL := maxL) (ret := ret) ho hl hin hse hcode hy hK (by rw [hT]; exact hcB) hoB hclB hg (hsize.trans hml.symm) (argsL := As) (rest := rest) (fun sig h => hn.trans (hlen sig h)) hstack hW (by rw [hb]; exact hdg)
    (fun vm₁ hW₁ => ⟨hf.1, hf.2, hPc (T.setVm vm₁) hT hW₁⟩) with ⟨v, vm₁, ⟨U', l2, c2, s2⟩, hW₁, X', ⟨g', mk, t, L, e1, e2, hq, h1, hL, h2, h3⟩, st⟩ | ⟨q, vm₁, ⟨U', l2, c2, s2⟩, hW₁, X', ⟨g', mk, t, L, E, ce, e1, e2, hq, hce, hcv, hcl, h1, hL, h2, h3⟩, st⟩
  · dsimp only [Pt.U, Pt.locs, Pt.cells, Pt.slots] at X' e1 e2 h1 h2 h3 st
    subst h1; subst h2; subst h3
    exact Or.inl ⟨v, (T.setVm vm₁).calling g' mk (Value.ref b :: As).toArray, t, U', L, hT, X', hL, e1, e2, hq, st⟩
  · dsimp only [Pt.U, Pt.locs, Pt.cells, Pt.slots] at X' e1 e2 h1 h2 h3 st hcl
    subst h1; subst h2; subst h3
    exact Or.inr ⟨q, (T.setVm vm₁).calling g' mk (Value.ref b :: As).toArray, t, U', L, E, ce, hT, X', hL, e1, e2, hq, hce, hcv, vx_cls hW₁ hcl, st⟩
theorem vx_runS (S : CallFix p m c cc nL s args Ts own) (hM : vx_Met l y ws rm Pc Qc XC mc ms free) (cw : CallB R s args own index y bytes maxL ret ws rm mc ms n ∧ (Cond.static y).before args s = true) (hp : PreS s H Pc As)
    (hg : g.method = m) (hn : As.length = n) (hsize : g.locals.size = nL) (hstack : g.stack = As.reverse ++ rest) (hW : 2 * g.monitorRoom + (rest.map fun v => v.category).sum ≤ 8) (hdg : decode cc g.pc = .ok (.invokestatic index, 3)) (hf : cells + mc ≤ R.cells ∧ slots + ms ≤ R.slots) :
    vx_Run p l e R s m args below meth c H locs cells slots mc ms g rest (Qc As.toArray) XC free := by
  have hK : vx_Back l R p e below s args y 3 8 (PreOf R mc ms Pc) (PostOf Qc mc ms free) (vx_Post XC mc ms free) := vx_callBack cw.1 hM hp.1
  obtain ⟨⟨-, -, -, -, -, -, hcode, hini, hy, hlen, hl⟩, hstt⟩ := cw
  obtain ⟨hx, hb, hml, ho, -⟩ := S
  intro T hT X
  rcases vx_callS X hx (bytes := bytes) (maxL := maxL) (ret := ret) ho hl hstt hini hcode hy hK hg (hsize.trans hml.symm) (argsL := As) (rest := rest) (fun sig h => hn.trans (hlen sig h)) hstack hW (by rw [hb]; exact hdg)
    (fun vm₁ hW₁ => ⟨hf.1, hf.2, hp.2 (T.setVm vm₁) hT hW₁⟩) with ⟨v, vm₁, ⟨U', l2, c2, s2⟩, hW₁, X', ⟨g', mk, t, L, e1, e2, hq, h1, hL, h2, h3⟩, st⟩ | ⟨q, vm₁, ⟨U', l2, c2, s2⟩, hW₁, X', ⟨g', mk, t, L, E, ce, e1, e2, hq, hce, hcv, hcl, h1, hL, h2, h3⟩, st⟩
  · dsimp only [Pt.U, Pt.locs, Pt.cells, Pt.slots] at X' e1 e2 h1 h2 h3 st
    subst h1; subst h2; subst h3
    exact Or.inl ⟨v, (T.setVm vm₁).calling g' mk As.toArray, t, U', L, hT, X', hL, e1, e2, hq, st⟩
  · dsimp only [Pt.U, Pt.locs, Pt.cells, Pt.slots] at X' e1 e2 h1 h2 h3 st hcl
    subst h1; subst h2; subst h3
    exact Or.inr ⟨q, (T.setVm vm₁).calling g' mk As.toArray, t, U', L, E, ce, hT, X', hL, e1, e2, hq, hce, hcv, vx_cls hW₁ hcl, st⟩
end Runs
section Rows
variable {p : Program} {l : Launch} {e : Env} {R : Room} {s : State} {m : MethodId} {args : Array Value} {below : List Frame} {meth : Method} {c : Code} {H : Heap} {locs : List Loc} {cells slots : Nat} {Q : State → Prop}
variable {mc ms : Nat} {free : Addr → Prop} {A0 A1 : Nat → Prop} {H0 : Heap} {a : Array Value} {pc : Nat} {ls : Array Slot} {st0 rest : List Value}
theorem vx_keep {st₀ t T' : State} {L : List Loc} (h0 : st₀.heap = H) (e1 : T'.heap = t.heap) (hS : va_S A0 H0 H locs) (hA : ∀ q, q < H.size → A1 q → A0 q) (hf : ∀ q, free q → A0 q) (hL : ∀ q ∈ L, free q.base) (hF : va_F A1 st₀ t) :
    H.size ≤ T'.heap.size ∧ (∀ q : Nat, q < H.size → ¬ A1 q → T'.heap[q]? = H[q]?) ∧ va_S A0 H0 T'.heap (locs ++ L) := by
  obtain ⟨hz, hk⟩ := hF
  rw [h0] at hz hk
  exact ⟨by rw [e1]; exact hz, fun q h1 h2 => by rw [e1]; exact hk q h1 h2,
    ⟨Nat.le_trans hS.1 (by rw [e1]; exact hz), fun q h1 h2 => by rw [e1, hk q (Nat.lt_of_lt_of_le h1 hS.1) (fun z => h2 (hA q (Nat.lt_of_lt_of_le h1 hS.1) z))]; exact hS.2.1 q h1 h2, fun q hq => by
      rcases List.mem_append.mp hq with h | h
      · exact hS.2.2 q h
      · exact hf _ (hL q h)⟩⟩
theorem vx_calli {S SX : Type} {post : Int32 → S → Prop} {px : SX → Prop} {B : S → State → Prop} {BX : String → SX → State → Prop} {AX : Nat → Prop} (hr : vx_Run p l e R s m args below meth c H locs cells slots mc ms (F0 m pc ls st0) rest (va_Qi post B A1 a) (vx_X px BX AX) free) (hS : va_S A0 H0 H locs) (hA : ∀ q, q < H.size → A1 q → A0 q) (hf : ∀ q, free q → A0 q) (hAX : ∀ q, q < H.size → AX q → A0 q)
    (kx : ∀ (E : String) (ce : Cell) (q9 : Addr) (u : SX) (t : State) (H1 : Heap) (locs1 : List Loc), t.heap = H1 → s.vm.Alike t.vm → px u → BX E u t → H.size ≤ H1.size → (∀ q : Nat, q < H.size → ¬ AX q → H1[q]? = H[q]?) → va_S A0 H0 H1 locs1 → H1[q9]? = some ce → ce.vm = .none → s.vm.findClass E = some ce.cls → vx_W p l e R s m args below meth c H1 locs1 (cells + mc) (slots + ms) Q (F0 m pc ls rest) q9)
    (kk : ∀ (r : Int32) (u : S) (t : State) (H1 : Heap) (locs1 : List Loc), t.heap = H1 → s.vm.Alike t.vm → post r u → B u t → H.size ≤ H1.size → (∀ q : Nat, q < H.size → ¬ A1 q → H1[q]? = H[q]?) → va_S A0 H0 H1 locs1 → W p l e R s m args below meth c H1 locs1 (cells + mc) (slots + ms) Q (F0 m (pc + 3) ls (.int r :: rest))) : W p l e R s m args below meth c H locs cells slots Q (F0 m pc ls st0) := by
  intro T hT X
  rcases hr T hT X with ⟨v, st₀, t, T', L, h0, X', hL, e1, e2, ⟨⟨r, u, hv, hp, hb⟩, hF⟩, st⟩ | ⟨q, st₀, t, T', L, E, ce, h0, X', hL, e1, e2, ⟨u, hp, hb, hF⟩, hce, hcv, hcl, st⟩
  · cases hv
    obtain ⟨k1, k2, k3⟩ := vx_keep h0 e1 hS hA hf hL hF
    obtain ⟨t2, a1, b1⟩ := kk r u t T'.heap (locs ++ L) e1.symm (by rw [← e2]; exact X'.warmed.alike) hp hb k1 k2 k3 T' rfl X'
    exact ⟨t2, st t2 a1, b1⟩
  · obtain ⟨k1, k2, k3⟩ := vx_keep h0 e1 hS hAX hf hL hF
    obtain ⟨t2, a1, b1⟩ := kx E ce q u t T'.heap (locs ++ L) e1.symm (by rw [← e2]; exact X'.warmed.alike) hp hb k1 k2 k3 (by rw [e1]; exact hce) hcv hcl T' rfl X'
    exact ⟨t2, st.trans a1, b1⟩
theorem vx_calll {S SX : Type} {post : Int64 → S → Prop} {px : SX → Prop} {B : S → State → Prop} {BX : String → SX → State → Prop} {AX : Nat → Prop} (hr : vx_Run p l e R s m args below meth c H locs cells slots mc ms (F0 m pc ls st0) rest (va_Ql post B A1 a) (vx_X px BX AX) free) (hS : va_S A0 H0 H locs) (hA : ∀ q, q < H.size → A1 q → A0 q) (hf : ∀ q, free q → A0 q) (hAX : ∀ q, q < H.size → AX q → A0 q)
    (kx : ∀ (E : String) (ce : Cell) (q9 : Addr) (u : SX) (t : State) (H1 : Heap) (locs1 : List Loc), t.heap = H1 → s.vm.Alike t.vm → px u → BX E u t → H.size ≤ H1.size → (∀ q : Nat, q < H.size → ¬ AX q → H1[q]? = H[q]?) → va_S A0 H0 H1 locs1 → H1[q9]? = some ce → ce.vm = .none → s.vm.findClass E = some ce.cls → vx_W p l e R s m args below meth c H1 locs1 (cells + mc) (slots + ms) Q (F0 m pc ls rest) q9)
    (kk : ∀ (r : Int64) (u : S) (t : State) (H1 : Heap) (locs1 : List Loc), t.heap = H1 → s.vm.Alike t.vm → post r u → B u t → H.size ≤ H1.size → (∀ q : Nat, q < H.size → ¬ A1 q → H1[q]? = H[q]?) → va_S A0 H0 H1 locs1 → W p l e R s m args below meth c H1 locs1 (cells + mc) (slots + ms) Q (F0 m (pc + 3) ls (.long r :: rest))) : W p l e R s m args below meth c H locs cells slots Q (F0 m pc ls st0) := by
  intro T hT X
  rcases hr T hT X with ⟨v, st₀, t, T', L, h0, X', hL, e1, e2, ⟨⟨r, u, hv, hp, hb⟩, hF⟩, st⟩ | ⟨q, st₀, t, T', L, E, ce, h0, X', hL, e1, e2, ⟨u, hp, hb, hF⟩, hce, hcv, hcl, st⟩
  · cases hv
    obtain ⟨k1, k2, k3⟩ := vx_keep h0 e1 hS hA hf hL hF
    obtain ⟨t2, a1, b1⟩ := kk r u t T'.heap (locs ++ L) e1.symm (by rw [← e2]; exact X'.warmed.alike) hp hb k1 k2 k3 T' rfl X'
    exact ⟨t2, st t2 a1, b1⟩
  · obtain ⟨k1, k2, k3⟩ := vx_keep h0 e1 hS hAX hf hL hF
    obtain ⟨t2, a1, b1⟩ := kx E ce q u t T'.heap (locs ++ L) e1.symm (by rw [← e2]; exact X'.warmed.alike) hp hb k1 k2 k3 (by rw [e1]; exact hce) hcv hcl T' rfl X'
    exact ⟨t2, st.trans a1, b1⟩
theorem vx_callf {S SX : Type} {post : UInt32 → S → Prop} {px : SX → Prop} {B : S → State → Prop} {BX : String → SX → State → Prop} {AX : Nat → Prop} (hr : vx_Run p l e R s m args below meth c H locs cells slots mc ms (F0 m pc ls st0) rest (va_Qf post B A1 a) (vx_X px BX AX) free) (hS : va_S A0 H0 H locs) (hA : ∀ q, q < H.size → A1 q → A0 q) (hf : ∀ q, free q → A0 q) (hAX : ∀ q, q < H.size → AX q → A0 q)
    (kx : ∀ (E : String) (ce : Cell) (q9 : Addr) (u : SX) (t : State) (H1 : Heap) (locs1 : List Loc), t.heap = H1 → s.vm.Alike t.vm → px u → BX E u t → H.size ≤ H1.size → (∀ q : Nat, q < H.size → ¬ AX q → H1[q]? = H[q]?) → va_S A0 H0 H1 locs1 → H1[q9]? = some ce → ce.vm = .none → s.vm.findClass E = some ce.cls → vx_W p l e R s m args below meth c H1 locs1 (cells + mc) (slots + ms) Q (F0 m pc ls rest) q9)
    (kk : ∀ (r : UInt32) (u : S) (t : State) (H1 : Heap) (locs1 : List Loc), t.heap = H1 → s.vm.Alike t.vm → post r u → B u t → H.size ≤ H1.size → (∀ q : Nat, q < H.size → ¬ A1 q → H1[q]? = H[q]?) → va_S A0 H0 H1 locs1 → W p l e R s m args below meth c H1 locs1 (cells + mc) (slots + ms) Q (F0 m (pc + 3) ls (.float r :: rest))) : W p l e R s m args below meth c H locs cells slots Q (F0 m pc ls st0) := by
  intro T hT X
  rcases hr T hT X with ⟨v, st₀, t, T', L, h0, X', hL, e1, e2, ⟨⟨r, u, hv, hp, hb⟩, hF⟩, st⟩ | ⟨q, st₀, t, T', L, E, ce, h0, X', hL, e1, e2, ⟨u, hp, hb, hF⟩, hce, hcv, hcl, st⟩
  · cases hv
    obtain ⟨k1, k2, k3⟩ := vx_keep h0 e1 hS hA hf hL hF
    obtain ⟨t2, a1, b1⟩ := kk r u t T'.heap (locs ++ L) e1.symm (by rw [← e2]; exact X'.warmed.alike) hp hb k1 k2 k3 T' rfl X'
    exact ⟨t2, st t2 a1, b1⟩
  · obtain ⟨k1, k2, k3⟩ := vx_keep h0 e1 hS hAX hf hL hF
    obtain ⟨t2, a1, b1⟩ := kx E ce q u t T'.heap (locs ++ L) e1.symm (by rw [← e2]; exact X'.warmed.alike) hp hb k1 k2 k3 (by rw [e1]; exact hce) hcv hcl T' rfl X'
    exact ⟨t2, st.trans a1, b1⟩
theorem vx_calld {S SX : Type} {post : UInt64 → S → Prop} {px : SX → Prop} {B : S → State → Prop} {BX : String → SX → State → Prop} {AX : Nat → Prop} (hr : vx_Run p l e R s m args below meth c H locs cells slots mc ms (F0 m pc ls st0) rest (va_Qd post B A1 a) (vx_X px BX AX) free) (hS : va_S A0 H0 H locs) (hA : ∀ q, q < H.size → A1 q → A0 q) (hf : ∀ q, free q → A0 q) (hAX : ∀ q, q < H.size → AX q → A0 q)
    (kx : ∀ (E : String) (ce : Cell) (q9 : Addr) (u : SX) (t : State) (H1 : Heap) (locs1 : List Loc), t.heap = H1 → s.vm.Alike t.vm → px u → BX E u t → H.size ≤ H1.size → (∀ q : Nat, q < H.size → ¬ AX q → H1[q]? = H[q]?) → va_S A0 H0 H1 locs1 → H1[q9]? = some ce → ce.vm = .none → s.vm.findClass E = some ce.cls → vx_W p l e R s m args below meth c H1 locs1 (cells + mc) (slots + ms) Q (F0 m pc ls rest) q9)
    (kk : ∀ (r : UInt64) (u : S) (t : State) (H1 : Heap) (locs1 : List Loc), t.heap = H1 → s.vm.Alike t.vm → post r u → B u t → H.size ≤ H1.size → (∀ q : Nat, q < H.size → ¬ A1 q → H1[q]? = H[q]?) → va_S A0 H0 H1 locs1 → W p l e R s m args below meth c H1 locs1 (cells + mc) (slots + ms) Q (F0 m (pc + 3) ls (.double r :: rest))) : W p l e R s m args below meth c H locs cells slots Q (F0 m pc ls st0) := by
  intro T hT X
  rcases hr T hT X with ⟨v, st₀, t, T', L, h0, X', hL, e1, e2, ⟨⟨r, u, hv, hp, hb⟩, hF⟩, st⟩ | ⟨q, st₀, t, T', L, E, ce, h0, X', hL, e1, e2, ⟨u, hp, hb, hF⟩, hce, hcv, hcl, st⟩
  · cases hv
    obtain ⟨k1, k2, k3⟩ := vx_keep h0 e1 hS hA hf hL hF
    obtain ⟨t2, a1, b1⟩ := kk r u t T'.heap (locs ++ L) e1.symm (by rw [← e2]; exact X'.warmed.alike) hp hb k1 k2 k3 T' rfl X'
    exact ⟨t2, st t2 a1, b1⟩
  · obtain ⟨k1, k2, k3⟩ := vx_keep h0 e1 hS hAX hf hL hF
    obtain ⟨t2, a1, b1⟩ := kx E ce q u t T'.heap (locs ++ L) e1.symm (by rw [← e2]; exact X'.warmed.alike) hp hb k1 k2 k3 (by rw [e1]; exact hce) hcv hcl T' rfl X'
    exact ⟨t2, st.trans a1, b1⟩
theorem vx_callv {S SX : Type} {post : S → Prop} {px : SX → Prop} {B : S → State → Prop} {BX : String → SX → State → Prop} {AX : Nat → Prop} (hr : vx_Run p l e R s m args below meth c H locs cells slots mc ms (F0 m pc ls st0) rest (va_Qv post B A1 a) (vx_X px BX AX) free) (hS : va_S A0 H0 H locs) (hA : ∀ q, q < H.size → A1 q → A0 q) (hf : ∀ q, free q → A0 q) (hAX : ∀ q, q < H.size → AX q → A0 q)
    (kx : ∀ (E : String) (ce : Cell) (q9 : Addr) (u : SX) (t : State) (H1 : Heap) (locs1 : List Loc), t.heap = H1 → s.vm.Alike t.vm → px u → BX E u t → H.size ≤ H1.size → (∀ q : Nat, q < H.size → ¬ AX q → H1[q]? = H[q]?) → va_S A0 H0 H1 locs1 → H1[q9]? = some ce → ce.vm = .none → s.vm.findClass E = some ce.cls → vx_W p l e R s m args below meth c H1 locs1 (cells + mc) (slots + ms) Q (F0 m pc ls rest) q9)
    (kk : ∀ (u : S) (t : State) (H1 : Heap) (locs1 : List Loc), t.heap = H1 → s.vm.Alike t.vm → post u → B u t → H.size ≤ H1.size → (∀ q : Nat, q < H.size → ¬ A1 q → H1[q]? = H[q]?) → va_S A0 H0 H1 locs1 → W p l e R s m args below meth c H1 locs1 (cells + mc) (slots + ms) Q (F0 m (pc + 3) ls (rest))) : W p l e R s m args below meth c H locs cells slots Q (F0 m pc ls st0) := by
  intro T hT X
  rcases hr T hT X with ⟨v, st₀, t, T', L, h0, X', hL, e1, e2, ⟨⟨u, hv, hp, hb⟩, hF⟩, st⟩ | ⟨q, st₀, t, T', L, E, ce, h0, X', hL, e1, e2, ⟨u, hp, hb, hF⟩, hce, hcv, hcl, st⟩
  · cases hv
    obtain ⟨k1, k2, k3⟩ := vx_keep h0 e1 hS hA hf hL hF
    obtain ⟨t2, a1, b1⟩ := kk u t T'.heap (locs ++ L) e1.symm (by rw [← e2]; exact X'.warmed.alike) hp hb k1 k2 k3 T' rfl X'
    exact ⟨t2, st t2 a1, b1⟩
  · obtain ⟨k1, k2, k3⟩ := vx_keep h0 e1 hS hAX hf hL hF
    obtain ⟨t2, a1, b1⟩ := kx E ce q u t T'.heap (locs ++ L) e1.symm (by rw [← e2]; exact X'.warmed.alike) hp hb k1 k2 k3 (by rw [e1]; exact hce) hcv hcl T' rfl X'
    exact ⟨t2, st.trans a1, b1⟩
/-- caught by the row x of this method's table; the rows ahead don't take it -/
theorem vx_catch {own name : String} {E : String} {ce : Cell} {q : Addr} (hown : s.vm.findClass own = some m.cls) (pre : List ExceptionTableEntry) (x : ExceptionTableEntry) (suf : List ExceptionTableEntry) (hsplit : c.exceptionTable.toList = pre ++ x :: suf)
    (hpass : ∀ z ∈ pre, covers z pc = false ∨ (z.catchType ≠ 0 ∧ ∃ nm : String, (Cond.classLink own z.catchType nm).before args s = true ∧ va_Nc E nm s)) (hx : covers x pc = true) (h0 : x.catchType ≠ 0)
    (hlink : (Cond.classLink own x.catchType name).before args s = true) (hcast : (Cond.castable E name).before args s = true) (hcell : H[q]? = some ce) (hv : ce.vm = .none) (hcl : s.vm.findClass E = some ce.cls)
    (kk : W p l e R s m args below meth c H locs cells slots Q (F0 m x.handlerPc ls [.ref q])) : vx_W p l e R s m args below meth c H locs cells slots Q (F0 m pc ls rest) q := by
  intro T hT X
  have hpl : e.platform.magicAccessors = ({} : Platform).magicAccessors := by rw [X.admits.platform]
  obtain ⟨c3, c4, hc3, hc4, hasg⟩ := Cond.castable_spec hcast
  cases Option.some.inj (hc3.symm.trans hcl)
  obtain ⟨c5, hc5, hcl5⟩ := Cond.classLink_spec hown hlink e.platform hpl
  cases Option.some.inj (hc4.symm.trans hc5)
  obtain ⟨vm', X', st⟩ := X.thenCaughtThrough q (g := F0 m pc ls rest) rfl (Steps.refl _) (by rw [hT]; exact hcell) (by rw [hv]; rfl) (by obtain ⟨k9, h9, -⟩ := Vm.findClass_spec hcl; exact ⟨k9, h9⟩) pre x suf hsplit
    (fun z hz => by
      rcases hpass z hz with h | ⟨hz0, nm, hl1, hn1⟩
      · exact Or.inl h
      · obtain ⟨c6, hc6, hcl6⟩ := Cond.classLink_spec hown hl1 e.platform hpl
        obtain ⟨a8, b8, h1, h2, h3⟩ := hn1
        cases Option.some.inj (h1.symm.trans hcl)
        cases Option.some.inj (h2.symm.trans hc6)
        exact Or.inr ⟨hz0, _, hcl6, h3⟩) hx (Or.inr ⟨h0, c4, hcl5, hasg⟩)
  obtain ⟨t, a1, b1⟩ := kk (T.setVm vm') hT X'
  exact ⟨t, st.trans a1, b1⟩
end Rows
section Ends
variable {p : Program} {l : Launch} {e : Env} {R : Room} {s : State} {m : MethodId} {args : Array Value} {below : List Frame} {meth : Method} {c : Code} {H : Heap} {locs : List Loc} {cells slots : Nat} {Q : State → Prop}
variable {mc ms : Nat} {free : Addr → Prop} {A0 A1 : Nat → Prop} {H0 : Heap} {a : Array Value} {ls : Array Slot} {st0 rest : List Value}
variable {Qc : Array Value → State → Outcome → State → Prop} {XC : String → State → State → Prop}
/-- what a body that may throw owes at its end -/
def vx_MQ (below : List Frame) (Qc : Array Value → State → Outcome → State → Prop) (XC : String → State → State → Prop) (a : Array Value) (s : State) (mc ms : Nat) (free : Addr → Prop) : State → Prop := fun t =>
  ∃ o, t.status = .running ∧ Ended t below o ∧ vx_Q Qc XC mc ms free a s o t
theorem vx_ret {g : JFrame} {mc ms : Nat} (k : W p l e R s m args below meth c H locs cells slots (MQ below Qc args s mc ms free) g) : W p l e R s m args below meth c H locs cells slots (vx_MQ below Qc XC args s mc ms free) g := by
  intro T hT X
  obtain ⟨t, a1, o, b1, b2, b3, b4⟩ := k T hT X
  exact ⟨t, a1, o, b1, b2, Or.inl ⟨b3, b4⟩⟩
/-- not caught here: it goes on to the caller -/
theorem vx_widen {g : JFrame} {q : Addr} {k n : Nat} (h1 : cells ≤ k) (h2 : slots ≤ n) (kk : vx_W p l e R s m args below meth c H locs k n Q g q) : vx_W p l e R s m args below meth c H locs cells slots Q g q := fun T hT X => kk T hT (stand_widen X h1 h2)
theorem vx_out {pc : Nat} {E : String} {ce : Cell} {q : Addr} {mc ms : Nat} (hout : ∀ x ∈ c.exceptionTable.toList, covers x pc = false) (hlocks : meth.locks = false) (hcell : H[q]? = some ce) (hv : ce.vm = .none) (hcl : s.vm.findClass E = some ce.cls)
    (hx : ∀ t : State, t.heap = H → s.vm.Alike t.vm → XC E s t) (hf : ∀ z ∈ locs, free z.base) (hc : cells ≤ mc) (hs : slots ≤ ms) :
    vx_W p l e R s m args below meth c H locs cells slots (vx_MQ below Qc XC args s mc ms free) (F0 m pc ls rest) q := by
  intro T hT X
  obtain ⟨st1, hrun, hend, hW, hsm⟩ := X.leaveThrown q (g := F0 m pc ls rest) rfl rfl rfl hout hlocks
  have hcell9 : (T.setFrames (.throwing q :: below)).heap[q]? = some ce := by
    show T.heap[q]? = some ce
    rw [hT]; exact hcell
  exact ⟨_, st1, .threw q, hrun, hend, Or.inr ⟨q, rfl, E, ce, locs, hx _ hT hW.alike, hcell9, hv, hcl, hW, hsm.mono hc hs, hf⟩⟩
theorem vx_frame {U : State} {k n : Nat} (h : s.sameButNew ({ U with vm := s.vm } : State) locs k n) : s.heap.size ≤ U.heap.size ∧ ∀ q : Nat, q < s.heap.size → (∀ z ∈ locs, z.base ≠ q) → U.heap[q]? = s.heap[q]? := by
  obtain ⟨-, h2, -, -, -, h6⟩ := h
  refine ⟨h2, fun q hq hz => ?_⟩
  obtain ⟨c9, e1, e2, e3, e4⟩ := h6 q _ (Array.getElem?_eq_getElem hq)
  have hs : c9.slots = (s.heap[q]).slots := Array.ext_getElem? fun i => e4 i fun hm => hz _ hm rfl
  have h9 : c9 = s.heap[q] := by
    rw [hs] at e2
    exact e2
  have e5 : U.heap[q]? = some c9 := e1
  rw [e5, h9, Array.getElem?_eq_getElem hq]
/-- the words of a throw but the four that speak of the heap -/
def vx_no (w : Cond) : Bool := decide (w ≠ .isRef (.static Bundle.tN "UNASSIGNED_STACK" Bundle.steD)) && decide (w ≠ .isRef (.static Bundle.tN "SUPPRESSED_SENTINEL" Bundle.listD)) && decide (w ≠ .laysStatic Bundle.tN "UNASSIGNED_STACK" Bundle.steD) && decide (w ≠ .laysStatic Bundle.tN "SUPPRESSED_SENTINEL" Bundle.listD)
def vx_at0 (own : String) (ic : Nat) (X : String) (names : List String) : List Cond := (Bundle.ownAtoms0 own ic X names).filter vx_no
def vx_atS (own : String) (ic : Nat) (X : String) (names : List String) : List Cond := (Bundle.ownAtoms own ic X names).filter vx_no
/-- a word that the tables alone decide, or a good one -/
def vx_ot (w : Cond) : Bool := w.onTables || goodWord w
theorem vx_ot_at {args a' : Array Value} {s U : State} {w : Cond} (hW : s.WarmedH U.vm) (hvm : s.vm = U.vm) (hg : vx_ot w = true) (h : w.before args s = true) : w.before a' U = true := by
  simp only [vx_ot, Bool.or_eq_true] at hg
  rcases hg with hg | hg
  · exact va_tabs hg hvm h
  · exact word_at hW (good_of_word hg) h
/-- a list's words: the good ones out of the method's own list, the others by premises of their own -/
theorem vx_hat {args : Array Value} {s : State} {L B : List Cond} (h1 : ∀ w ∈ L.filter goodWord, w.before args s = true) (h2 : ∀ w ∈ L.filter (fun w => !goodWord w), w ∈ B) (h3 : ∀ w ∈ B, w.before args s = true) : ∀ w ∈ L, w.before args s = true := by
  intro w hw
  by_cases g : goodWord w = true
  · exact h1 w (List.mem_filter.mpr ⟨hw, g⟩)
  · refine h3 w (h2 w (List.mem_filter.mpr ⟨hw, ?_⟩))
    show (!goodWord w) = true
    cases hgw : goodWord w
    · rfl
    · exact absurd hgw g
theorem vx_c {args : Array Value} {s : State} {w : Cond} {B : List Cond} (h : w.before args s = true) (t : ∀ w ∈ B, w.before args s = true) : ∀ w' ∈ w :: B, w'.before args s = true := fun w' h' => (List.mem_cons.mp h').elim (fun e => by rw [e]; exact h) (t w')
theorem vx_n {args : Array Value} {s : State} : ∀ w ∈ ([] : List Cond), w.before args s = true := fun _ h => nomatch h
theorem vx_own {args : Array Value} {s : State} {L : List Cond} (h1 : ∀ w ∈ L.filter vx_no, w.before args s = true)
    (hU : (Cond.isRef (.static Bundle.tN "UNASSIGNED_STACK" Bundle.steD)).before args s = true) (hN : (Cond.isRef (.static Bundle.tN "SUPPRESSED_SENTINEL" Bundle.listD)).before args s = true)
    (lU : (Cond.laysStatic Bundle.tN "UNASSIGNED_STACK" Bundle.steD).before args s = true) (lN : (Cond.laysStatic Bundle.tN "SUPPRESSED_SENTINEL" Bundle.listD).before args s = true) : ∀ w ∈ L, w.before args s = true := by
  intro w hw
  by_cases e1 : w = .isRef (.static Bundle.tN "UNASSIGNED_STACK" Bundle.steD)
  · rw [e1]; exact hU
  · by_cases e2 : w = .isRef (.static Bundle.tN "SUPPRESSED_SENTINEL" Bundle.listD)
    · rw [e2]; exact hN
    · by_cases e3 : w = .laysStatic Bundle.tN "UNASSIGNED_STACK" Bundle.steD
      · rw [e3]; exact lU
      · by_cases e4 : w = .laysStatic Bundle.tN "SUPPRESSED_SENTINEL" Bundle.listD
        · rw [e4]; exact lN
        · exact h1 w (List.mem_filter.mpr ⟨hw, by unfold vx_no; rw [decide_eq_true e1, decide_eq_true e2, decide_eq_true e3, decide_eq_true e4]; rfl⟩)
/-- where a static field lies, its class's statics cell in H -/
def vx_L (C n d : String) (A : Nat → Prop) (U : State) (H : Heap) : Prop := ∃ (c : ClassId) (k : Class) (i : Nat) (f : Field) (a : Nat) (cell : Cell), U.vm.findClass C = some c ∧ U.fieldFound? C n d = some (c, k, i, f) ∧ f.isStatic = true ∧ k.statics = some a ∧ H[a]? = some cell ∧ cell.vm.isStatics = true ∧ cell.cls = c ∧ f.slot < cell.slots.size ∧ k.staticTypes[f.slot]? = some f.type ∧ ¬ A a
theorem vx_L.moved {C n d : String} {A : Nat → Prop} {u U : State} {H : Heap} (hvm : u.vm.Alike U.vm) (h : vx_L C n d A u H) : vx_L C n d A U H := by
  obtain ⟨c, k, i, f, a, cell, h1, h2, h3, h4, h5, h6, h7, h8, h9, h10⟩ := h
  obtain ⟨k', hi', he⟩ := State.fieldFound?_setVm hvm h2
  exact ⟨c, k', i, f, a, cell, by rw [hvm.findClass]; exact h1, hi', h3, by rw [he]; exact h4, h5, h6, h7, h8, by rw [he]; exact h9, h10⟩
theorem vx_L.kept {C n d : String} {A : Nat → Prop} {U : State} {H H1 : Heap} (h : vx_L C n d A U H) (hq : ∀ a : Nat, a < H.size → ¬ A a → H1[a]? = H[a]?) : vx_L C n d A U H1 := by
  obtain ⟨c, k, i, f, a, cell, h1, h2, h3, h4, h5, h6, h7, h8, h9, h10⟩ := h
  exact ⟨c, k, i, f, a, cell, h1, h2, h3, h4, by rw [hq a (Array.getElem?_eq_some_iff.mp h5).1 h10]; exact h5, h6, h7, h8, h9, h10⟩
theorem vx_L.narrow {C n d : String} {A B : Nat → Prop} {U : State} {H : Heap} (h : vx_L C n d A U H) (hAB : ∀ q, B q → A q) : vx_L C n d B U H := by
  obtain ⟨c, k, i, f, a, cell, h1, h2, h3, h4, h5, h6, h7, h8, h9, h10⟩ := h
  exact ⟨c, k, i, f, a, cell, h1, h2, h3, h4, h5, h6, h7, h8, h9, fun z => h10 (hAB _ z)⟩
theorem vx_L.word {C n d : String} {A : Nat → Prop} {s : State} {args : Array Value} (h : vx_L C n d A s s.heap) : (Cond.laysStatic C n d).before args s = true := by
  obtain ⟨c, k, i, f, a, cell, h1, h2, h3, h4, h5, h6, h7, h8, h9, -⟩ := h
  show (Cond.laysStatic C n d).holds args s none s [] = true
  exact Cond.laysStatic_of h1 h2 h3 h4 h5 h6 h7 h8 h9
/-- .. and what it holds: null or some reference -/
def vx_Zq (C n d : String) (A : Nat → Prop) (U : State) (H : Heap) : Prop := va_Zq C n d A U H ∧ vx_L C n d A U H
theorem vx_Zq.moved {C n d : String} {A : Nat → Prop} {u U : State} {H : Heap} (hvm : u.vm.Alike U.vm) (h : vx_Zq C n d A u H) : vx_Zq C n d A U H := ⟨va_Zq.moved hvm h.1, vx_L.moved hvm h.2⟩
theorem vx_Zq.kept {C n d : String} {A : Nat → Prop} {U : State} {H H1 : Heap} (h : vx_Zq C n d A U H) (hq : ∀ a : Nat, a < H.size → ¬ A a → H1[a]? = H[a]?) : vx_Zq C n d A U H1 := ⟨va_Zq.kept h.1 hq, vx_L.kept h.2 hq⟩
theorem vx_Zq.narrow {C n d : String} {A B : Nat → Prop} {U : State} {H : Heap} (h : vx_Zq C n d A U H) (hAB : ∀ q, B q → A q) : vx_Zq C n d B U H := ⟨va_Zq.narrow h.1 hAB, vx_L.narrow h.2 hAB⟩
theorem vx_Zqof {args : Array Value} {s : State} {C n d : String} {A : Nat → Prop} (hl : (Cond.laysStatic C n d).before args s = true) (hini : (Cond.initialized C).before args s = true) (h : (Cond.isRef (.static C n d)).before args s = true) (hA : ∀ a : Nat, a < s.heap.size → ¬ A a) : vx_Zq C n d A s s.heap := by
  refine ⟨va_Zqof hl hini h hA, ?_⟩
  obtain ⟨c, k, i, f, a, cell, h1, h2, h3, h4, h5, h6, h7, h8, h9⟩ := Cond.laysStatic_spec hl
  exact ⟨c, k, i, f, a, cell, h1, h2, h3, h4, h5, h6, h7, h8, h9, hA a (Array.getElem?_eq_some_iff.mp h5).1⟩
theorem vx_isRef {C n d : String} {v : Value} {A : Nat → Prop} {s : State} {args : Array Value} (h : va_Z C n d v A s s.heap) (hv : v.isRef = true) : (Cond.isRef (.static C n d)).before args s = true := by
  obtain ⟨cf, kf, fi, f, a, cell, h1, h2, h3, h4, h5, h6, h7, -⟩ := h
  have he : (Term.static C n d).eval args s none [] s = some v := by
    simp [Term.eval, State.fieldNamed?, h1, h2, h4, h5, h6, h7]
  simp only [Cond.before, Cond.holds, Cond.value, he]
  cases v <;> simp_all [Value.isRef]
theorem vx_isRefq {C n d : String} {A : Nat → Prop} {s : State} {args : Array Value} (h : va_Zq C n d A s s.heap) : (Cond.isRef (.static C n d)).before args s = true := by
  rcases h with h | ⟨t, h⟩
  · exact vx_isRef h rfl
  · exact vx_isRef h rfl
/-- the same frame, seen from here: as if the method were called anew in this heap -/
theorem vx_rebase {T : State} (X : Stand p l e R s m args below meth c T locs cells slots) {R' : Room} (hf : R'.frames ≤ R.frames) (hl : R'.locals ≤ R.locals) (hc : cells + R'.cells ≤ R.cells) (hs : slots + R'.slots ≤ R.slots) :
    Stand p l e R' ((T.setVm s.vm).setFrames (.invoking m args :: below)) m args below meth c T [] 0 0 := by
  have htop : (T.setVm s.vm).topJava?.isSome := X.here.top
  have hF : ((T.setVm s.vm).setFrames (.invoking m args :: below)).frames = .invoking m args :: below := State.frames_setFrames _ (State.cur_lt_of_top htop)
  obtain ⟨g₀, hg0⟩ := Option.isSome_iff_exists.mp htop
  obtain ⟨r, hr⟩ := State.topJava?_eq_some.mp hg0
  have hl9 : e.platform.stackLimits (T.setVm s.vm).me = e.platform.stackLimits s.me := X.limits
  have hb9 : (T.setVm s.vm).me.stackBytes = s.me.stackBytes := X.bytes
  refine ⟨X.admits, X.cas, X.clock, hF, ?_, X.hears, X.method, X.code, X.here, X.tail, X.warmed, ?_, ?_, ?_⟩
  · have h := X.room
    have hU : ((T.setVm s.vm).setFrames (.invoking m args :: below)).localsInUse = s.localsInUse := by
      rw [State.localsInUse_invoking hF (meth := meth) (c := c) X.method X.code, State.localsInUse_invoking X.frames X.method X.code]
    simp only [State.hasRoom, Bool.and_eq_true, decide_eq_true_eq] at h ⊢
    obtain ⟨⟨⟨⟨h1, h2, h3, h4, h5, h6⟩, h7⟩, h8⟩, h9⟩ := h
    rw [X.frames, List.length_cons] at h2 h3
    have q1 := X.heapSize
    have q2 := X.used
    simp only [hF, hU, List.length_cons, State.stackLimits_setFrames, State.stackBytes_setFrames, hl9, hb9]
    refine ⟨⟨⟨⟨by omega, by omega, by omega, by omega, by omega, h6⟩, ?_⟩, ?_⟩, X.book⟩
    · show T.heap.size + R'.cells ≤ e.platform.maxCells
      omega
    · show T.slotsUsed + R'.slots ≤ e.platform.maxSlots
      omega
  · rw [State.stackLimits_setFrames]; rfl
  · rw [State.stackBytes_setFrames]; rfl
  · refine ⟨?_, Nat.le_refl _, Nat.le_refl _, ?_, ?_, fun a c9 h9 => ⟨c9, h9, rfl, rfl, fun _ _ => rfl⟩⟩
    · obtain ⟨t, ht, -⟩ := State.frames_cons hr
      show T.setVm s.vm = { ((T.setVm s.vm).setFrames (.invoking m args :: below)).setFrames (T.setVm s.vm).frames with heap := T.heap, slotsUsed := T.slotsUsed }
      rw [State.setFrames_setFrames, State.setFrames_self ht]
      rfl
    · show T.slotsUsed = T.slotsUsed + ((T.heap.toList.drop T.heap.size).map (·.slots.size)).sum
      rw [List.drop_eq_nil_of_le (Nat.le_of_eq Array.length_toList)]
      rfl
    · show ((T.heap.toList.drop T.heap.size).map (·.slots.size)).sum ≤ 0
      rw [List.drop_eq_nil_of_le (Nat.le_of_eq Array.length_toList)]
      exact Nat.le_refl _
/-- 'throw new E()': new; dup; invokespecial; athrow -/
theorem vx_throw0 {cc : ByteArray} {pc : Nat} (hexec : p.tables.exec = Jvm.exec) (hb : c.code = cc) (hl : l.stackTraces = false) {own cls : String} {names : List String} {ik ic mc ms : Nat} {A : Nat → Prop}
    (hown : s.vm.findClass own = some m.cls) (hcls : Bundle.fit cls = true) (hnames : ∀ n ∈ names, Bundle.fit n = true)
    (hk : (Cond.classLink own ik cls).before args s = true) (hini : (Cond.initialized cls).before args s = true) (hat : ∀ w ∈ vx_at0 own ic cls names, w.before args s = true)
    (hgood : ∀ w ∈ Cond.classLink own ik cls :: Cond.initialized cls :: vx_at0 own ic cls names, vx_ot w = true)
    (hU : vx_Zq Bundle.tN "UNASSIGNED_STACK" Bundle.steD A s s.heap) (hN : vx_Zq Bundle.tN "SUPPRESSED_SENTINEL" Bundle.listD A s s.heap) (hS : va_S A s.heap H locs) (hsize : ls.size = c.maxLocals)
    (d0 : decode cc pc = .ok (.new ik, 3)) (d3 : decode cc (pc + 3) = .ok (.dup, 1)) (d4 : decode cc (pc + 4) = .ok (.invokespecial ic, 3)) (d7 : decode cc (pc + 7) = .ok (.athrow, 1))
    (hout : ∀ x ∈ c.exceptionTable.toList, covers x (pc + 7) = false)
    (hRframes : names.length + 3 < R.frames) (hRlocals : (rest.map fun v => v.category).sum + (13 * (names.length + 1) + 42) ≤ R.locals) (hRcells : cells + 1 ≤ R.cells) (hRslots : slots + 6 ≤ R.slots) (hlocks : meth.locks = false)
    (hx : ∀ t : State, s.vm.Alike t.vm → H.size ≤ t.heap.size → (∀ q : Nat, q < H.size → t.heap[q]? = H[q]?) → XC cls s t)
    (hf : ∀ z ∈ locs, free z.base) (hc : cells + 1 ≤ mc) (hs : slots + 6 ≤ ms) :
    W p l e R s m args below meth c H locs cells slots (vx_MQ below Qc XC args s mc ms free) (F0 m pc ls rest) := by
  intro T hT X
  have htr : e.platform.stackTraces = false := (show e.platform.stackTraces = l.stackTraces by rw [X.admits.platform]).trans hl
  have Y := vx_rebase X (R' := { frames := R.frames, locals := R.locals, cells := 1, slots := 6 }) (Nat.le_refl _) (Nat.le_refl _) hRcells hRslots
  obtain ⟨s', hA⟩ : ∃ z, z = (T.setVm s.vm).setFrames (.invoking m args :: below) := ⟨_, rfl⟩
  rw [← hA] at Y
  have hvm : s'.vm = s.vm := by rw [hA]; rfl
  have hhp : s'.heap = H := by rw [hA]; exact hT
  have hW0 : s.WarmedH s'.vm := by rw [hvm]; exact State.WarmedH.refl s
  have hat' : ∀ w ∈ vx_at0 own ic cls names, w.before args s' = true := fun w hw => vx_ot_at hW0 hvm.symm (hgood w (List.mem_cons_of_mem _ (List.mem_cons_of_mem _ hw))) (hat w hw)
  have hk' : (Cond.classLink own ik cls).before args s' = true := vx_ot_at hW0 hvm.symm (hgood _ List.mem_cons_self) hk
  have hini' : (Cond.initialized cls).before args s' = true := vx_ot_at hW0 hvm.symm (hgood _ (List.mem_cons_of_mem _ List.mem_cons_self)) hini
  have hU' : vx_Zq Bundle.tN "UNASSIGNED_STACK" Bundle.steD A s' s'.heap := by rw [hhp]; exact vx_Zq.moved hW0.alike (hU.kept hS.2.1)
  have hN' : vx_Zq Bundle.tN "SUPPRESSED_SENTINEL" Bundle.listD A s' s'.heap := by rw [hhp]; exact vx_Zq.moved hW0.alike (hN.kept hS.2.1)
  have h : ∀ w ∈ Bundle.ownAtoms0 own ic cls names, w.before args s' = true := vx_own hat' (vx_isRefq hU'.1) (vx_isRefq hN'.1) hU'.2.word hN'.2.word
  have hown' : s'.vm.findClass own = some m.cls := by rw [hvm]; exact hown
  have hins : (Cond.instantiable cls 6).before args s' = true := h _ (by simp [Bundle.ownAtoms0])
  obtain ⟨vm₁, cX, kX, hfX, hkX, -, -, X₁, st1⟩ := Y.newCold hexec (own := own) (C := cls) (index := ik) (n := 6) hown' hk' hins hini'
    (g := F0 m pc ls rest) rfl (by rw [hb]; exact d0) (Nat.le_refl _) (Nat.le_refl _)
  generalize hT1 : (T.setVm vm₁).pushCell { cls := cX, slots := kX.instanceTypes.map defaultValue, vm := .none } = T1 at X₁ st1
  have hcat : (Value.ref T.heap.size).category = 1 := rfl
  have hcellA : T1.heap[T.heap.size]? = some (freshCell cX kX) := by rw [← hT1]; exact State.heap_pushCell_size _ _
  have d3' : decode c.code (pc + 3) = .ok (.dup, 1) := by rw [hb]; exact d3
  obtain ⟨U, hsteps, hrun, hend, hW, hsame, ce, hce, hO⟩ := X₁.ctorThrow0 hexec htr (own := own) (cls := cls) (names := names) (ic := ic) hown' hcls hnames h (fun x hx => nomatch hx) hfX hkX hcellA (by rw [hhp, hT]; exact Nat.le_refl _)
    (g := { method := m, pc := pc + 4, locals := ls, stack := .ref T.heap.size :: .ref T.heap.size :: rest, locked := none }) rfl hsize rfl rfl (rest := rest) rfl
    (by rw [hb]; exact d4) (by rw [hb]; exact d7) hout hRframes (by simp only [List.map_cons, List.sum_cons, hcat]; omega) hlocks
  obtain ⟨f1, f2⟩ := vx_frame hsame
  rw [hhp] at f1 f2
  have hWs : s.WarmedH U.vm := State.WarmedH.trans hW0 hW
  have hcl : s.vm.findClass cls = some ce.cls := by
    have h9 := hO.cls
    rw [hvm] at h9
    exact h9
  have hall : s.sameButNew ({ U with vm := s.vm } : State) locs mc ms := by
    subst hA
    obtain ⟨e1, e2⟩ := hsame
    rw [State.setFrames_setFrames] at e1
    have h2 : (T.setVm s.vm).sameButNew ({ U with vm := s.vm } : State) [] (0 + 1) (0 + 6) := ⟨e1, e2⟩
    have h3 := X.same.trans h2
    rw [List.append_nil] at h3
    exact h3.mono hc hs
  refine ⟨U, ?_, .threw T.heap.size, hrun, hend, Or.inr ⟨T.heap.size, rfl, cls, ce, locs, hx U hWs.alike f1 (fun q hq => f2 q hq (fun z hz => nomatch hz)), hce, hO.vm, hcl, hWs, hall, hf⟩⟩
  refine st1 _ ?_
  show Steps p.tables e below (T1.setTop { method := m, pc := pc + 3, locals := ls, stack := .ref T.heap.size :: rest, locked := none }) _
  jvm_step X₁.here [X₁.here.top, hexec, d3', Value.category]
  exact hsteps
/-- 'throw new E("text")': new; dup; ldc; invokespecial; athrow -/
theorem vx_throwS {cc : ByteArray} {pc : Nat} (hexec : p.tables.exec = Jvm.exec) (hb : c.code = cc) (hl : l.stackTraces = false) {own cls text : String} {names : List String} {ik is ic mc ms sa : Nat} {A : Nat → Prop}
    (hown : s.vm.findClass own = some m.cls) (hcls : Bundle.fit cls = true) (hnames : ∀ n ∈ names, Bundle.fit n = true)
    (hk : (Cond.classLink own ik cls).before args s = true) (hini : (Cond.initialized cls).before args s = true) (hstr : vk_R own is text sa s) (hat : ∀ w ∈ vx_atS own ic cls names, w.before args s = true)
    (hgood : ∀ w ∈ Cond.classLink own ik cls :: Cond.initialized cls :: vx_atS own ic cls names, vx_ot w = true)
    (hU : vx_Zq Bundle.tN "UNASSIGNED_STACK" Bundle.steD A s s.heap) (hN : vx_Zq Bundle.tN "SUPPRESSED_SENTINEL" Bundle.listD A s s.heap) (hS : va_S A s.heap H locs) (hsize : ls.size = c.maxLocals)
    (d0 : decode cc pc = .ok (.new ik, 3)) (d3 : decode cc (pc + 3) = .ok (.dup, 1)) (d4 : decode cc (pc + 4) = .ok (.ldc is, 2)) (d6 : decode cc (pc + 6) = .ok (.invokespecial ic, 3)) (d9 : decode cc (pc + 9) = .ok (.athrow, 1))
    (hout : ∀ x ∈ c.exceptionTable.toList, covers x (pc + 9) = false)
    (hRframes : names.length + 3 < R.frames) (hRlocals : (rest.map fun v => v.category).sum + (13 * (names.length + 1) + 43) ≤ R.locals) (hRcells : cells + 1 ≤ R.cells) (hRslots : slots + 6 ≤ R.slots) (hlocks : meth.locks = false)
    (hx : ∀ t : State, s.vm.Alike t.vm → H.size ≤ t.heap.size → (∀ q : Nat, q < H.size → t.heap[q]? = H[q]?) → XC cls s t)
    (hf : ∀ z ∈ locs, free z.base) (hc : cells + 1 ≤ mc) (hs : slots + 6 ≤ ms) :
    W p l e R s m args below meth c H locs cells slots (vx_MQ below Qc XC args s mc ms free) (F0 m pc ls rest) := by
  intro T hT X
  have htr : e.platform.stackTraces = false := (show e.platform.stackTraces = l.stackTraces by rw [X.admits.platform]).trans hl
  have Y := vx_rebase X (R' := { frames := R.frames, locals := R.locals, cells := 1, slots := 6 }) (Nat.le_refl _) (Nat.le_refl _) hRcells hRslots
  obtain ⟨s', hA⟩ : ∃ z, z = (T.setVm s.vm).setFrames (.invoking m args :: below) := ⟨_, rfl⟩
  rw [← hA] at Y
  have hvm : s'.vm = s.vm := by rw [hA]; rfl
  have hhp : s'.heap = H := by rw [hA]; exact hT
  have hW0 : s.WarmedH s'.vm := by rw [hvm]; exact State.WarmedH.refl s
  have hat' : ∀ w ∈ vx_atS own ic cls names, w.before args s' = true := fun w hw => vx_ot_at hW0 hvm.symm (hgood w (List.mem_cons_of_mem _ (List.mem_cons_of_mem _ hw))) (hat w hw)
  have hk' : (Cond.classLink own ik cls).before args s' = true := vx_ot_at hW0 hvm.symm (hgood _ List.mem_cons_self) hk
  have hini' : (Cond.initialized cls).before args s' = true := vx_ot_at hW0 hvm.symm (hgood _ (List.mem_cons_of_mem _ List.mem_cons_self)) hini
  have hU' : vx_Zq Bundle.tN "UNASSIGNED_STACK" Bundle.steD A s' s'.heap := by rw [hhp]; exact vx_Zq.moved hW0.alike (hU.kept hS.2.1)
  have hN' : vx_Zq Bundle.tN "SUPPRESSED_SENTINEL" Bundle.listD A s' s'.heap := by rw [hhp]; exact vx_Zq.moved hW0.alike (hN.kept hS.2.1)
  have h : ∀ w ∈ Bundle.ownAtoms own ic cls names, w.before args s' = true := vx_own hat' (vx_isRefq hU'.1) (vx_isRefq hN'.1) hU'.2.word hN'.2.word
  have hown' : s'.vm.findClass own = some m.cls := by rw [hvm]; exact hown
  have hins : (Cond.instantiable cls 6).before args s' = true := h _ (by simp [Bundle.ownAtoms])
  obtain ⟨vm₁, cX, kX, hfX, hkX, -, -, X₁, st1⟩ := Y.newCold hexec (own := own) (C := cls) (index := ik) (n := 6) hown' hk' hins hini'
    (g := F0 m pc ls rest) rfl (by rw [hb]; exact d0) (Nat.le_refl _) (Nat.le_refl _)
  generalize hT1 : (T.setVm vm₁).pushCell { cls := cX, slots := kX.instanceTypes.map defaultValue, vm := .none } = T1 at X₁ st1
  have hcat : (Value.ref T.heap.size).category = 1 := rfl
  have hcellA : T1.heap[T.heap.size]? = some (freshCell cX kX) := by rw [← hT1]; exact State.heap_pushCell_size _ _
  have d3' : decode c.code (pc + 3) = .ok (.dup, 1) := by rw [hb]; exact d3
  have d4' : decode c.code (pc + 4) = .ok (.ldc is, 2) := by rw [hb]; exact d4
  have hstr' : vk_R own is text sa s' := vk_R.warm hW0 hstr
  obtain ⟨U, hsteps, hrun, hend, hW, hsame, ce, hce, hO⟩ := X₁.ctorThrowS hexec htr (own := own) (cls := cls) (names := names) (ic := ic) hown' hcls hnames h (fun x hx => nomatch hx) hfX hkX hcellA (by rw [hhp, hT]; exact Nat.le_refl _) (msg := .ref sa) rfl
    (g := { method := m, pc := pc + 6, locals := ls, stack := .ref sa :: .ref T.heap.size :: .ref T.heap.size :: rest, locked := none }) rfl hsize rfl rfl (rest := rest) rfl
    (by rw [hb]; exact d6) (by rw [hb]; exact d9) hout hRframes (by simp only [List.map_cons, List.sum_cons, hcat]; omega) hlocks
  obtain ⟨f1, f2⟩ := vx_frame hsame
  rw [hhp] at f1 f2
  have hWs : s.WarmedH U.vm := State.WarmedH.trans hW0 hW
  have hcl : s.vm.findClass cls = some ce.cls := by
    have h9 := hO.cls
    rw [hvm] at h9
    exact h9
  have hall : s.sameButNew ({ U with vm := s.vm } : State) locs mc ms := by
    subst hA
    obtain ⟨e1, e2⟩ := hsame
    rw [State.setFrames_setFrames] at e1
    have h2 : (T.setVm s.vm).sameButNew ({ U with vm := s.vm } : State) [] (0 + 1) (0 + 6) := ⟨e1, e2⟩
    have h3 := X.same.trans h2
    rw [List.append_nil] at h3
    exact h3.mono hc hs
  refine ⟨U, ?_, .threw T.heap.size, hrun, hend, Or.inr ⟨T.heap.size, rfl, cls, ce, locs, hx U hWs.alike f1 (fun q hq => f2 q hq (fun z hz => nomatch hz)), hce, hO.vm, hcl, hWs, hall, hf⟩⟩
  refine st1 _ ?_
  show Steps p.tables e below (T1.setTop { method := m, pc := pc + 3, locals := ls, stack := .ref T.heap.size :: rest, locked := none }) _
  jvm_step X₁.here [X₁.here.top, hexec, d3', Value.category]
  exact X₁.ldcString hexec (own := own) (text := text) (index := is) (a := sa) hown' hstr'.1 hstr'.2
    (g := { method := m, pc := pc + 4, locals := ls, stack := .ref T.heap.size :: .ref T.heap.size :: rest, locked := none }) rfl d4' _ hsteps
/-- 'throw new E("text")', the text by a wide index -/
theorem vx_throwSW {cc : ByteArray} {pc : Nat} (hexec : p.tables.exec = Jvm.exec) (hb : c.code = cc) (hl : l.stackTraces = false) {own cls text : String} {names : List String} {ik is ic mc ms sa : Nat} {A : Nat → Prop}
    (hown : s.vm.findClass own = some m.cls) (hcls : Bundle.fit cls = true) (hnames : ∀ n ∈ names, Bundle.fit n = true)
    (hk : (Cond.classLink own ik cls).before args s = true) (hini : (Cond.initialized cls).before args s = true) (hstr : vk_R own is text sa s) (hat : ∀ w ∈ vx_atS own ic cls names, w.before args s = true)
    (hgood : ∀ w ∈ Cond.classLink own ik cls :: Cond.initialized cls :: vx_atS own ic cls names, vx_ot w = true)
    (hU : vx_Zq Bundle.tN "UNASSIGNED_STACK" Bundle.steD A s s.heap) (hN : vx_Zq Bundle.tN "SUPPRESSED_SENTINEL" Bundle.listD A s s.heap) (hS : va_S A s.heap H locs) (hsize : ls.size = c.maxLocals)
    (d0 : decode cc pc = .ok (.new ik, 3)) (d3 : decode cc (pc + 3) = .ok (.dup, 1)) (d4 : decode cc (pc + 4) = .ok (.ldc_w is, 3)) (d7 : decode cc (pc + 7) = .ok (.invokespecial ic, 3)) (d10 : decode cc (pc + 10) = .ok (.athrow, 1))
    (hout : ∀ x ∈ c.exceptionTable.toList, covers x (pc + 10) = false)
    (hRframes : names.length + 3 < R.frames) (hRlocals : (rest.map fun v => v.category).sum + (13 * (names.length + 1) + 43) ≤ R.locals) (hRcells : cells + 1 ≤ R.cells) (hRslots : slots + 6 ≤ R.slots) (hlocks : meth.locks = false)
    (hx : ∀ t : State, s.vm.Alike t.vm → H.size ≤ t.heap.size → (∀ q : Nat, q < H.size → t.heap[q]? = H[q]?) → XC cls s t)
    (hf : ∀ z ∈ locs, free z.base) (hc : cells + 1 ≤ mc) (hs : slots + 6 ≤ ms) :
    W p l e R s m args below meth c H locs cells slots (vx_MQ below Qc XC args s mc ms free) (F0 m pc ls rest) := by
  intro T hT X
  have htr : e.platform.stackTraces = false := (show e.platform.stackTraces = l.stackTraces by rw [X.admits.platform]).trans hl
  have Y := vx_rebase X (R' := { frames := R.frames, locals := R.locals, cells := 1, slots := 6 }) (Nat.le_refl _) (Nat.le_refl _) hRcells hRslots
  obtain ⟨s', hA⟩ : ∃ z, z = (T.setVm s.vm).setFrames (.invoking m args :: below) := ⟨_, rfl⟩
  rw [← hA] at Y
  have hvm : s'.vm = s.vm := by rw [hA]; rfl
  have hhp : s'.heap = H := by rw [hA]; exact hT
  have hW0 : s.WarmedH s'.vm := by rw [hvm]; exact State.WarmedH.refl s
  have hat' : ∀ w ∈ vx_atS own ic cls names, w.before args s' = true := fun w hw => vx_ot_at hW0 hvm.symm (hgood w (List.mem_cons_of_mem _ (List.mem_cons_of_mem _ hw))) (hat w hw)
  have hk' : (Cond.classLink own ik cls).before args s' = true := vx_ot_at hW0 hvm.symm (hgood _ List.mem_cons_self) hk
  have hini' : (Cond.initialized cls).before args s' = true := vx_ot_at hW0 hvm.symm (hgood _ (List.mem_cons_of_mem _ List.mem_cons_self)) hini
  have hU' : vx_Zq Bundle.tN "UNASSIGNED_STACK" Bundle.steD A s' s'.heap := by rw [hhp]; exact vx_Zq.moved hW0.alike (hU.kept hS.2.1)
  have hN' : vx_Zq Bundle.tN "SUPPRESSED_SENTINEL" Bundle.listD A s' s'.heap := by rw [hhp]; exact vx_Zq.moved hW0.alike (hN.kept hS.2.1)
  have h : ∀ w ∈ Bundle.ownAtoms own ic cls names, w.before args s' = true := vx_own hat' (vx_isRefq hU'.1) (vx_isRefq hN'.1) hU'.2.word hN'.2.word
  have hown' : s'.vm.findClass own = some m.cls := by rw [hvm]; exact hown
  have hins : (Cond.instantiable cls 6).before args s' = true := h _ (by simp [Bundle.ownAtoms])
  obtain ⟨vm₁, cX, kX, hfX, hkX, -, -, X₁, st1⟩ := Y.newCold hexec (own := own) (C := cls) (index := ik) (n := 6) hown' hk' hins hini'
    (g := F0 m pc ls rest) rfl (by rw [hb]; exact d0) (Nat.le_refl _) (Nat.le_refl _)
  generalize hT1 : (T.setVm vm₁).pushCell { cls := cX, slots := kX.instanceTypes.map defaultValue, vm := .none } = T1 at X₁ st1
  have hcat : (Value.ref T.heap.size).category = 1 := rfl
  have hcellA : T1.heap[T.heap.size]? = some (freshCell cX kX) := by rw [← hT1]; exact State.heap_pushCell_size _ _
  have d3' : decode c.code (pc + 3) = .ok (.dup, 1) := by rw [hb]; exact d3
  have d4' : decode c.code (pc + 4) = .ok (.ldc_w is, 3) := by rw [hb]; exact d4
  have hstr' : vk_R own is text sa s' := vk_R.warm hW0 hstr
  obtain ⟨U, hsteps, hrun, hend, hW, hsame, ce, hce, hO⟩ := X₁.ctorThrowS hexec htr (own := own) (cls := cls) (names := names) (ic := ic) hown' hcls hnames h (fun x hx => nomatch hx) hfX hkX hcellA (by rw [hhp, hT]; exact Nat.le_refl _) (msg := .ref sa) rfl
    (g := { method := m, pc := pc + 7, locals := ls, stack := .ref sa :: .ref T.heap.size :: .ref T.heap.size :: rest, locked := none }) rfl hsize rfl rfl (rest := rest) rfl
    (by rw [hb]; exact d7) (by rw [hb]; exact d10) hout hRframes (by simp only [List.map_cons, List.sum_cons, hcat]; omega) hlocks
  obtain ⟨f1, f2⟩ := vx_frame hsame
  rw [hhp] at f1 f2
  have hWs : s.WarmedH U.vm := State.WarmedH.trans hW0 hW
  have hcl : s.vm.findClass cls = some ce.cls := by
    have h9 := hO.cls
    rw [hvm] at h9
    exact h9
  have hall : s.sameButNew ({ U with vm := s.vm } : State) locs mc ms := by
    subst hA
    obtain ⟨e1, e2⟩ := hsame
    rw [State.setFrames_setFrames] at e1
    have h2 : (T.setVm s.vm).sameButNew ({ U with vm := s.vm } : State) [] (0 + 1) (0 + 6) := ⟨e1, e2⟩
    have h3 := X.same.trans h2
    rw [List.append_nil] at h3
    exact h3.mono hc hs
  refine ⟨U, ?_, .threw T.heap.size, hrun, hend, Or.inr ⟨T.heap.size, rfl, cls, ce, locs, hx U hWs.alike f1 (fun q hq => f2 q hq (fun z hz => nomatch hz)), hce, hO.vm, hcl, hWs, hall, hf⟩⟩
  refine st1 _ ?_
  show Steps p.tables e below (T1.setTop { method := m, pc := pc + 3, locals := ls, stack := .ref T.heap.size :: rest, locked := none }) _
  jvm_step X₁.here [X₁.here.top, hexec, d3', Value.category]
  exact X₁.ldcStringW hexec (own := own) (text := text) (index := is) (a := sa) hown' hstr'.1 hstr'.2
    (g := { method := m, pc := pc + 4, locals := ls, stack := .ref T.heap.size :: .ref T.heap.size :: rest, locked := none }) rfl d4' _ hsteps
end Ends
section Bodies
variable {l : Launch}
theorem vx_ofW {y : MethodName} {ws ws' : List Cond} {rm : Room} {Pc : Array Value → State → Prop} {Qc : Array Value → State → Outcome → State → Prop} {XC : String → State → State → Prop} {mc ms : Nat} {free : Addr → Prop} {cc : ByteArray} {maxL : Nat} {ret : Option FieldType}
    (hy : plainName y.cls = true) (hw : ws = Cond.code y cc maxL ret :: ws')
    (body : ∀ p e s m args below meth c s₁, BodyLoose p l y (headSpec ws rm) cc maxL ret e s m args below meth c s₁ → c.maxLocals = maxL → (∀ x ∈ c.exceptionTable.toList, False) → Pc args s →
      W p l e (headSpec ws rm).room s m args below meth c s.heap [] 0 0 (vx_MQ below Qc XC args s mc ms free) (entryFrame m args maxL)) : vx_Met l y ws rm Pc Qc XC mc ms free := by
  refine MetFree.of_bodyS (code := cc) (maxLocals := maxL) (ret := ret) hy ?_ ?_
  · intro args s m h hn
    obtain ⟨meth, c, h1, h2, h3, h4, h5, h6, -, -⟩ := Cond.code_spec hn (atoms_spec (ws := ws) h _ (by rw [hw]; exact List.mem_cons_self))
    exact ⟨meth, c, h1, h2, h3, h4, h5, h6⟩
  · intro p e s m args below meth c s₁ B hml hP _
    have hh0 : s₁.heap = s.heap := by rw [B.state]; rfl
    have ht : ∀ x ∈ c.exceptionTable.toList, False := by
      obtain ⟨meth9, c9, h1, h2, -, -, -, -, h7, -⟩ := Cond.code_spec B.named (atoms_spec (ws := ws) B.pre _ (by rw [hw]; exact List.mem_cons_self))
      cases Option.some.inj (h1.symm.trans B.method)
      cases Option.some.inj (h2.symm.trans (Stand.of_body B).code)
      intro x hx
      rw [Array.isEmpty_iff.mp h7] at hx
      cases hx
    obtain ⟨t, a1, o, b1, b2, b3⟩ := body p e s m args below meth c s₁ B hml ht hP s₁ hh0 (Stand.of_body B)
    exact ⟨t, o, a1, b1, b2, b3⟩
/-- the table of a body with handlers -/
theorem vx_table {p : Program} {x y : MethodName} {S : Spec} {cc bytes : ByteArray} {maxL maxL' : Nat} {ret ret' : Option FieldType} {e : Env} {s s₁ : State} {m : MethodId} {args : Array Value} {below : List Frame} {meth : Method} {c : Code} {hh : List (Nat × Nat × Nat × Nat)}
    (B : BodyLoose p l y S cc maxL ret e s m args below meth c s₁) (h : (Cond.codeWith y bytes maxL' ret' hh).before args s = true) : c.exceptionTable.toList = tableOf hh := by
  obtain ⟨m9, meth9, c9, hn9, h1, h2, -, -, h6, -⟩ := Cond.codeWith_spec h
  cases Option.some.inj (hn9.symm.trans B.named)
  cases Option.some.inj (h1.symm.trans B.method)
  cases Option.some.inj (h2.symm.trans (Stand.of_body B).code)
  rw [← h6, table_eq]
end Bodies
end VXA
/-! ===== END ===== -/
/-! ===== BEGIN a static call of a method with an exception table ===== -/
section VXS
variable {p : Program} {l : Launch} {e : Env} {R : Room} {s : State} {m : MethodId} {args : Array Value} {below : List Frame} {meth : Method} {c : Code} {T : State} {H : Heap} {locs : List Loc} {cells slots : Nat}
abbrev vx_CSW (R : Room) (s : State) (args : Array Value) (own : String) (index : Nat) (y : MethodName) (bytes : ByteArray) (maxL : Nat) (ret : Option FieldType) (hh : List (Nat × Nat × Nat × Nat)) (ws : List Cond) (rm : Room) (mc ms n : Nat) : Prop :=
  (rm.cells = mc ∧ rm.slots = ms ∧ rm.frames + 1 ≤ R.frames ∧ 8 + (maxL + 11) + rm.locals ≤ R.locals ∧ (∀ w ∈ ws, ∀ (a' : Array Value) (U : State), s.WarmedH U.vm → w.before a' U = true) ∧ Cond.codeWith y bytes maxL ret hh ∈ ws) ∧
  (Cond.codeWith y bytes maxL ret hh).before args s = true ∧ (Cond.initialized y.cls).before args s = true ∧ (y.cls ≠ "java/lang/invoke/MethodHandle" ∧ y.cls ≠ "java/lang/invoke/VarHandle") ∧
  (∀ sig, parseMethodDescriptor y.desc = some sig → n = sig.parameters.length) ∧ (Cond.methodLink own index y).before args s = true ∧ (Cond.static y).before args s = true
theorem vx_cwSW {own : String} {index maxL mc ms : Nat} {y : MethodName} {bytes : ByteArray} {ret : Option FieldType} {hh : List (Nat × Nat × Nat × Nat)} {Ts ws ws' : List Cond} {rm : Room} (n : Nat) (ht : ∀ w ∈ Ts, w.before args s = true) (hT : GoodIn Ts (va_wsS own index y ws)) (hw : ws = Cond.codeWith y bytes maxL ret hh :: ws') (hrc : rm.cells = mc) (hrs : rm.slots = ms)
    (hd : y.cls ≠ "java/lang/invoke/MethodHandle" ∧ y.cls ≠ "java/lang/invoke/VarHandle" ∧ (parseMethodDescriptor y.desc).map (fun d => d.parameters.length) = some n) (hR : rm.frames + 1 ≤ R.frames ∧ 8 + (maxL + 11) + rm.locals ≤ R.locals) :
    vx_CSW R s args own index y bytes maxL ret hh ws rm mc ms n := by
  have ok : ∀ w ∈ va_wsS own index y ws, w.before args s = true := fun w h => ht w (hT w h).1
  have hG : GoodIn Ts ws := fun w h => hT w (by unfold va_wsS; exact List.mem_append_right _ h)
  have hc : Cond.codeWith y bytes maxL ret hh ∈ ws := by rw [hw]; exact List.mem_cons_self
  refine ⟨⟨hrc, hrs, hR.1, hR.2, pay_in ht hG, hc⟩, ht _ (hG _ hc).1, ok _ (by simp [va_wsS]), ⟨hd.1, hd.2.1⟩, fun sig h => ?_, ok _ (by simp [va_wsS]), ok _ (by simp [va_wsS])⟩
  have h2 := hd.2.2
  rw [h] at h2
  exact (Option.some.inj h2).symm
theorem vx_callSW (X : Stand p l e R s m args below meth c T locs cells slots) (hexec : p.tables.exec = Jvm.exec) {own : String} {index : Nat} {y : MethodName} {bytes : ByteArray} {maxL : Nat} {ret : Option FieldType} {hh : List (Nat × Nat × Nat × Nat)}
    (hown : s.vm.findClass own = some m.cls) (hlink : (Cond.methodLink own index y).before args s = true) (hstat : (Cond.static y).before args s = true) (hinit : (Cond.initialized y.cls).before args s = true)
    (hcode : (Cond.codeWith y bytes maxL ret hh).before args s = true) (hy : y.cls ≠ "java/lang/invoke/MethodHandle" ∧ y.cls ≠ "java/lang/invoke/VarHandle")
    {W9 : Nat} {Pre : Pt → Array Value → Prop} {Post : Pt → Array Value → Option Value → Pt → Prop} (hK : Back l R p e below s args y 3 W9 Pre Post)
    {g : JFrame} (hg : g.method = m) (hsize : g.locals.size = c.maxLocals) {argsL rest : List Value} (hlen : ∀ sig, parseMethodDescriptor y.desc = some sig → argsL.length = sig.parameters.length)
    (hstack : g.stack = argsL.reverse ++ rest) (hW : 2 * g.monitorRoom + (rest.map fun v => v.category).sum ≤ W9) (hdg : decode c.code g.pc = .ok (.invokestatic index, 3))
    (hpre : ∀ vm₁, s.WarmedH vm₁ → Pre ⟨T.setVm vm₁, locs, cells, slots⟩ argsL.toArray) :
    ∃ (v : Option Value) (vm₁ : Vm) (B : Pt), s.WarmedH vm₁ ∧ Stand p l e R s m args below meth c B.U B.locs B.cells B.slots ∧ Post ⟨T.setVm vm₁, locs, cells, slots⟩ argsL.toArray v B ∧
      ∀ target, Steps p.tables e below (B.U.setTop { g with pc := g.pc + 3, stack := v.toList ++ rest }) target → Steps p.tables e below (T.setTop g) target := by
  obtain ⟨mk, methM, cM, hnamed, hmethM, -, -, -, -, -, -, hsigM⟩ := Cond.codeWith_spec hcode
  have hstatic : methM.isStatic = true := Cond.static_spec hnamed hmethM hstat
  obtain ⟨kP, hkP, -⟩ := className_of_methodNamed hnamed
  have hinitP : kP.init = .initialized := Cond.initialized_spec (findClass_of_methodNamed hnamed) hkP hinit
  obtain ⟨vm₁, X₁, hstep₁⟩ := X.invokestatic hexec hown hlink hnamed hmethM hstatic hkP hinitP hy (g := g) hg (argsL := argsL) (rest := rest) (hlen _ hsigM) hstack hdg
  obtain ⟨v, B, X', hpost, hsteps⟩ := hK m meth c ⟨T.setVm vm₁, locs, cells, slots⟩ { g with stack := rest } (.invokestatic index) mk argsL.toArray X₁ hg hsize hdg hW (X₁.named hnamed) (hpre vm₁ X₁.warmed)
  exact ⟨v, vm₁, B, X₁.warmed, X', hpost, fun target h => hstep₁ _ fun acts => by rw [doInvoke_state]; exact hsteps.trans h⟩
theorem vx_runSW {y : MethodName} {bytes cc : ByteArray} {maxL nL mc ms n index : Nat} {ret : Option FieldType} {hh : List (Nat × Nat × Nat × Nat)} {ws : List Cond} {rm : Room} {Pc : Array Value → State → Prop} {Qc : Array Value → State → Outcome → State → Prop} {free : Addr → Prop} {Ts : List Cond} {own : String} {As rest : List Value} {g : JFrame}
    (S : CallFix p m c cc nL s args Ts own) (hM : Met l y ws rm Pc Qc mc ms free) (cw : vx_CSW R s args own index y bytes maxL ret hh ws rm mc ms n) (hp : PreS s H Pc As)
    (hg : g.method = m) (hn : As.length = n) (hsize : g.locals.size = nL) (hstack : g.stack = As.reverse ++ rest) (hW : 2 * g.monitorRoom + (rest.map fun v => v.category).sum ≤ 8) (hdg : decode cc g.pc = .ok (.invokestatic index, 3)) (hf : cells + mc ≤ R.cells ∧ slots + ms ≤ R.slots) :
    va_Run p l e R s m args below meth c H locs cells slots mc ms g rest (Qc As.toArray) (free) := by
  obtain ⟨⟨hrc, hrs, hfr, hlo, hws, hcw⟩, hcode, hini, hy, hlen, hl, hstt⟩ := cw
  have hK : Back l R p e below s args y 3 8 (PreOf R mc ms Pc) (PostOf Qc mc ms free) := va_backW (hh := hh) (bytes := bytes) (maxL := maxL) (ret := ret) hM hp.1 hrc hrs hfr hlo hws hcw (fun a' U hW => word_at hW (Or.inl (by first | rfl | simp [Cond.onTables, Cond.keeps, Cond.steady])) hini)
  obtain ⟨hx, hb, hml, ho, -⟩ := S
  intro T hT X
  obtain ⟨v, vm₁, ⟨U', l2, c2, s2⟩, hW₁, X', ⟨g', mk, t, L, e1, e2, hq, h1, hL, h2, h3⟩, st⟩ := vx_callSW X hx (hh := hh) (bytes := bytes) (maxL := maxL) (ret := ret) ho hl hstt hini hcode hy hK hg (hsize.trans hml.symm) (argsL := As) (rest := rest) (fun sig h => hn.trans (hlen sig h)) hstack hW (by rw [hb]; exact hdg)
    (fun vm₁ hW₁ => ⟨hf.1, hf.2, hp.2 (T.setVm vm₁) hT hW₁⟩)
  dsimp only [Pt.U, Pt.locs, Pt.cells, Pt.slots] at X' e1 e2 h1 h2 h3 st
  subst h1; subst h2; subst h3
  exact ⟨v, (T.setVm vm₁).calling g' mk As.toArray, t, U', L, hT, X', hL, e1, e2, hq, st⟩
/-- not caught here, past rows that name other classes: it goes on to the caller -/
theorem vx_outP {p : Program} {l : Launch} {e : Env} {R : Room} {s : State} {m : MethodId} {args : Array Value} {below : List Frame} {meth : Method} {c : Code} {H : Heap} {locs : List Loc} {cells slots : Nat} {free : Addr → Prop} {ls : Array Slot} {rest : List Value} {Qc : Array Value → State → Outcome → State → Prop} {XC : String → State → State → Prop}
    {pc : Nat} {own E : String} {ce : Cell} {q : Addr} {mc ms : Nat} (hown : s.vm.findClass own = some m.cls) (hlocks : meth.locks = false)
    (hpass : ∀ z ∈ c.exceptionTable.toList, covers z pc = false ∨ (z.catchType ≠ 0 ∧ ∃ nm : String, (Cond.classLink own z.catchType nm).before args s = true ∧ va_Nc E nm s)) (hcell : H[q]? = some ce) (hv : ce.vm = .none) (hcl : s.vm.findClass E = some ce.cls)
    (hx : ∀ t : State, t.heap = H → s.vm.Alike t.vm → XC E s t) (hf : ∀ z ∈ locs, free z.base) (hc : cells ≤ mc) (hs : slots ≤ ms) :
    vx_W p l e R s m args below meth c H locs cells slots (vx_MQ below Qc XC args s mc ms free) (F0 m pc ls rest) q := by
  intro T hT X
  have hpl : e.platform.magicAccessors = ({} : Platform).magicAccessors := by rw [X.admits.platform]
  obtain ⟨vm', hW', X', st⟩ := X.outThrough hlocks q (g := F0 m pc ls rest) rfl rfl rfl (cell := ce) (by rw [hT]; exact hcell) (by rw [hv]; rfl)
    (by obtain ⟨k9, h9, -⟩ := Vm.findClass_spec hcl; exact ⟨k9, h9⟩) (fun z hz => by
      rcases hpass z hz with h | ⟨hz0, nm, hl1, hn1⟩
      · exact Or.inl h
      · obtain ⟨c6, hc6, hcl6⟩ := Cond.classLink_spec hown hl1 e.platform hpl
        obtain ⟨a8, b8, h1, h2, h3⟩ := hn1
        cases Option.some.inj (h1.symm.trans hcl)
        cases Option.some.inj (h2.symm.trans hc6)
        exact Or.inr ⟨hz0, _, hcl6, h3⟩)
  obtain ⟨g₀, hfr⟩ := X'.frames_eq
  have hcell9 : ((T.setVm vm').setFrames (.throwing q :: below)).heap[q]? = some ce := by
    show T.heap[q]? = some ce
    rw [hT]; exact hcell
  have hend : Ended ((T.setVm vm').setFrames (.throwing q :: below)) below (.threw q) := State.frames_setFrames _ (State.cur_lt_of_frames hfr)
  refine ⟨(T.setVm vm').setFrames (.throwing q :: below), ?_, .threw q, X'.here.running, hend, Or.inr ⟨q, rfl, E, ce, locs, hx _ hT (X'.ends _).1.alike, hcell9, hv, hcl, (X'.ends _).1, (X'.ends _).2.mono hc hs, hf⟩⟩
  rw [X.pushThrowing_eq]
  exact st
/-- a thing of a world lies in the heap -/
theorem vx_lt {D : va_G} {cl : List vw_C} {ws : va_W} {H1 : Heap} (h : va_P D cl ws H1) {k : Nat} {q : Nat × va_E} (hk : ws[k]? = some q) : q.1 < H1.size := (h k q hk).lt
end VXS
/-! ===== END ===== -/
/-! ===== BEGIN methods with a table of their own: called by a name, returning or throwing ===== -/
section VXH
/-! vx_backW, vx_callVX, vx_callSX, vx_callVW, vx_runVW, vx_runVX, vx_runSX, vx_ofWH follow the same proofs as their sisters above (Free/Laws.lean, Shelf42/LK1.lean); vx_outP calls Shelf42/NT130.lean (outThrough). -/
section
variable {l : Launch} {R : Room} {p : Program} {e : Env} {below : List Frame} {s : State} {sargs : Array Value} {y : MethodName} {len W9 : Nat}
theorem vx_backW {ws : List Cond} {rm : Room} {Pc : Array Value → State → Prop} {Qc : Array Value → State → Outcome → State → Prop} {XC : String → State → State → Prop} {mc ms : Nat} {free : Addr → Prop} {bytes : ByteArray} {maxL : Nat} {ret : Option FieldType} {hh : List (Nat × Nat × Nat × Nat)}
    (hM : vx_Met l y ws rm Pc Qc XC mc ms free) (hblind : FrameBlind Pc) (hrc : rm.cells = mc) (hrs : rm.slots = ms)
    (hframes : rm.frames + 1 ≤ R.frames) (hlocals : W9 + (maxL + 11) + rm.locals ≤ R.locals)
    (hws : ∀ w ∈ ws, ∀ a' U, s.WarmedH U.vm → w.before a' U = true) (hcode : Cond.codeWith y bytes maxL ret hh ∈ ws) (hinit : ∀ a' U, s.WarmedH U.vm → (Cond.initialized y.cls).before a' U = true) :
    vx_Back l R p e below s sargs y len W9 (PreOf R mc ms Pc) (PostOf Qc mc ms free) (vx_Post XC mc ms free) := by
  intro m meth c A g ig mk a X hg hsize hdg hW hn hp
  have h1 : (headSpec ws rm).pre.before a A.U = true := atoms_intro fun w hw => hws w hw _ _ X.warmed
  have h2 : (Cond.codeWith y bytes maxL ret hh).before a A.U = true := hws _ hcode _ _ X.warmed
  have h3 : (Cond.initialized y.cls).before a A.U = true := hinit _ _ X.warmed
  have h4 : A.cells + (headSpec ws rm).room.cells ≤ R.cells := by rw [show (headSpec ws rm).room.cells = mc from hrc]; exact hp.1
  have h5 : A.slots + (headSpec ws rm).room.slots ≤ R.slots := by rw [show (headSpec ws rm).room.slots = ms from hrs]; exact hp.2.1
  have hPc : Pc a (A.U.calling g mk a) := hblind _ _ _ _ hp.2.2
  obtain ⟨U, Ls, c0, s0⟩ := A
  dsimp only [Pt.U, Pt.locs, Pt.cells, Pt.slots] at h1 h2 h3 h4 h5 X hn hPc ⊢
  obtain ⟨m9, methY, cY, hn9, hmY, hcY, -, hlY, -⟩ := Cond.codeWith_spec h2
  cases Option.some.inj (hn9.symm.trans hn)
  obtain ⟨kY, hkY, -⟩ := className_of_methodNamed hn
  have hinitY : kY.init = .initialized := Cond.initialized_spec (findClass_of_methodNamed hn) hkY h3
  have h : At U g.method c below := by rw [hg]; exact X.here
  have hlocals9 : W9 + (maxL + 11) + (headSpec ws rm).room.locals ≤ R.locals := hlocals
  have happ : (headSpec ws rm).appliesLoose y e.platform (U.calling g mk a) = true :=
    Spec.appliesLoose_calling (g := g) h hdg hn hkY hinitY
      (X.room_calling (g := g) (R' := (headSpec ws rm).room) hsize hmY hcY hframes (by rw [hlY]; omega) h4 h5) h1
  obtain ⟨mid, hmid⟩ := h.above
  have hfr : (U.setTop g).frames = (.java g :: mid) ++ below := by rw [State.frames_setTop' g h.top, hmid]; rfl
  obtain ⟨o, s₂, hsteps, -, hend, hq⟩ := Steps.callFree hM p X.admits X.cas X.clock (acts := []) hfr happ hPc trivial
  have hq' : vx_Q Qc XC mc ms free a (U.calling g mk a) o s₂ := hq
  rw [State.frames_setTop' g h.top] at hend
  obtain ⟨g₀, hg0⟩ := Option.isSome_iff_exists.mp h.top
  obtain ⟨r, hr⟩ := State.topJava?_eq_some.mp hg0
  have hr' : (({ U with heap := s₂.heap, slotsUsed := s₂.slotsUsed } : State).setVm s₂.vm).frames = .java g₀ :: r := hr
  rcases hq' with ⟨hqc, L, hfe, hL⟩ | ⟨q, rfl, E, ce, L, hx, hce, hcv, hcl, hW₂, hsm, hL⟩
  · obtain ⟨⟨v, rfl⟩, hW₂, e2, q2, q3, q4, q5, q6⟩ := id hfe
    have e3 : s₂ = ({ (U.calling g mk a).setFrames s₂.frames with heap := s₂.heap, slotsUsed := s₂.slotsUsed } : State).setVm s₂.vm := by
      have : s₂ = ({ s₂ with vm := (U.calling g mk a).vm } : State).setVm s₂.vm := rfl
      rw [e2] at this
      exact this
    obtain ⟨c₂, i₂, len₂, hc₂, hd₂, hf₂⟩ := hend
    have hW' : U.WarmedH s₂.vm := hW₂
    have hcc : c₂ = c := by
      have h1 : s₂.code? g.method = U.code? g.method := by
        rw [State.code?_eq, State.code?_eq, hW'.alike.method?]
      exact Option.some.inj (hc₂.symm.trans (h1.trans h.code))
    subst hcc
    have hlen : len₂ = len := by rw [hdg] at hd₂; cases hd₂; rfl
    subst hlen
    have hs₂ : s₂ = (({ U with heap := s₂.heap, slotsUsed := s₂.slotsUsed } : State).setVm s₂.vm).setTop { g with pc := g.pc + len₂, stack := v.toList ++ g.stack } := by
      refine e3.trans ?_
      rw [hf₂, State.calling_eq h.top, State.setFrames_setFrames, State.setTop_of_frames _ hr', hr]
      rfl
    have hsame : U.sameButNew ({ U with heap := s₂.heap, slotsUsed := s₂.slotsUsed } : State) L mc ms := by
      refine ⟨?_, q2, q3, q4, q5, q6⟩
      obtain ⟨t, ht, -⟩ := State.frames_cons hr
      show ({ U with heap := s₂.heap, slotsUsed := s₂.slotsUsed } : State) = { U.setFrames U.frames with heap := s₂.heap, slotsUsed := s₂.slotsUsed }
      rw [State.setFrames_self ht]
    subst hg
    refine Or.inl ⟨v, ⟨(({ U with heap := s₂.heap, slotsUsed := s₂.slotsUsed } : State).setVm s₂.vm), Ls ++ L, c0 + mc, s0 + ms⟩,
      ⟨X.admits, X.cas, X.clock, X.frames, X.room, X.hears, X.method, X.code, (X.here.setHeapUsed s₂.heap s₂.slotsUsed).setVm hW'.alike, X.tail, State.WarmedH.trans X.warmed hW', X.limits, X.bytes, X.same.trans (hsame.setVm s.vm)⟩,
      ⟨g, mk, s₂, L, rfl, rfl, hqc, rfl, hL, rfl, rfl⟩, ?_⟩
    show Steps p.tables e below _ ((({ U with heap := s₂.heap, slotsUsed := s₂.slotsUsed } : State).setVm s₂.vm).setTop { g with pc := g.pc + len₂, stack := v.toList ++ g.stack })
    rw [← hs₂]
    exact hsteps
  · obtain ⟨e2, q2, q3, q4, q5, q6⟩ := id hsm
    have e3 : s₂ = ({ (U.calling g mk a).setFrames s₂.frames with heap := s₂.heap, slotsUsed := s₂.slotsUsed } : State).setVm s₂.vm := by
      have : s₂ = ({ s₂ with vm := (U.calling g mk a).vm } : State).setVm s₂.vm := rfl
      rw [e2] at this
      exact this
    have hf₂ : s₂.frames = .throwing q :: .java g :: U.frames.tail := hend
    have hW' : U.WarmedH s₂.vm := hW₂
    have hs₂ : s₂ = ((({ U with heap := s₂.heap, slotsUsed := s₂.slotsUsed } : State).setVm s₂.vm).setTop g).pushFrame (.throwing q) := by
      refine e3.trans ?_
      rw [hf₂, State.calling_eq h.top, State.setFrames_setFrames, State.pushFrame, State.frames_setTop _ hr', State.setTop_of_frames _ hr', State.setFrames_setFrames, hr]
      rfl
    have hsame : U.sameButNew ({ U with heap := s₂.heap, slotsUsed := s₂.slotsUsed } : State) L mc ms := by
      refine ⟨?_, q2, q3, q4, q5, q6⟩
      obtain ⟨t, ht, -⟩ := State.frames_cons hr
      show ({ U with heap := s₂.heap, slotsUsed := s₂.slotsUsed } : State) = { U.setFrames U.frames with heap := s₂.heap, slotsUsed := s₂.slotsUsed }
      rw [State.setFrames_self ht]
    subst hg
    refine Or.inr ⟨q, ⟨(({ U with heap := s₂.heap, slotsUsed := s₂.slotsUsed } : State).setVm s₂.vm), Ls ++ L, c0 + mc, s0 + ms⟩,
      ⟨X.admits, X.cas, X.clock, X.frames, X.room, X.hears, X.method, X.code, (X.here.setHeapUsed s₂.heap s₂.slotsUsed).setVm hW'.alike, X.tail, State.WarmedH.trans X.warmed hW', X.limits, X.bytes, X.same.trans (hsame.setVm s.vm)⟩,
      ⟨g, mk, s₂, L, E, ce, rfl, rfl, hx, hce, hcv, hcl, rfl, hL, rfl, rfl⟩, ?_⟩
    show Steps p.tables e below _ (((({ U with heap := s₂.heap, slotsUsed := s₂.slotsUsed } : State).setVm s₂.vm).setTop g).pushFrame (.throwing q))
    rw [← hs₂]
    exact hsteps
end
variable {p : Program} {l : Launch} {e : Env} {R : Room} {s : State} {m : MethodId} {args : Array Value} {below : List Frame} {meth : Method} {c : Code} {T : State} {H : Heap} {locs : List Loc} {cells slots : Nat}
theorem vx_callVX (X : Stand p l e R s m args below meth c T locs cells slots) (hexec : p.tables.exec = Jvm.exec) {own C : String} {index : Nat} {y : MethodName} {bytes : ByteArray} {maxL : Nat} {ret : Option FieldType} {hh : List (Nat × Nat × Nat × Nat)}
    (hown : s.vm.findClass own = some m.cls) (hlink : (Cond.methodLink own index y).before args s = true) (hinst : (Cond.instanceMethod y).before args s = true) (hsel : (Cond.selects C y y).before args s = true)
    (hcode : (Cond.codeWith y bytes maxL ret hh).before args s = true) (hy : y.cls ≠ "java/lang/invoke/MethodHandle" ∧ y.cls ≠ "java/lang/invoke/VarHandle")
    {W9 : Nat} {Pre : Pt → Array Value → Prop} {Post : Pt → Array Value → Option Value → Pt → Prop} {PostX : Pt → Array Value → Addr → Pt → Prop} (hK : vx_Back l R p e below s args y 3 W9 Pre Post PostX)
    {b : Addr} {cellB : Cell} (hcell : T.heap[b]? = some cellB) (hobj : cellB.vm.isStatics = false) (hcls : s.vm.findClass C = some cellB.cls)
    {g : JFrame} (hg : g.method = m) (hsize : g.locals.size = c.maxLocals) {argsL rest : List Value} (hlen : ∀ sig, parseMethodDescriptor y.desc = some sig → argsL.length = sig.parameters.length)
    (hstack : g.stack = argsL.reverse ++ .ref b :: rest) (hW : 2 * g.monitorRoom + (rest.map fun v => v.category).sum ≤ W9) (hdg : decode c.code g.pc = .ok (.invokevirtual index, 3))
    (hpre : ∀ vm₁, s.WarmedH vm₁ → Pre ⟨T.setVm vm₁, locs, cells, slots⟩ (Value.ref b :: argsL).toArray) :
    (∃ (v : Option Value) (vm₁ : Vm) (B : Pt), s.WarmedH vm₁ ∧ Stand p l e R s m args below meth c B.U B.locs B.cells B.slots ∧ Post ⟨T.setVm vm₁, locs, cells, slots⟩ (Value.ref b :: argsL).toArray v B ∧
      ∀ target, Steps p.tables e below (B.U.setTop { g with pc := g.pc + 3, stack := v.toList ++ rest }) target → Steps p.tables e below (T.setTop g) target) ∨
    (∃ (q : Addr) (vm₁ : Vm) (B : Pt), s.WarmedH vm₁ ∧ Stand p l e R s m args below meth c B.U B.locs B.cells B.slots ∧ PostX ⟨T.setVm vm₁, locs, cells, slots⟩ (Value.ref b :: argsL).toArray q B ∧
      Steps p.tables e below (T.setTop g) ((B.U.setTop { g with stack := rest }).pushFrame (.throwing q))) := by
  obtain ⟨mk, methM, hnamed, hmethM, hstM, habM⟩ := Cond.instanceMethod_spec hinst
  obtain ⟨m8, methM', cM, hn8, hmethM', -, -, -, -, -, -, hsigM⟩ := Cond.codeWith_spec hcode
  cases Option.some.inj (hn8.symm.trans hnamed)
  cases hmethM.symm.trans hmethM'
  obtain ⟨c2, r2, m2, q1, q2, q3, q4, kP, hkP, hkPi⟩ := Cond.selects_spec hsel
  cases hcls.symm.trans q1
  cases (State.methodFound?_of_named hnamed hy).symm.trans q2
  cases hnamed.symm.trans q3
  have hselP : selectMethod e.platform s.vm cellB.cls mk = .method mk := by rw [Launch.admits_selectMethod X.admits]; exact q4
  obtain ⟨vm₁, X₁, hstep₁⟩ := X.invokevirtual hexec hown hlink hnamed hmethM hstM hkP hkPi hy (a := b) (cell := cellB) hcell
    (fun z h => by rw [h] at hobj; cases hobj) hselP hmethM habM hkP hkPi (g := g) hg (argsL := argsL) (rest := rest) (hlen _ hsigM) hstack hdg
  rcases hK m meth c ⟨T.setVm vm₁, locs, cells, slots⟩ { g with stack := rest } (.invokevirtual index) mk (Value.ref b :: argsL).toArray X₁ hg hsize hdg hW (X₁.named hnamed) (hpre vm₁ X₁.warmed) with ⟨v, B, X', hpost, hsteps⟩ | ⟨q, B, X', hpost, hsteps⟩
  · exact Or.inl ⟨v, vm₁, B, X₁.warmed, X', hpost, fun target h => hstep₁ _ fun acts => by rw [doInvoke_state]; exact hsteps.trans h⟩
  · exact Or.inr ⟨q, vm₁, B, X₁.warmed, X', hpost, hstep₁ _ fun acts => by rw [doInvoke_state]; exact hsteps⟩
theorem vx_callSX (X : Stand p l e R s m args below meth c T locs cells slots) (hexec : p.tables.exec = Jvm.exec) {own : String} {index : Nat} {y : MethodName} {bytes : ByteArray} {maxL : Nat} {ret : Option FieldType} {hh : List (Nat × Nat × Nat × Nat)}
    (hown : s.vm.findClass own = some m.cls) (hlink : (Cond.methodLink own index y).before args s = true) (hstat : (Cond.static y).before args s = true) (hinit : (Cond.initialized y.cls).before args s = true)
    (hcode : (Cond.codeWith y bytes maxL ret hh).before args s = true) (hy : y.cls ≠ "java/lang/invoke/MethodHandle" ∧ y.cls ≠ "java/lang/invoke/VarHandle")
    {W9 : Nat} {Pre : Pt → Array Value → Prop} {Post : Pt → Array Value → Option Value → Pt → Prop} {PostX : Pt → Array Value → Addr → Pt → Prop} (hK : vx_Back l R p e below s args y 3 W9 Pre Post PostX)
    {g : JFrame} (hg : g.method = m) (hsize : g.locals.size = c.maxLocals) {argsL rest : List Value} (hlen : ∀ sig, parseMethodDescriptor y.desc = some sig → argsL.length = sig.parameters.length)
    (hstack : g.stack = argsL.reverse ++ rest) (hW : 2 * g.monitorRoom + (rest.map fun v => v.category).sum ≤ W9) (hdg : decode c.code g.pc = .ok (.invokestatic index, 3))
    (hpre : ∀ vm₁, s.WarmedH vm₁ → Pre ⟨T.setVm vm₁, locs, cells, slots⟩ argsL.toArray) :
    (∃ (v : Option Value) (vm₁ : Vm) (B : Pt), s.WarmedH vm₁ ∧ Stand p l e R s m args below meth c B.U B.locs B.cells B.slots ∧ Post ⟨T.setVm vm₁, locs, cells, slots⟩ argsL.toArray v B ∧
      ∀ target, Steps p.tables e below (B.U.setTop { g with pc := g.pc + 3, stack := v.toList ++ rest }) target → Steps p.tables e below (T.setTop g) target) ∨
    (∃ (q : Addr) (vm₁ : Vm) (B : Pt), s.WarmedH vm₁ ∧ Stand p l e R s m args below meth c B.U B.locs B.cells B.slots ∧ PostX ⟨T.setVm vm₁, locs, cells, slots⟩ argsL.toArray q B ∧
      Steps p.tables e below (T.setTop g) ((B.U.setTop { g with stack := rest }).pushFrame (.throwing q))) := by
  obtain ⟨mk, methM, cM, hnamed, hmethM, -, -, -, -, -, -, hsigM⟩ := Cond.codeWith_spec hcode
  have hstatic : methM.isStatic = true := Cond.static_spec hnamed hmethM hstat
  obtain ⟨kP, hkP, -⟩ := className_of_methodNamed hnamed
  have hinitP : kP.init = .initialized := Cond.initialized_spec (findClass_of_methodNamed hnamed) hkP hinit
  obtain ⟨vm₁, X₁, hstep₁⟩ := X.invokestatic hexec hown hlink hnamed hmethM hstatic hkP hinitP hy (g := g) hg (argsL := argsL) (rest := rest) (hlen _ hsigM) hstack hdg
  rcases hK m meth c ⟨T.setVm vm₁, locs, cells, slots⟩ { g with stack := rest } (.invokestatic index) mk argsL.toArray X₁ hg hsize hdg hW (X₁.named hnamed) (hpre vm₁ X₁.warmed) with ⟨v, B, X', hpost, hsteps⟩ | ⟨q, B, X', hpost, hsteps⟩
  · exact Or.inl ⟨v, vm₁, B, X₁.warmed, X', hpost, fun target h => hstep₁ _ fun acts => by rw [doInvoke_state]; exact hsteps.trans h⟩
  · exact Or.inr ⟨q, vm₁, B, X₁.warmed, X', hpost, hstep₁ _ fun acts => by rw [doInvoke_state]; exact hsteps⟩
theorem vx_callVW (X : Stand p l e R s m args below meth c T locs cells slots) (hexec : p.tables.exec = Jvm.exec) {own C : String} {index : Nat} {y : MethodName} {bytes : ByteArray} {maxL : Nat} {ret : Option FieldType} {hh : List (Nat × Nat × Nat × Nat)}
    (hown : s.vm.findClass own = some m.cls) (hlink : (Cond.methodLink own index y).before args s = true) (hinst : (Cond.instanceMethod y).before args s = true) (hsel : (Cond.selects C y y).before args s = true)
    (hcode : (Cond.codeWith y bytes maxL ret hh).before args s = true) (hy : y.cls ≠ "java/lang/invoke/MethodHandle" ∧ y.cls ≠ "java/lang/invoke/VarHandle")
    {W9 : Nat} {Pre : Pt → Array Value → Prop} {Post : Pt → Array Value → Option Value → Pt → Prop} (hK : Back l R p e below s args y 3 W9 Pre Post)
    {b : Addr} {cellB : Cell} (hcell : T.heap[b]? = some cellB) (hobj : cellB.vm.isStatics = false) (hcls : s.vm.findClass C = some cellB.cls)
    {g : JFrame} (hg : g.method = m) (hsize : g.locals.size = c.maxLocals) {argsL rest : List Value} (hlen : ∀ sig, parseMethodDescriptor y.desc = some sig → argsL.length = sig.parameters.length)
    (hstack : g.stack = argsL.reverse ++ .ref b :: rest) (hW : 2 * g.monitorRoom + (rest.map fun v => v.category).sum ≤ W9) (hdg : decode c.code g.pc = .ok (.invokevirtual index, 3))
    (hpre : ∀ vm₁, s.WarmedH vm₁ → Pre ⟨T.setVm vm₁, locs, cells, slots⟩ (Value.ref b :: argsL).toArray) :
    ∃ (v : Option Value) (vm₁ : Vm) (B : Pt), s.WarmedH vm₁ ∧ Stand p l e R s m args below meth c B.U B.locs B.cells B.slots ∧ Post ⟨T.setVm vm₁, locs, cells, slots⟩ (Value.ref b :: argsL).toArray v B ∧
      ∀ target, Steps p.tables e below (B.U.setTop { g with pc := g.pc + 3, stack := v.toList ++ rest }) target → Steps p.tables e below (T.setTop g) target := by
  obtain ⟨mk, methM, hnamed, hmethM, hstM, habM⟩ := Cond.instanceMethod_spec hinst
  obtain ⟨m8, methM', cM, hn8, hmethM', -, -, -, -, -, -, hsigM⟩ := Cond.codeWith_spec hcode
  cases Option.some.inj (hn8.symm.trans hnamed)
  cases hmethM.symm.trans hmethM'
  obtain ⟨c2, r2, m2, q1, q2, q3, q4, kP, hkP, hkPi⟩ := Cond.selects_spec hsel
  cases hcls.symm.trans q1
  cases (State.methodFound?_of_named hnamed hy).symm.trans q2
  cases hnamed.symm.trans q3
  have hselP : selectMethod e.platform s.vm cellB.cls mk = .method mk := by rw [Launch.admits_selectMethod X.admits]; exact q4
  obtain ⟨vm₁, X₁, hstep₁⟩ := X.invokevirtual hexec hown hlink hnamed hmethM hstM hkP hkPi hy (a := b) (cell := cellB) hcell
    (fun z h => by rw [h] at hobj; cases hobj) hselP hmethM habM hkP hkPi (g := g) hg (argsL := argsL) (rest := rest) (hlen _ hsigM) hstack hdg
  obtain ⟨v, B, X', hpost, hsteps⟩ := hK m meth c ⟨T.setVm vm₁, locs, cells, slots⟩ { g with stack := rest } (.invokevirtual index) mk (Value.ref b :: argsL).toArray X₁ hg hsize hdg hW (X₁.named hnamed) (hpre vm₁ X₁.warmed)
  exact ⟨v, vm₁, B, X₁.warmed, X', hpost, fun target h => hstep₁ _ fun acts => by rw [doInvoke_state]; exact hsteps.trans h⟩
abbrev vx_CVW (R : Room) (s : State) (args : Array Value) (own C : String) (index : Nat) (y : MethodName) (bytes : ByteArray) (maxL : Nat) (ret : Option FieldType) (hh : List (Nat × Nat × Nat × Nat)) (ws : List Cond) (rm : Room) (mc ms n : Nat) : Prop :=
  (rm.cells = mc ∧ rm.slots = ms ∧ rm.frames + 1 ≤ R.frames ∧ 8 + (maxL + 11) + rm.locals ≤ R.locals ∧ (∀ w ∈ ws, ∀ (a' : Array Value) (U : State), s.WarmedH U.vm → w.before a' U = true) ∧ Cond.codeWith y bytes maxL ret hh ∈ ws) ∧
  (Cond.codeWith y bytes maxL ret hh).before args s = true ∧ (Cond.initialized y.cls).before args s = true ∧ (y.cls ≠ "java/lang/invoke/MethodHandle" ∧ y.cls ≠ "java/lang/invoke/VarHandle") ∧
  (∀ sig, parseMethodDescriptor y.desc = some sig → n = sig.parameters.length) ∧ (Cond.methodLink own index y).before args s = true ∧ (Cond.instanceMethod y).before args s = true ∧ (Cond.selects C y y).before args s = true
theorem vx_cwVW {own C : String} {index maxL mc ms : Nat} {y : MethodName} {bytes : ByteArray} {ret : Option FieldType} {hh : List (Nat × Nat × Nat × Nat)} {Ts ws ws' : List Cond} {rm : Room} (n : Nat) (ht : ∀ w ∈ Ts, w.before args s = true) (hT : GoodIn Ts (wsV own index C y ws)) (hw : ws = Cond.codeWith y bytes maxL ret hh :: ws') (hrc : rm.cells = mc) (hrs : rm.slots = ms)
    (hd : y.cls = C ∧ y.cls ≠ "java/lang/invoke/MethodHandle" ∧ y.cls ≠ "java/lang/invoke/VarHandle" ∧ (parseMethodDescriptor y.desc).map (fun d => d.parameters.length) = some n) (hR : rm.frames + 1 ≤ R.frames ∧ 8 + (maxL + 11) + rm.locals ≤ R.locals) :
    vx_CVW R s args own C index y bytes maxL ret hh ws rm mc ms n := by
  obtain ⟨hC, hd⟩ := hd
  subst hC
  have ok : ∀ w ∈ wsV own index y.cls y ws, w.before args s = true := fun w h => ht w (hT w h).1
  have hG : GoodIn Ts ws := fun w h => hT w (by unfold wsV; exact List.mem_append_right _ h)
  have hc : Cond.codeWith y bytes maxL ret hh ∈ ws := by rw [hw]; exact List.mem_cons_self
  refine ⟨⟨hrc, hrs, hR.1, hR.2, pay_in ht hG, hc⟩, ht _ (hG _ hc).1, ok _ (by simp [wsV]), ⟨hd.1, hd.2.1⟩, fun sig h => ?_, ok _ (by simp [wsV]), ok _ (by simp [wsV]), ok _ (by simp [wsV])⟩
  have h2 := hd.2.2
  rw [h] at h2
  exact (Option.some.inj h2).symm
theorem vx_runVW {y : MethodName} {bytes cc : ByteArray} {maxL nL mc ms n index : Nat} {ret : Option FieldType} {hh : List (Nat × Nat × Nat × Nat)} {ws : List Cond} {rm : Room} {Pc : Array Value → State → Prop} {Qc : Array Value → State → Outcome → State → Prop} {free : Addr → Prop} {Ts : List Cond} {own C : String} {b : Addr} {As rest : List Value} {g : JFrame}
    (S : CallFix p m c cc nL s args Ts own) (hM : Met l y ws rm Pc Qc mc ms free) (cw : vx_CVW R s args own C index y bytes maxL ret hh ws rm mc ms n) (hp : PreV s H C b Pc As)
    (hg : g.method = m) (hn : As.length = n) (hsize : g.locals.size = nL) (hstack : g.stack = As.reverse ++ .ref b :: rest) (hW : 2 * g.monitorRoom + (rest.map fun v => v.category).sum ≤ 8) (hdg : decode cc g.pc = .ok (.invokevirtual index, 3)) (hf : cells + mc ≤ R.cells ∧ slots + ms ≤ R.slots) :
    va_Run p l e R s m args below meth c H locs cells slots mc ms g rest (Qc (Value.ref b :: As).toArray) free := by
  obtain ⟨⟨hrc, hrs, hfr, hlo, hws, hcw⟩, hcode, hini, hy, hlen, hl, hin, hse⟩ := cw
  have hK : Back l R p e below s args y 3 8 (PreOf R mc ms Pc) (PostOf Qc mc ms free) := va_backW (hh := hh) (bytes := bytes) (maxL := maxL) (ret := ret) hM hp.1 hrc hrs hfr hlo hws hcw (fun a' U hW => word_at hW (Or.inl (by first | rfl | simp [Cond.onTables, Cond.keeps, Cond.steady])) hini)
  obtain ⟨hx, hb, hml, ho, -⟩ := S
  obtain ⟨-, ⟨cellB, hcB, hoB, hclB⟩, hPc⟩ := hp
  intro T hT X
  obtain ⟨v, vm₁, ⟨U', l2, c2, s2⟩, hW₁, X', ⟨g', mk, t, L, e1, e2, hq, h1, hL, h2, h3⟩, st⟩ := vx_callVW X hx (C := C) (hh := hh) (bytes := bytes) (maxL := maxL) (ret := ret) ho hl hin hse hcode hy hK (by rw [hT]; exact hcB) hoB hclB hg (hsize.trans hml.symm) (argsL := As) (rest := rest) (fun sig h => hn.trans (hlen sig h)) hstack hW (by rw [hb]; exact hdg)
    (fun vm₁ hW₁ => ⟨hf.1, hf.2, hPc (T.setVm vm₁) hT hW₁⟩)
  dsimp only [Pt.U, Pt.locs, Pt.cells, Pt.slots] at X' e1 e2 h1 h2 h3 st
  subst h1; subst h2; subst h3
  exact ⟨v, (T.setVm vm₁).calling g' mk (Value.ref b :: As).toArray, t, U', L, hT, X', hL, e1, e2, hq, st⟩
section
variable {y : MethodName} {bytes cc : ByteArray} {maxL nL mc ms n index : Nat} {ret : Option FieldType} {ws : List Cond} {rm : Room} {Pc : Array Value → State → Prop} {Qc : Array Value → State → Outcome → State → Prop} {XC : String → State → State → Prop} {free : Addr → Prop} {Ts : List Cond} {own C : String} {b : Addr} {As rest : List Value} {g : JFrame}
theorem vx_runVX {hh : List (Nat × Nat × Nat × Nat)} (S : CallFix p m c cc nL s args Ts own) (hM : vx_Met l y ws rm Pc Qc XC mc ms free) (cw : vx_CVW R s args own C index y bytes maxL ret hh ws rm mc ms n) (hp : PreV s H C b Pc As)
    (hg : g.method = m) (hn : As.length = n) (hsize : g.locals.size = nL) (hstack : g.stack = As.reverse ++ .ref b :: rest) (hW : 2 * g.monitorRoom + (rest.map fun v => v.category).sum ≤ 8) (hdg : decode cc g.pc = .ok (.invokevirtual index, 3)) (hf : cells + mc ≤ R.cells ∧ slots + ms ≤ R.slots) :
    vx_Run p l e R s m args below meth c H locs cells slots mc ms g rest (Qc (Value.ref b :: As).toArray) XC free := by
  obtain ⟨⟨hrc, hrs, hfr, hlo, hws, hcw⟩, hcode, hini, hy, hlen, hl, hin, hse⟩ := cw
  have hK : vx_Back l R p e below s args y 3 8 (PreOf R mc ms Pc) (PostOf Qc mc ms free) (vx_Post XC mc ms free) := vx_backW (hh := hh) (bytes := bytes) (maxL := maxL) (ret := ret) hM hp.1 hrc hrs hfr hlo hws hcw (fun a' U hW => word_at hW (Or.inl (by first | rfl | simp [Cond.onTables, Cond.keeps, Cond.steady])) hini)
  obtain ⟨hx, hb, hml, ho, -⟩ := S
  obtain ⟨-, ⟨cellB, hcB, hoB, hclB⟩, hPc⟩ := hp
  intro T hT X
  rcases vx_callVX X hx (C := C) (hh := hh) (bytes := bytes) (maxL := maxL) (ret := ret) ho hl hin hse hcode hy hK (by rw [hT]; exact hcB) hoB hclB hg (hsize.trans hml.symm) (argsL := As) (rest := rest) (fun sig h => hn.trans (hlen sig h)) hstack hW (by rw [hb]; exact hdg)
    (fun vm₁ hW₁ => ⟨hf.1, hf.2, hPc (T.setVm vm₁) hT hW₁⟩) with ⟨v, vm₁, ⟨U', l2, c2, s2⟩, hW₁, X', ⟨g', mk, t, L, e1, e2, hq, h1, hL, h2, h3⟩, st⟩ | ⟨q, vm₁, ⟨U', l2, c2, s2⟩, hW₁, X', ⟨g', mk, t, L, E, ce, e1, e2, hq, hce, hcv, hcl, h1, hL, h2, h3⟩, st⟩
  · dsimp only [Pt.U, Pt.locs, Pt.cells, Pt.slots] at X' e1 e2 h1 h2 h3 st
    subst h1; subst h2; subst h3
    exact Or.inl ⟨v, (T.setVm vm₁).calling g' mk (Value.ref b :: As).toArray, t, U', L, hT, X', hL, e1, e2, hq, st⟩
  · dsimp only [Pt.U, Pt.locs, Pt.cells, Pt.slots] at X' e1 e2 h1 h2 h3 st hcl
    subst h1; subst h2; subst h3
    exact Or.inr ⟨q, (T.setVm vm₁).calling g' mk (Value.ref b :: As).toArray, t, U', L, E, ce, hT, X', hL, e1, e2, hq, hce, hcv, vx_cls hW₁ hcl, st⟩
theorem vx_runSX {hh : List (Nat × Nat × Nat × Nat)} (S : CallFix p m c cc nL s args Ts own) (hM : vx_Met l y ws rm Pc Qc XC mc ms free) (cw : vx_CSW R s args own index y bytes maxL ret hh ws rm mc ms n) (hp : PreS s H Pc As)
    (hg : g.method = m) (hn : As.length = n) (hsize : g.locals.size = nL) (hstack : g.stack = As.reverse ++ rest) (hW : 2 * g.monitorRoom + (rest.map fun v => v.category).sum ≤ 8) (hdg : decode cc g.pc = .ok (.invokestatic index, 3)) (hf : cells + mc ≤ R.cells ∧ slots + ms ≤ R.slots) :
    vx_Run p l e R s m args below meth c H locs cells slots mc ms g rest (Qc As.toArray) XC free := by
  obtain ⟨⟨hrc, hrs, hfr, hlo, hws, hcw⟩, hcode, hini, hy, hlen, hl, hstt⟩ := cw
  have hK : vx_Back l R p e below s args y 3 8 (PreOf R mc ms Pc) (PostOf Qc mc ms free) (vx_Post XC mc ms free) := vx_backW (hh := hh) (bytes := bytes) (maxL := maxL) (ret := ret) hM hp.1 hrc hrs hfr hlo hws hcw (fun a' U hW => word_at hW (Or.inl (by first | rfl | simp [Cond.onTables, Cond.keeps, Cond.steady])) hini)
  obtain ⟨hx, hb, hml, ho, -⟩ := S
  intro T hT X
  rcases vx_callSX X hx (hh := hh) (bytes := bytes) (maxL := maxL) (ret := ret) ho hl hstt hini hcode hy hK hg (hsize.trans hml.symm) (argsL := As) (rest := rest) (fun sig h => hn.trans (hlen sig h)) hstack hW (by rw [hb]; exact hdg)
    (fun vm₁ hW₁ => ⟨hf.1, hf.2, hp.2 (T.setVm vm₁) hT hW₁⟩) with ⟨v, vm₁, ⟨U', l2, c2, s2⟩, hW₁, X', ⟨g', mk, t, L, e1, e2, hq, h1, hL, h2, h3⟩, st⟩ | ⟨q, vm₁, ⟨U', l2, c2, s2⟩, hW₁, X', ⟨g', mk, t, L, E, ce, e1, e2, hq, hce, hcv, hcl, h1, hL, h2, h3⟩, st⟩
  · dsimp only [Pt.U, Pt.locs, Pt.cells, Pt.slots] at X' e1 e2 h1 h2 h3 st
    subst h1; subst h2; subst h3
    exact Or.inl ⟨v, (T.setVm vm₁).calling g' mk As.toArray, t, U', L, hT, X', hL, e1, e2, hq, st⟩
  · dsimp only [Pt.U, Pt.locs, Pt.cells, Pt.slots] at X' e1 e2 h1 h2 h3 st hcl
    subst h1; subst h2; subst h3
    exact Or.inr ⟨q, (T.setVm vm₁).calling g' mk As.toArray, t, U', L, E, ce, hT, X', hL, e1, e2, hq, hce, hcv, vx_cls hW₁ hcl, st⟩
end
end VXH
theorem vx_ofWH {l : Launch} {y : MethodName} {ws ws' : List Cond} {rm : Room} {Pc : Array Value → State → Prop} {Qc : Array Value → State → Outcome → State → Prop} {XC : String → State → State → Prop} {mc ms : Nat} {free : Addr → Prop} {cc : ByteArray} {maxL : Nat} {ret : Option FieldType} {hh : List (Nat × Nat × Nat × Nat)}
    (hy : plainName y.cls = true) (hw : ws = Cond.codeWith y cc maxL ret hh :: ws')
    (body : ∀ p e s m args below meth c s₁, BodyLoose p l y (headSpec ws rm) cc maxL ret e s m args below meth c s₁ → c.maxLocals = maxL → Pc args s →
      W p l e (headSpec ws rm).room s m args below meth c s.heap [] 0 0 (vx_MQ below Qc XC args s mc ms free) (entryFrame m args maxL)) : vx_Met l y ws rm Pc Qc XC mc ms free := by
  refine MetFree.of_bodyS (code := cc) (maxLocals := maxL) (ret := ret) hy ?_ ?_
  · intro args s m h hn
    obtain ⟨m9, meth, c, hn9, h1, h2, h3, h4, -, h5, h6, -⟩ := Cond.codeWith_spec (atoms_spec (ws := ws) h _ (by rw [hw]; exact List.mem_cons_self))
    cases hn.symm.trans hn9
    exact ⟨meth, c, h1, h2, h3, h4, h5, h6⟩
  · intro p e s m args below meth c s₁ B hml hP _
    have hh0 : s₁.heap = s.heap := by rw [B.state]; rfl
    obtain ⟨t, a1, o, b1, b2, b3⟩ := body p e s m args below meth c s₁ B hml hP s₁ hh0 (Stand.of_body B)
    exact ⟨t, o, a1, b1, b2, b3⟩
/-! ===== END ===== -/

/-! ===== BEGIN what the machine throws by itself, no traces kept ===== -/
section VXM
set_option maxHeartbeats 1000000 in
/-- the machine throws cls with the message text, no traces kept: from its note over the frame g to 'throwing' over the same frame (follows the proofs of Stand.vmThrowsMessage, Shelf/KitTracedVmS.lean, and Stand.throwsMessageColdBareV, StandMessageColdV.lean, without the step out of the frame) -/
theorem vx_vmAt {p : Program} {l : Launch} {e : Env} {R : Room} {s : State} {m₀ : MethodId} {args : Array Value} {below : List Frame} {meth : Method} {c : Code} {W : State} {locs : List Loc} {cells slots : Nat}
    (X : Stand p l e R s m₀ args below meth c W locs cells slots) (hexec : p.tables.exec = Jvm.exec) (htr : e.platform.stackTraces = false) {cls : String} {names : List String} {text : String}
    (hcls : Bundle.fit cls = true) (hnames : ∀ n ∈ names, Bundle.fit n = true) (hsoe : (cls == "java/lang/StackOverflowError") = false) (hoom : (cls == "java/lang/OutOfMemoryError") = false)
    (h : ∀ a ∈ Bundle.messageArmAtoms cls names, a.before args s = true)
    (hlocs : ∀ x ∈ locs, ∀ cell, s.heap[x.base]? = some cell → cell.vm.isStatics = false)
    (htext : (text == notModelled) = false) (hlimit : ¬ (stringBytes (stringToUtf16 text)).size > e.platform.arrayLengthLimit) (hheap : ¬ (stringBytes (stringToUtf16 text)).size * componentBytes .byte > e.platform.maxHeapBytes)
    {g : JFrame} (hg : g.method = m₀) (hsize : g.locals.size = c.maxLocals)
    (hRframes : names.length + 4 < R.frames) (hRlocals : 2 * g.monitorRoom + (g.stack.map fun v => v.category).sum + 10240 ≤ R.locals) (hshort : 13 * names.length + 55 ≤ 10240)
    (hRcells : cells + 3 ≤ R.cells) (hRslots : slots + ((stringBytes (stringToUtf16 text)).size + 4 + 6) ≤ R.slots) (hlocks : meth.locks = false) :
    ∃ (S : State) (q : Addr) (ce : Cell), (∀ target, Steps p.tables e below ((S.setTop g).pushFrame (.throwing q)) target → Steps p.tables e below ((W.setTop g).pushFrame (.throwNew cls (some text) none)) target) ∧
      Stand p l e R s m₀ args below meth c S locs (cells + 3) (slots + ((stringBytes (stringToUtf16 text)).size + 4 + 6)) ∧ S.heap[q]? = some ce ∧ s.vm.findClass cls = some ce.cls ∧ ce.vm = .none := by
  have howns : e.platform.frameOwnsMonitors = true := by rw [X.admits.platform]
  have hfin : e.platform.finalization = false := by rw [X.admits.platform]
  have hpl : e.platform.magicAccessors = ({} : Platform).magicAccessors := by rw [X.admits.platform]
  have a : ∀ x, x ∈ Bundle.messageArmAtoms cls names → x.holds args s none s [] = true := fun x hx => h x hx
  obtain ⟨T, Z0, L, -, Y⟩ := ThrowableC.of_atoms (args := args) howns hfin hpl (fun x hx => h x (by simp [Bundle.messageArmAtoms, hx]))
  obtain ⟨Z, M, LZ, LM, hnZ⟩ := Init0T.ofS_atoms (args := args) hpl L Y (fun x hx => h x (by simp [Bundle.messageArmAtoms, hx]))
  obtain ⟨P1, Ps, hlen, L1, hL, hP1m, hlink1, hlink⟩ := Bundle.chainS (args := args) hpl hnZ names cls hcls hnames (fun x hx => h x (by simp [Bundle.messageArmAtoms, hx]))
  obtain ⟨Zs, LZs, hn4, hfitv, hfitc⟩ := StringT.of_atoms (args := args) (fun x hx => h x (by simp [Bundle.messageArmAtoms, hx]))
  have hfound : s.vm.findClass cls = some P1.m.cls := findClass_of_methodNamed hP1m
  obtain ⟨c1, kX, hc1, hk, hord, -, -, hn6⟩ := Cond.instantiable_spec (a (.instantiable cls 6) (by simp [Bundle.messageArmAtoms]))
  cases Option.some.inj (hc1.symm.trans hfound)
  have hinit := Cond.initialized_spec hfound hk (a (.initialized cls) (by simp [Bundle.messageArmAtoms]))
  have hctor : kX.findMethod "<init>" "(Ljava/lang/String;)V" = some P1.m.idx := findMethod_of_methodNamed hP1m hk
  have hsel0 : selectMethod e.platform s.vm P1.m.cls T.fill0 = .method T.fill0 := by
    obtain ⟨c2, r2, m2, q1, q2, q3, q4, -⟩ := Cond.selects_spec (a (.selects cls Bundle.tFill0 Bundle.tFill0) (by simp [Bundle.messageArmAtoms]))
    cases Option.some.inj (q1.symm.trans hfound)
    cases Option.some.inj (q2.symm.trans (State.methodFound?_of_named Y.fill0 (by decide)))
    cases Option.some.inj (q3.symm.trans Y.fill0)
    rw [Launch.admits_selectMethod X.admits]; exact q4
  have hselF : selectMethod e.platform s.vm P1.m.cls T.fill = .method T.fill := by
    obtain ⟨c2, r2, m2, q1, q2, q3, q4, -⟩ := Cond.selects_spec (a (.selects cls Bundle.tFill Bundle.tFill) (by simp [Bundle.messageArmAtoms]))
    cases Option.some.inj (q1.symm.trans hfound)
    cases Option.some.inj (q2.symm.trans (State.methodFound?_of_named Y.fill (by decide)))
    cases Option.some.inj (q3.symm.trans Y.fill)
    rw [Launch.admits_selectMethod X.admits]; exact q4
  obtain ⟨cellS0, hcS0, hiss⟩ := Y.statics
  obtain ⟨u0, hu0⟩ := Cond.staticRefV Y.unassigned L.unassignedStatic L.statics hcS0 hiss (a (.isRef (.static Bundle.tN "UNASSIGNED_STACK" Bundle.steD)) (by simp [Bundle.messageArmAtoms]))
  obtain ⟨sen, hsen⟩ := Cond.staticRefV Y.sentinel L.sentinelStatic L.statics hcS0 hiss (a (.isRef (.static Bundle.tN "SUPPRESSED_SENTINEL" Bundle.listD)) (by simp [Bundle.messageArmAtoms]))
  obtain ⟨ci198, i198, fB, hk198, hg198, ha198, hsB, -, hnB, htB, hffB⟩ := Cond.ownField (t := .object "java/lang/Object") Y.found L.cls (by decide +kernel) (a (.fieldLink Bundle.tN 198 Bundle.tN "backtrace" "Ljava/lang/Object;") (by simp [Bundle.messageArmAtoms])) (a (.lays Bundle.tN Bundle.tN "backtrace" "Ljava/lang/Object;") (by simp [Bundle.messageArmAtoms])) e.platform hpl
  obtain ⟨cellS, hcS', heS, -, hkeep⟩ := X.same.2.2.2.2.2 T.aS cellS0 hcS0
  have hcellS : W.heap[T.aS]? = some cellS := hcS'
  have hout' : ∀ i, (⟨T.aS, i⟩ : Loc) ∉ locs := fun i hmem => by
    have := hlocs _ hmem cellS0 hcS0
    rw [hiss] at this; cases this
  have hknownS : cellS.vm ≠ .unknown := by
    rw [heS]; intro hu
    rw [show cellS0.vm = .unknown from hu] at hiss
    cases hiss
  have hvU : cellS.slots[T.fUnassigned.slot]? = some u0.v := by rw [hkeep _ (hout' _)]; exact hu0
  have hvSen : cellS.slots[T.fSentinel.slot]? = some sen.v := by rw [hkeep _ (hout' _)]; exact hsen
  obtain ⟨iM, hffM⟩ := Y.msg
  obtain ⟨tyC, dC, hdC, hdnC⟩ := Cond.laysAt hfound hk Y.cause (a (.lays cls Bundle.tN "cause" "Ljava/lang/Throwable;") (by simp [Bundle.messageArmAtoms]))
  obtain ⟨tyS, dS, hdS, hdnS⟩ := Cond.laysAt hfound hk Y.stack (a (.lays cls Bundle.tN "stackTrace" Bundle.steD) (by simp [Bundle.messageArmAtoms]))
  obtain ⟨tyP, dP, hdP, hdnP⟩ := Cond.laysAt hfound hk Y.supp (a (.lays cls Bundle.tN "suppressedExceptions" Bundle.listD) (by simp [Bundle.messageArmAtoms]))
  obtain ⟨tyM, dM, hdM, hdnM⟩ := Cond.laysAt hfound hk hffM (a (.lays cls Bundle.tN "detailMessage" "Ljava/lang/String;") (by simp [Bundle.messageArmAtoms]))
  obtain ⟨tyB, dB, hdB, hdnB⟩ := Cond.laysAt hfound hk hffB (a (.lays cls Bundle.tN "backtrace" "Ljava/lang/Object;") (by simp [Bundle.messageArmAtoms]))
  have bC := Cond.laysApart hdB hdC hdnB hdnC (by rw [hnB, Y.causeName]; decide)
  have bS := Cond.laysApart hdB hdS hdnB hdnS (by rw [hnB, Y.stackName]; decide)
  have bP := Cond.laysApart hdB hdP hdnB hdnP (by rw [hnB, Y.suppName]; decide)
  have hbk : ((preparedCellV T.toThrowableT (freshCell P1.m.cls kX) (W.heap.size + 2) u0 sen).withEntry W.cur).slots[fB.slot]? = some .null := by
    have := fresh_default (c := P1.m.cls) tyB
    rw [htB] at this
    simpa [preparedCellV, Cell.setSlot, Cell.withEntry, Array.getElem?_setIfInBounds, bC, bS, bP, bC.symm, bS.symm, bP.symm, defaultValue] using this
  have tkC := Takes.of_laid (v := .ref (W.heap.size + 2)) hk hord tyC (by rw [Y.causeType]; rfl)
  have tkS := Takes.of_laid (v := u0.v) hk hord tyS (by rw [Y.stackType]; exact fits_refV_array _ u0)
  have tkP := Takes.of_laid (v := sen.v) hk hord tyP (by rw [Y.suppType]; exact fits_refV_object _ sen)
  have tkM := Takes.of_laid (v := .ref (W.heap.size + 1)) hk hord tyM (by rw [Y.msgType]; rfl)
  have hskip : SkipFacts T e.platform s (fun u => u) u0 ((preparedCellV T.toThrowableT (freshCell P1.m.cls kX) (W.heap.size + 2) u0 sen).withEntry W.cur) := ⟨{ ci198 := ci198, i198 := i198, fBack := fB }, ⟨hk198, hg198, ha198, hsB⟩, hbk, fun _ _ => rfl⟩
  have h0 : At W g.method c below := by rw [hg]; exact X.here
  obtain ⟨hbeyond, hfreeW⟩ := X.vmMayThrow hsize (.throwNew cls (some text) none) (fun f hf => by cases hf) rfl hRlocals
  have hfr' : W.frames.length + Ps.length + 4 < (e.platform.stackLimits W.me).1 := by have := X.framesAbove hRframes; omega
  have hwd' : (stackUse (.java g :: W.frames.tail)).2 + 13 * Ps.length + 55 ≤ (e.platform.stackLimits W.me).2 := by have := X.stackAbove hsize (K := 13 * Ps.length + 55) (by omega); omega
  have hslots : W.slotsUsed + (stringBytes (stringToUtf16 text)).size + Zs.kS.instanceTypes.size + kX.instanceTypes.size ≤ e.platform.maxSlots := by
    have := X.slotsAbove hRslots
    rw [hn4, hn6]
    omega
  obtain ⟨vm', hW', st⟩ := Steps.vmThrowsMessageColdByV p (s₀ := s) (S := W) (g := g) h0 hexec T L Z LZ M LM X.warmed (t := W.cur) rfl Zs LZs P1 L1 Ps hL hlink1 hlink hsoe hoom hfound hk hinit hord hctor
    (Launch.admits_hotImplicitExceptions X.admits) hbeyond hfreeW htext hlimit hheap (X.cellsAbove hRcells) hslots (hfitv _) (hfitc _)
    (Nn := fun u => u) heapOnly_id (fun _ _ => rfl) (fun _ => rfl) (fun u x y => setCell_twice _ _ _ _) (fun _ => Nat.le_refl _) (cN := ((preparedCellV T.toThrowableT (freshCell P1.m.cls kX) (W.heap.size + 2) u0 sen).withEntry W.cur))
    hsel0 hcellS hknownS hvU tkS (fun _ hu => hu) (fun _ hu => hu) rfl rfl rfl (by simp [preparedCellV, Cell.setSlot, Cell.withEntry]) hskip (fun _ _ hA hW _ hroom _ hrest => L.nativeOff p htr hA hW hroom hrest) hselF hvSen tkC tkP tkM Y.objLocals rfl hfr' hwd'
  rw [plainBareV_eq T.toThrowableT (W.heap.size + 2) u0 sen (.ref (W.heap.size + 1)) W.cur rfl rfl] at st
  obtain ⟨-, -, w3, w4, -, -, -⟩ := withThrown_facts e.platform W Zs text P1.m.cls kX
  have X3 := ((X.pushed (bytesOf Zs.cB (stringToUtf16 text))).pushed (stringAt Zs.cS Zs.kS Zs.fv Zs.fc (stringToUtf16 text) W.heap.size)).pushed (freshCell P1.m.cls kX)
  rw [← withString_eq] at X3
  have X4 := X3.noted hW'
  have ha : (W.heap.size + 2) < ((withThrown W Zs text P1.m.cls kX).setVm vm').heap.size := by show _ < (withThrown W Zs text P1.m.cls kX).heap.size; rw [w3]; omega
  have hcell : ((withThrown W Zs text P1.m.cls kX).setVm vm').heap[(W.heap.size + 2)]? = some (freshCell P1.m.cls kX) := w4
  have X5 := ((((X4.stored hcell T.fCause.slot (.ref (W.heap.size + 2))).storedAgain ha T.fStack.slot u0.v).storedAgain ha T.fSupp.slot sen.v).storedAgain ha T.fStack.slot u0.v).storedAgain ha T.fMsg.slot (.ref (W.heap.size + 1))
  obtain ⟨g₁, hfrM⟩ := X5.frames_eq
  have hU : ((((withThrown W Zs text P1.m.cls kX).setVm vm').setCell (W.heap.size + 2) (plainBareV T.toThrowableT (freshCell P1.m.cls kX) (W.heap.size + 2) u0 sen (.ref (W.heap.size + 1)))).setTop g).pushFrame (.throwing (W.heap.size + 2)) = (((withThrown W Zs text P1.m.cls kX).setVm vm').setCell (W.heap.size + 2) (plainBareV T.toThrowableT (freshCell P1.m.cls kX) (W.heap.size + 2) u0 sen (.ref (W.heap.size + 1)))).setFrames (.throwing (W.heap.size + 2) :: .java g :: below) := by
    rw [State.pushFrame, State.frames_setTop _ hfrM, State.setTop_of_frames _ hfrM, State.setFrames_setFrames]
  have b1 : (bytesOf Zs.cB (stringToUtf16 text)).slots.size = (stringBytes (stringToUtf16 text)).size := by
    rw [(Cell.writeAll_facts _ _).2.2]; simp [bytes0]
  have b2 : (stringAt Zs.cS Zs.kS Zs.fv Zs.fc (stringToUtf16 text) W.heap.size).slots.size = 4 := by simp [string0, Cell.setSlot, hn4]
  have b3 : (freshCell P1.m.cls kX).slots.size = 6 := by simp [hn6]
  rw [b1, b2, b3] at X5
  have e9 : slots + (stringBytes (stringToUtf16 text)).size + 4 + 6 = slots + ((stringBytes (stringToUtf16 text)).size + 4 + 6) := by omega
  rw [e9] at X5
  simp only [List.append_assoc, List.cons_append, List.nil_append] at X5
  refine ⟨((withThrown W Zs text P1.m.cls kX).setVm vm').setCell (W.heap.size + 2) (plainBareV T.toThrowableT (freshCell P1.m.cls kX) (W.heap.size + 2) u0 sen (.ref (W.heap.size + 1))), W.heap.size + 2, _, fun target ht => st _ (by rw [X.tail, ← hU]; exact ht),
    X5.forget (fun y hy => ?_), heapAt_setCell_self _ ha, hfound, rfl⟩
  simp only [List.mem_cons, List.not_mem_nil, or_false] at hy
  have hge : s.heap.size ≤ W.heap.size := X.same.2.1
  rcases hy with rfl | rfl | rfl | rfl | rfl <;> exact Nat.le_trans hge (Nat.le_add_right _ 2)
set_option maxHeartbeats 1000000 in
/-- the machine throws NullPointerException, no traces kept: from its note over the frame g to 'throwing' over the same frame (follows the proof of Stand.vmThrowsNpe, Shelf42/KT2.lean; throwsNpeColdBareVAt, Shelf42/NT91.lean, called) -/
theorem vx_npeAt {p : Program} {l : Launch} {e : Env} {R : Room} {s : State} {m₀ : MethodId} {args : Array Value} {below : List Frame} {meth : Method} {c : Code} {W : State} {locs : List Loc} {cells slots : Nat}
    (X : Stand p l e R s m₀ args below meth c W locs cells slots) (hexec : p.tables.exec = Jvm.exec) (htr : e.platform.stackTraces = false) {n : Nat}
    (h : ∀ a ∈ Bundle.npeArmAtoms n, a.before args s = true)
    (hlocs : ∀ x ∈ locs, ∀ cell, s.heap[x.base]? = some cell → cell.vm.isStatics = false)
    {g : JFrame} (hg : g.method = m₀) (hsize : g.locals.size = c.maxLocals)
    (hRframes : 7 < R.frames) (hRlocals : 2 * g.monitorRoom + (g.stack.map fun v => v.category).sum + 10240 ≤ R.locals)
    (hRcells : cells + 1 ≤ R.cells) (hRslots : slots + n ≤ R.slots) (hlocks : meth.locks = false) :
    ∃ (S : State) (q : Addr) (ce : Cell), (∀ target, Steps p.tables e below ((S.setTop g).pushFrame (.throwing q)) target → Steps p.tables e below ((W.setTop g).pushFrame (.throwNew "java/lang/NullPointerException" none none)) target) ∧
      Stand p l e R s m₀ args below meth c S locs (cells + 1) (slots + n) ∧ S.heap[q]? = some ce ∧ s.vm.findClass "java/lang/NullPointerException" = some ce.cls ∧ ce.vm = .none := by
  have howns : e.platform.frameOwnsMonitors = true := by rw [X.admits.platform]
  have hfin : e.platform.finalization = false := by rw [X.admits.platform]
  have hpl : e.platform.magicAccessors = ({} : Platform).magicAccessors := by rw [X.admits.platform]
  have hpl2 : e.platform.arrayCloneIsPublic = true := by rw [X.admits.platform]
  have a' : ∀ x, x ∈ Bundle.npeArmAtoms n → x.holds args s none s [] = true := fun x hx => h x hx
  obtain ⟨T, Z, L, LZ, Y⟩ := ThrowableC.of_atoms (args := args) howns hfin hpl (fun x hx => h x (by simp [Bundle.npeArmAtoms, hx]))
  obtain ⟨N, LN, hcN, hnNF, hordN, hffS⟩ := NpeC.of_atoms (args := args) hpl hpl2 L Y (fun x hx => h x (by simp [Bundle.npeArmAtoms, hx]))
  obtain ⟨P1, L1, hP1m, hP1s⟩ := PassC.of_atoms (args := args) (s := s) hpl (X := Bundle.nN) (Y := Bundle.rN) (by decide) (by decide) LibCode.NullPointerException.Init0.at_0 LibCode.NullPointerException.Init0.at_1 LibCode.NullPointerException.Init0.at_4 (fun x hx => h x (by simp [Bundle.npeArmAtoms, hx]))
  obtain ⟨PR, LR, hPRm, hPRs⟩ := PassC.of_atoms (args := args) (s := s) hpl (X := Bundle.rN) (Y := Bundle.eN) (by decide) (by decide) LibCode.RuntimeException.Init0.at_0 LibCode.RuntimeException.Init0.at_1 LibCode.RuntimeException.Init0.at_4 (fun x hx => h x (by simp [Bundle.npeArmAtoms, hx]))
  obtain ⟨PE, LEx, hPEm, hPEs⟩ := PassC.of_atoms (args := args) (s := s) hpl (X := Bundle.eN) (Y := Bundle.tN) (by decide) (by decide) LibCode.Exception.Init0.at_0 LibCode.Exception.Init0.at_1 LibCode.Exception.Init0.at_4 (fun x hx => h x (by simp [Bundle.npeArmAtoms, hx]))
  have hfound : s.vm.findClass Bundle.nN = some P1.m.cls := findClass_of_methodNamed hP1m
  have ecls : N.cN = P1.m.cls := Option.some.inj (hcN.symm.trans hfound)
  have hk : s.vm.classes[P1.m.cls]? = some N.kN := by rw [← ecls]; exact LN.cls
  have hinit := Cond.initialized_spec hfound hk (a' (.initialized Bundle.nN) (by simp [Bundle.npeArmAtoms]))
  have hctor : N.kN.findMethod "<init>" "()V" = some P1.m.idx := findMethod_of_methodNamed hP1m hk
  obtain ⟨c1, k1, hc1, hk1, -, -, -, hn⟩ := Cond.instantiable_spec (a' (.instantiable Bundle.nN n) (by simp [Bundle.npeArmAtoms]))
  cases Option.some.inj (hc1.symm.trans hfound)
  cases Option.some.inj (hk1.symm.trans hk)
  have hfsz : (freshCell P1.m.cls N.kN).slots.size = n := by simp [hn]
  have hlink1 : P1.sup = PR.m := Option.some.inj (hP1s.symm.trans hPRm)
  have hlinkR : PR.sup = PE.m := Option.some.inj (hPRs.symm.trans hPEm)
  have hlinkE : PE.sup = Z.m T.toThrowableT := Option.some.inj (hPEs.symm.trans Y.init0)
  have hLs : ∀ P, P ∈ [PR, PE] → P.Links0 e.platform s := fun P hP => by
    simp only [List.mem_cons, List.not_mem_nil, or_false] at hP
    rcases hP with rfl | rfl
    · exact LR
    · exact LEx
  have hsel0 : selectMethod e.platform s.vm P1.m.cls T.fill0 = .method T.fill0 := by
    obtain ⟨c2, r2, m2, q1, q2, q3, q4, -⟩ := Cond.selects_spec (a' (.selects Bundle.nN Bundle.tFill0 Bundle.tFill0) (by simp [Bundle.npeArmAtoms]))
    cases Option.some.inj (q1.symm.trans hfound)
    cases Option.some.inj (q2.symm.trans (State.methodFound?_of_named Y.fill0 (by decide)))
    cases Option.some.inj (q3.symm.trans Y.fill0)
    rw [Launch.admits_selectMethod X.admits]; exact q4
  have hselF : selectMethod e.platform s.vm P1.m.cls T.fill = .method N.fill := by
    obtain ⟨c2, r2, m2, q1, q2, q3, q4, -⟩ := Cond.selects_spec (a' (.selects Bundle.nN Bundle.tFill Bundle.nFill) (by simp [Bundle.npeArmAtoms]))
    cases Option.some.inj (q1.symm.trans hfound)
    cases Option.some.inj (q2.symm.trans (State.methodFound?_of_named Y.fill (by decide)))
    cases Option.some.inj (q3.symm.trans hnNF)
    rw [Launch.admits_selectMethod X.admits]; exact q4
  obtain ⟨cellS0, hcS0, hiss⟩ := Y.statics
  obtain ⟨u0, hu0⟩ := Cond.staticRefV Y.unassigned L.unassignedStatic L.statics hcS0 hiss (a' (.isRef (.static Bundle.tN "UNASSIGNED_STACK" Bundle.steD)) (by simp [Bundle.npeArmAtoms]))
  obtain ⟨sen, hsen⟩ := Cond.staticRefV Y.sentinel L.sentinelStatic L.statics hcS0 hiss (a' (.isRef (.static Bundle.tN "SUPPRESSED_SENTINEL" Bundle.listD)) (by simp [Bundle.npeArmAtoms]))
  obtain ⟨ci198, i198, fB, hk198, hg198, ha198, hsB, -, hnB, htB, hffB⟩ := Cond.ownField (t := .object "java/lang/Object") Y.found L.cls (by decide +kernel) (a' (.fieldLink Bundle.tN 198 Bundle.tN "backtrace" Bundle.objD) (by simp [Bundle.npeArmAtoms])) (a' (.lays Bundle.tN Bundle.tN "backtrace" Bundle.objD) (by simp [Bundle.npeArmAtoms])) e.platform hpl
  obtain ⟨cellS, hcS', heS, -, hkeep⟩ := X.same.2.2.2.2.2 T.aS cellS0 hcS0
  have hcellS : W.heap[T.aS]? = some cellS := hcS'
  have hout' : ∀ i, (⟨T.aS, i⟩ : Loc) ∉ locs := fun i hmem => by
    have := hlocs _ hmem cellS0 hcS0
    rw [hiss] at this; cases this
  have hknownS : cellS.vm ≠ .unknown := by
    rw [heS]; intro hu
    rw [show cellS0.vm = .unknown from hu] at hiss
    cases hiss
  have hvU : cellS.slots[T.fUnassigned.slot]? = some u0.v := by rw [hkeep _ (hout' _)]; exact hu0
  have hvSen : cellS.slots[T.fSentinel.slot]? = some sen.v := by rw [hkeep _ (hout' _)]; exact hsen
  obtain ⟨tyC, dC, hdC, hdnC⟩ := Cond.laysAt hfound hk Y.cause (a' (.lays Bundle.nN Bundle.tN "cause" "Ljava/lang/Throwable;") (by simp [Bundle.npeArmAtoms]))
  obtain ⟨tyS, dS, hdS, hdnS⟩ := Cond.laysAt hfound hk Y.stack (a' (.lays Bundle.nN Bundle.tN "stackTrace" Bundle.steD) (by simp [Bundle.npeArmAtoms]))
  obtain ⟨tyP, dP, hdP, hdnP⟩ := Cond.laysAt hfound hk Y.supp (a' (.lays Bundle.nN Bundle.tN "suppressedExceptions" Bundle.listD) (by simp [Bundle.npeArmAtoms]))
  obtain ⟨tyX, dX, hdX, hdnX⟩ := Cond.laysAt hfound hk hffS (a' (.lays Bundle.nN Bundle.nN "extendedMessageState" "I") (by simp [Bundle.npeArmAtoms, Bundle.npeAtoms]))
  obtain ⟨hnX, htX⟩ := State.fieldFound?_type hffS (t := .int) (by decide +kernel)
  have xC := Cond.laysApart hdC hdX hdnC hdnX (by rw [hnX, Y.causeName]; decide)
  have xS := Cond.laysApart hdS hdX hdnS hdnX (by rw [hnX, Y.stackName]; decide)
  have xP := Cond.laysApart hdP hdX hdnP hdnX (by rw [hnX, Y.suppName]; decide)
  have hv0 : (freshCell P1.m.cls N.kN).slots[N.fState.slot]? = some (.int 0) := by
    have := fresh_default (c := P1.m.cls) tyX
    rw [htX] at this; exact this
  obtain ⟨tyB, dB, hdB, hdnB⟩ := Cond.laysAt hfound hk hffB (a' (.lays Bundle.nN Bundle.tN "backtrace" Bundle.objD) (by simp [Bundle.npeArmAtoms]))
  have bC := Cond.laysApart hdB hdC hdnB hdnC (by rw [hnB, Y.causeName]; decide)
  have bS := Cond.laysApart hdB hdS hdnB hdnS (by rw [hnB, Y.stackName]; decide)
  have bP := Cond.laysApart hdB hdP hdnB hdnP (by rw [hnB, Y.suppName]; decide)
  have bX := Cond.laysApart hdB hdX hdnB hdnX (by rw [hnB, hnX]; decide)
  have hbk : ((npeCell N.toNpeT (preparedCellV T.toThrowableT (freshCell P1.m.cls N.kN) W.heap.size u0 sen) W.cur).withEntry W.cur).slots[fB.slot]? = some .null := by
    have := fresh_default (c := P1.m.cls) tyB
    rw [htB] at this
    simpa [npeCell, preparedCellV, Cell.setSlot, Cell.withEntry, Array.getElem?_setIfInBounds, bC, bS, bP, bX, bC.symm, bS.symm, bP.symm, bX.symm, defaultValue] using this
  have tkC := Takes.of_laid (v := .ref W.heap.size) hk hordN tyC (by rw [Y.causeType]; rfl)
  have tkS := Takes.of_laid (v := u0.v) hk hordN tyS (by rw [Y.stackType]; exact fits_refV_array _ u0)
  have tkP := Takes.of_laid (v := sen.v) hk hordN tyP (by rw [Y.suppType]; exact fits_refV_object _ sen)
  have tkX := Takes.of_laid (v := .int 1) hk hordN tyX (by rw [htX]; rfl)
  have hskip : SkipFacts T e.platform s (fun u => u) u0 ((npeCell N.toNpeT (preparedCellV T.toThrowableT (freshCell P1.m.cls N.kN) W.heap.size u0 sen) W.cur).withEntry W.cur) := ⟨{ ci198 := ci198, i198 := i198, fBack := fB }, ⟨hk198, hg198, ha198, hsB⟩, hbk, fun _ _ => rfl⟩
  obtain ⟨vm', X3, st, -⟩ := X.throwsNpeColdBareVAt hexec hg hsize T L Z LZ N LN P1 L1 [PR, PE] hLs hlink1 ⟨hlinkR, hlinkE, trivial⟩ hfound hk hinit hordN hctor hsel0 hselF hcellS hknownS hvU hvSen
    hv0 xC xS xP tkC tkS tkP tkX Y.objLocals hskip (fun _ _ hA hW _ hroom _ hrest => L.nativeOff p htr hA hW hroom hrest) (by simpa using hRframes) hRlocals (by simp) hRcells (by rw [hn]; exact hRslots)
  have hlt : W.heap.size < ((W.pushCell (freshCell P1.m.cls N.kN)).setVm vm').heap.size := by
    show W.heap.size < (W.pushCell (freshCell P1.m.cls N.kN)).heap.size
    rw [State.heap_size_pushCell]; omega
  rw [hfsz] at X3
  obtain ⟨g₁, hfrM⟩ := X3.frames_eq
  have hU : ((((W.pushCell (freshCell P1.m.cls N.kN)).setVm vm').setCell W.heap.size (npeBareV T.toThrowableT N.toNpeT (freshCell P1.m.cls N.kN) W.heap.size u0 sen)).setTop g).pushFrame (.throwing W.heap.size) = (((W.pushCell (freshCell P1.m.cls N.kN)).setVm vm').setCell W.heap.size (npeBareV T.toThrowableT N.toNpeT (freshCell P1.m.cls N.kN) W.heap.size u0 sen)).setFrames (.throwing W.heap.size :: .java g :: below) := by
    rw [State.pushFrame, State.frames_setTop _ hfrM, State.setTop_of_frames _ hfrM, State.setFrames_setFrames]
  refine ⟨_, W.heap.size, _, fun target ht => st.trans (by rw [← hU]; exact ht), X3.forget (fun y hy => ?_), heapAt_setCell_self _ hlt, hfound, rfl⟩
  simp only [List.mem_cons, List.not_mem_nil, or_false] at hy
  have hge : s.heap.size ≤ W.heap.size := X.same.2.1
  rcases hy with rfl | rfl | rfl | rfl | rfl <;> exact hge
/-- the words of a machine's NullPointerException, but the four that speak of the heap -/
def vx_atN (n : Nat) : List Cond := (Bundle.npeArmAtoms n).filter vx_no
/-- the words of a machine's throw with a message, but the four that speak of the heap -/
def vx_atM (X : String) (names : List String) : List Cond := (Bundle.messageArmAtoms X names).filter vx_no
section
variable {p : Program} {l : Launch} {e : Env} {R : Room} {s : State} {m : MethodId} {args : Array Value} {below : List Frame} {meth : Method} {c : Code} {H : Heap} {locs : List Loc} {cells slots : Nat}
/-- a frame seen from a rebased start, seen from the first start again -/
theorem vx_back9 {T S : State} {R' : Room} {k n : Nat} (X : Stand p l e R s m args below meth c T locs cells slots) (Y : Stand p l e R' ((T.setVm s.vm).setFrames (.invoking m args :: below)) m args below meth c T [] 0 0) (Z : Stand p l e R' ((T.setVm s.vm).setFrames (.invoking m args :: below)) m args below meth c S [] k n) :
    Stand p l e R s m args below meth c S locs (cells + k) (slots + n) := by
  have hW0 : s.WarmedH ((T.setVm s.vm).setFrames (.invoking m args :: below)).vm := State.WarmedH.refl s
  refine { admits := X.admits, cas := X.cas, clock := X.clock, frames := X.frames, room := X.room, hears := X.hears, method := X.method, code := X.code, here := Z.here, tail := Z.tail, warmed := State.WarmedH.trans hW0 Z.warmed, limits := Z.limits.trans (Y.limits.symm.trans X.limits), bytes := Z.bytes.trans (Y.bytes.symm.trans X.bytes), same := ?_ }
  obtain ⟨e1, e2⟩ := Z.same
  rw [State.setFrames_setFrames] at e1
  have h2 : (T.setVm s.vm).sameButNew (S.setVm s.vm) [] k n := ⟨e1, e2⟩
  have h3 := X.same.trans h2
  rw [List.append_nil] at h3
  exact h3
/-- from the machine's note that E is thrown here with this text -/
def vx_Note (p : Program) (l : Launch) (e : Env) (R : Room) (s : State) (m : MethodId) (args : Array Value) (below : List Frame) (meth : Method) (c : Code) (H : Heap) (locs : List Loc) (cells slots : Nat) (Q : State → Prop) (g : JFrame) (E text : String) : Prop :=
  ∀ T : State, T.heap = H → Stand p l e R s m args below meth c T locs cells slots → ∃ t, Steps p.tables e below ((T.setTop g).pushFrame (.throwNew E (some text) none)) t ∧ Q t
theorem vx_vm {pc : Nat} {ls : Array Slot} {rest : List Value} {Q : State → Prop} (hexec : p.tables.exec = Jvm.exec) (hl : l.stackTraces = false) {cls text : String} {names : List String} {nb : Nat} {A : Nat → Prop}
    (hcls : Bundle.fit cls = true) (hnames : ∀ n ∈ names, Bundle.fit n = true) (hsoe : (cls == "java/lang/StackOverflowError") = false) (hoom : (cls == "java/lang/OutOfMemoryError") = false)
    (hat : ∀ w ∈ vx_atM cls names, w.before args s = true) (hgood : ∀ w ∈ vx_atM cls names, vx_ot w = true)
    (hU : vx_Zq Bundle.tN "UNASSIGNED_STACK" Bundle.steD A s s.heap) (hN : vx_Zq Bundle.tN "SUPPRESSED_SENTINEL" Bundle.listD A s s.heap) (hS : va_S A s.heap H locs) (hsize : ls.size = c.maxLocals)
    (htext : (text == notModelled) = false) (hnb : (stringBytes (stringToUtf16 text)).size ≤ nb) (hnb1 : nb ≤ 1000)
    (hRframes : names.length + 4 < R.frames) (hRlocals : (rest.map fun v => v.category).sum + 10240 ≤ R.locals) (hshort : 13 * names.length + 55 ≤ 10240) (hRcells : cells + 3 ≤ R.cells) (hRslots : slots + (nb + 10) ≤ R.slots) (hlocks : meth.locks = false)
    (k : ∀ (H1 : Heap) (q9 : Addr) (ce : Cell), H.size ≤ H1.size → (∀ q : Nat, q < H.size → H1[q]? = H[q]?) → va_S A s.heap H1 locs → H1[q9]? = some ce → ce.vm = .none → s.vm.findClass cls = some ce.cls → vx_W p l e R s m args below meth c H1 locs (cells + 3) (slots + (nb + 10)) Q (F0 m pc ls rest) q9) :
    vx_Note p l e R s m args below meth c H locs cells slots Q (F0 m pc ls rest) cls text := by
  intro T hT X
  have htr : e.platform.stackTraces = false := (show e.platform.stackTraces = l.stackTraces by rw [X.admits.platform]).trans hl
  have Y := vx_rebase X (R' := { frames := R.frames, locals := R.locals, cells := 3, slots := nb + 10 }) (Nat.le_refl _) (Nat.le_refl _) hRcells hRslots
  have hhp : ((T.setVm s.vm).setFrames (.invoking m args :: below)).heap = H := hT
  have hW0 : s.WarmedH ((T.setVm s.vm).setFrames (.invoking m args :: below)).vm := State.WarmedH.refl s
  have hat' : ∀ w ∈ vx_atM cls names, w.before args ((T.setVm s.vm).setFrames (.invoking m args :: below)) = true := fun w hw => vx_ot_at hW0 rfl (hgood w hw) (hat w hw)
  have hU' : vx_Zq Bundle.tN "UNASSIGNED_STACK" Bundle.steD A ((T.setVm s.vm).setFrames (.invoking m args :: below)) ((T.setVm s.vm).setFrames (.invoking m args :: below)).heap := by rw [hhp]; exact vx_Zq.moved hW0.alike (hU.kept hS.2.1)
  have hN' : vx_Zq Bundle.tN "SUPPRESSED_SENTINEL" Bundle.listD A ((T.setVm s.vm).setFrames (.invoking m args :: below)) ((T.setVm s.vm).setFrames (.invoking m args :: below)).heap := by rw [hhp]; exact vx_Zq.moved hW0.alike (hN.kept hS.2.1)
  obtain ⟨S, q, ce, st, Z, hce, hcl', hv⟩ := vx_vmAt Y hexec htr (cls := cls) (names := names) (text := text) hcls hnames hsoe hoom (vx_own hat' (vx_isRefq hU'.1) (vx_isRefq hN'.1) hU'.2.word hN'.2.word) (fun x hx => nomatch hx) htext
    (by rw [Launch.admits_arrayLengthLimit X.admits]; omega) (by rw [Launch.admits_maxHeapBytes X.admits]; simp only [componentBytes]; omega)
    (g := F0 m pc ls rest) rfl hsize hRframes (by show 2 * 0 + (rest.map fun v => v.category).sum + 10240 ≤ R.locals; omega) hshort (by show 0 + 3 ≤ 3; omega) (by show 0 + (_ + 4 + 6) ≤ nb + 10; omega) hlocks
  obtain ⟨f1, f2⟩ := vx_frame Z.same
  have f1' : H.size ≤ S.heap.size := by rw [← hT]; exact f1
  have f2' : ∀ q : Nat, q < H.size → S.heap[q]? = H[q]? := fun q hq => by
    rw [← hT]
    exact f2 q (by rw [← hT] at hq; exact hq) (fun z hz => nomatch hz)
  have X5 := vx_back9 X Y Z
  have X6 : Stand p l e R s m args below meth c S locs (cells + 3) (slots + (nb + 10)) := { X5 with same := X5.same.mono (by omega) (by omega) }
  obtain ⟨t, a1, b1⟩ := k S.heap q ce f1' f2' ⟨Nat.le_trans hS.1 f1', fun q h1 h2 => (f2' q (Nat.lt_of_lt_of_le h1 hS.1)).trans (hS.2.1 q h1 h2), hS.2.2⟩ hce hv hcl' S rfl X6
  exact ⟨t, st t a1, b1⟩
/-- from the machine's note that NullPointerException is thrown here -/
def vx_NoteN (p : Program) (l : Launch) (e : Env) (R : Room) (s : State) (m : MethodId) (args : Array Value) (below : List Frame) (meth : Method) (c : Code) (H : Heap) (locs : List Loc) (cells slots : Nat) (Q : State → Prop) (g : JFrame) : Prop :=
  ∀ T : State, T.heap = H → Stand p l e R s m args below meth c T locs cells slots → ∃ t, Steps p.tables e below ((T.setTop g).pushFrame (.throwNew "java/lang/NullPointerException" none none)) t ∧ Q t
theorem vx_npe {pc : Nat} {ls : Array Slot} {rest : List Value} {Q : State → Prop} (hexec : p.tables.exec = Jvm.exec) (hl : l.stackTraces = false) {nb : Nat} {A : Nat → Prop}
    (hat : ∀ w ∈ vx_atN nb, w.before args s = true) (hgood : ∀ w ∈ vx_atN nb, vx_ot w = true)
    (hU : vx_Zq Bundle.tN "UNASSIGNED_STACK" Bundle.steD A s s.heap) (hN : vx_Zq Bundle.tN "SUPPRESSED_SENTINEL" Bundle.listD A s s.heap) (hS : va_S A s.heap H locs) (hsize : ls.size = c.maxLocals)
    (hRframes : 7 < R.frames) (hRlocals : (rest.map fun v => v.category).sum + 10240 ≤ R.locals) (hRcells : cells + 1 ≤ R.cells) (hRslots : slots + nb ≤ R.slots) (hlocks : meth.locks = false)
    (k : ∀ (H1 : Heap) (q9 : Addr) (ce : Cell), H.size ≤ H1.size → (∀ q : Nat, q < H.size → H1[q]? = H[q]?) → va_S A s.heap H1 locs → H1[q9]? = some ce → ce.vm = .none → s.vm.findClass "java/lang/NullPointerException" = some ce.cls → vx_W p l e R s m args below meth c H1 locs (cells + 1) (slots + nb) Q (F0 m pc ls rest) q9) :
    vx_NoteN p l e R s m args below meth c H locs cells slots Q (F0 m pc ls rest) := by
  intro T hT X
  have htr : e.platform.stackTraces = false := (show e.platform.stackTraces = l.stackTraces by rw [X.admits.platform]).trans hl
  have Y := vx_rebase X (R' := { frames := R.frames, locals := R.locals, cells := 1, slots := nb }) (Nat.le_refl _) (Nat.le_refl _) hRcells hRslots
  have hhp : ((T.setVm s.vm).setFrames (.invoking m args :: below)).heap = H := hT
  have hW0 : s.WarmedH ((T.setVm s.vm).setFrames (.invoking m args :: below)).vm := State.WarmedH.refl s
  have hat' : ∀ w ∈ vx_atN nb, w.before args ((T.setVm s.vm).setFrames (.invoking m args :: below)) = true := fun w hw => vx_ot_at hW0 rfl (hgood w hw) (hat w hw)
  have hU' : vx_Zq Bundle.tN "UNASSIGNED_STACK" Bundle.steD A ((T.setVm s.vm).setFrames (.invoking m args :: below)) ((T.setVm s.vm).setFrames (.invoking m args :: below)).heap := by rw [hhp]; exact vx_Zq.moved hW0.alike (hU.kept hS.2.1)
  have hN' : vx_Zq Bundle.tN "SUPPRESSED_SENTINEL" Bundle.listD A ((T.setVm s.vm).setFrames (.invoking m args :: below)) ((T.setVm s.vm).setFrames (.invoking m args :: below)).heap := by rw [hhp]; exact vx_Zq.moved hW0.alike (hN.kept hS.2.1)
  obtain ⟨S, q, ce, st, Z, hce, hcl', hv⟩ := vx_npeAt Y hexec htr (n := nb) (vx_own hat' (vx_isRefq hU'.1) (vx_isRefq hN'.1) hU'.2.word hN'.2.word) (fun x hx => nomatch hx)
    (g := F0 m pc ls rest) rfl hsize hRframes (by show 2 * 0 + (rest.map fun v => v.category).sum + 10240 ≤ R.locals; omega) (by show 0 + 1 ≤ 1; omega) (by show 0 + nb ≤ nb; omega) hlocks
  obtain ⟨f1, f2⟩ := vx_frame Z.same
  have f1' : H.size ≤ S.heap.size := by rw [← hT]; exact f1
  have f2' : ∀ q : Nat, q < H.size → S.heap[q]? = H[q]? := fun q hq => by
    rw [← hT]
    exact f2 q (by rw [← hT] at hq; exact hq) (fun z hz => nomatch hz)
  have X5 := vx_back9 X Y Z
  have X6 : Stand p l e R s m args below meth c S locs (cells + 1) (slots + nb) := { X5 with same := X5.same.mono (by omega) (by omega) }
  obtain ⟨t, a1, b1⟩ := k S.heap q ce f1' f2' ⟨Nat.le_trans hS.1 f1', fun q h1 h2 => (f2' q (Nat.lt_of_lt_of_le h1 hS.1)).trans (hS.2.1 q h1 h2), hS.2.2⟩ hce hv hcl' S rfl X6
  exact ⟨t, st t a1, b1⟩
variable {Q : State → Prop} {cc : ByteArray} {pc : Nat} {ls : Array Slot} {rest : List Value}
theorem vx_idivZ (hexec : p.tables.exec = Jvm.exec) (hb : c.code = cc) {a b : Int32} (h0 : b = 0) (d : decode cc pc = .ok (.idiv, 1)) (k : vx_Note p l e R s m args below meth c H locs cells slots Q (F0 m pc ls rest) "java/lang/ArithmeticException" "/ by zero") :
    W p l e R s m args below meth c H locs cells slots Q (F0 m pc ls (.int b :: .int a :: rest)) := by
  intro T hT X
  obtain ⟨t, st, q⟩ := k T hT X
  exact ⟨t, X.idivZero hexec (g := F0 m pc ls (.int b :: .int a :: rest)) rfl (a := a) (rest := rest) (by rw [h0]) (by rw [hb]; exact d) t st, q⟩
theorem vx_iremZ (hexec : p.tables.exec = Jvm.exec) (hb : c.code = cc) {a b : Int32} (h0 : b = 0) (d : decode cc pc = .ok (.irem, 1)) (k : vx_Note p l e R s m args below meth c H locs cells slots Q (F0 m pc ls rest) "java/lang/ArithmeticException" "/ by zero") :
    W p l e R s m args below meth c H locs cells slots Q (F0 m pc ls (.int b :: .int a :: rest)) := by
  intro T hT X
  obtain ⟨t, st, q⟩ := k T hT X
  exact ⟨t, X.iremZero hexec (g := F0 m pc ls (.int b :: .int a :: rest)) rfl (a := a) (rest := rest) (by rw [h0]) (by rw [hb]; exact d) t st, q⟩
theorem vx_ldivZ (hexec : p.tables.exec = Jvm.exec) (hb : c.code = cc) {a b : Int64} (h0 : b = 0) (d : decode cc pc = .ok (.ldiv, 1)) (k : vx_Note p l e R s m args below meth c H locs cells slots Q (F0 m pc ls rest) "java/lang/ArithmeticException" "/ by zero") :
    W p l e R s m args below meth c H locs cells slots Q (F0 m pc ls (.long b :: .long a :: rest)) := by
  intro T hT X
  obtain ⟨t, st, q⟩ := k T hT X
  exact ⟨t, X.ldivZero hexec (g := F0 m pc ls (.long b :: .long a :: rest)) rfl (a := a) (rest := rest) (by rw [h0]) (by rw [hb]; exact d) t st, q⟩
theorem vx_lremZ (hexec : p.tables.exec = Jvm.exec) (hb : c.code = cc) {a b : Int64} (h0 : b = 0) (d : decode cc pc = .ok (.lrem, 1)) (k : vx_Note p l e R s m args below meth c H locs cells slots Q (F0 m pc ls rest) "java/lang/ArithmeticException" "/ by zero") :
    W p l e R s m args below meth c H locs cells slots Q (F0 m pc ls (.long b :: .long a :: rest)) := by
  intro T hT X
  obtain ⟨t, st, q⟩ := k T hT X
  exact ⟨t, X.lremZero hexec (g := F0 m pc ls (.long b :: .long a :: rest)) rfl (a := a) (rest := rest) (by rw [h0]) (by rw [hb]; exact d) t st, q⟩
theorem vx_ialdZ {D : va_G} {cl : List vw_C} {ws : va_W} {tys : List (ClassId × FieldType)} {a : Nat} (hexec : p.tables.exec = Jvm.exec) (hb : c.code = cc) (hK : va_K D cl tys s) (hP : va_P D cl ws H) (q0 t0 : Nat) {cA : ClassId} {n : Nat} {f : Nat → Int32} (ha : ws[q0]? = some (a, .inl (cA, n, .inl f))) (ht : tys[t0]? = some (cA, .int)) {i : Int32} (hout : ¬ vp_in i n) (hdg : decode cc pc = .ok (.iaload, 1))
    (k : ∀ tx : String, tx = (toString "Index " ++ toString i ++ toString " out of bounds for length " ++ toString n : String) → vx_Note p l e R s m args below meth c H locs cells slots Q (F0 m pc ls rest) "java/lang/ArrayIndexOutOfBoundsException" tx) : W p l e R s m args below meth c H locs cells slots Q (F0 m pc ls (.int i :: .ref a :: rest)) := by
  intro T hT X
  obtain ⟨t, st, q⟩ := k _ rfl T hT X
  refine ⟨t, ?_, q⟩
  have h1 := X.ialoadOut hexec (by rw [hT]; exact hP q0 _ ha) ((hK.2 t0 _ ht).1 n (fun j => .int (f j))) (j := i) (by show (i < 0 ∨ (arrV _ _ _).slots.size ≤ _); rw [arrV_size]; exact Classical.byContradiction hout) (g := F0 m pc ls (.int i :: .ref a :: rest)) rfl (rest := rest) rfl (by rw [hb]; exact hdg) t
  simp only [arrV_size] at h1
  exact h1 st
theorem vx_iastZ {D : va_G} {cl : List vw_C} {ws : va_W} {tys : List (ClassId × FieldType)} {a : Nat} (hexec : p.tables.exec = Jvm.exec) (hb : c.code = cc) (hK : va_K D cl tys s) (hP : va_P D cl ws H) (q0 t0 : Nat) {cA : ClassId} {n : Nat} {f : Nat → Int32} (ha : ws[q0]? = some (a, .inl (cA, n, .inl f))) (ht : tys[t0]? = some (cA, .int)) {i : Int32} {x : Int32} (hout : ¬ vp_in i n) (hdg : decode cc pc = .ok (.iastore, 1))
    (k : ∀ tx : String, tx = (toString "Index " ++ toString i ++ toString " out of bounds for length " ++ toString n : String) → vx_Note p l e R s m args below meth c H locs cells slots Q (F0 m pc ls rest) "java/lang/ArrayIndexOutOfBoundsException" tx) : W p l e R s m args below meth c H locs cells slots Q (F0 m pc ls (.int x :: .int i :: .ref a :: rest)) := by
  intro T hT X
  obtain ⟨t, st, q⟩ := k _ rfl T hT X
  refine ⟨t, ?_, q⟩
  have h1 := X.iastoreOut hexec (by rw [hT]; exact hP q0 _ ha) ((hK.2 t0 _ ht).1 n (fun j => .int (f j))) (j := i) (by show (i < 0 ∨ (arrV _ _ _).slots.size ≤ _); rw [arrV_size]; exact Classical.byContradiction hout) (g := F0 m pc ls (.int x :: .int i :: .ref a :: rest)) rfl (rest := rest) rfl (by rw [hb]; exact hdg) t
  simp only [arrV_size] at h1
  exact h1 st
theorem vx_baldZ {D : va_G} {cl : List vw_C} {ws : va_W} {tys : List (ClassId × FieldType)} {a : Nat} (hexec : p.tables.exec = Jvm.exec) (hb : c.code = cc) (hK : va_K D cl tys s) (hP : va_P D cl ws H) (q0 t0 : Nat) {cA : ClassId} {n : Nat} {f : Nat → Int32} (ha : ws[q0]? = some (a, .inl (cA, n, .inl f))) (ht : tys[t0]? = some (cA, .byte)) {i : Int32} (hout : ¬ vp_in i n) (hdg : decode cc pc = .ok (.baload, 1))
    (k : ∀ tx : String, tx = (toString "Index " ++ toString i ++ toString " out of bounds for length " ++ toString n : String) → vx_Note p l e R s m args below meth c H locs cells slots Q (F0 m pc ls rest) "java/lang/ArrayIndexOutOfBoundsException" tx) : W p l e R s m args below meth c H locs cells slots Q (F0 m pc ls (.int i :: .ref a :: rest)) := by
  intro T hT X
  obtain ⟨t, st, q⟩ := k _ rfl T hT X
  refine ⟨t, ?_, q⟩
  have h1 := X.baloadOut hexec (by rw [hT]; exact hP q0 _ ha) ((hK.2 t0 _ ht).1 n (fun j => .int (f j))) (j := i) (by show (i < 0 ∨ (arrV _ _ _).slots.size ≤ _); rw [arrV_size]; exact Classical.byContradiction hout) (g := F0 m pc ls (.int i :: .ref a :: rest)) rfl (rest := rest) rfl (by rw [hb]; exact hdg) t
  simp only [arrV_size] at h1
  exact h1 st
theorem vx_bastZ {D : va_G} {cl : List vw_C} {ws : va_W} {tys : List (ClassId × FieldType)} {a : Nat} (hexec : p.tables.exec = Jvm.exec) (hb : c.code = cc) (hK : va_K D cl tys s) (hP : va_P D cl ws H) (q0 t0 : Nat) {cA : ClassId} {n : Nat} {f : Nat → Int32} (ha : ws[q0]? = some (a, .inl (cA, n, .inl f))) (ht : tys[t0]? = some (cA, .byte)) {i : Int32} {x : Int32} (hout : ¬ vp_in i n) (hdg : decode cc pc = .ok (.bastore, 1))
    (k : ∀ tx : String, tx = (toString "Index " ++ toString i ++ toString " out of bounds for length " ++ toString n : String) → vx_Note p l e R s m args below meth c H locs cells slots Q (F0 m pc ls rest) "java/lang/ArrayIndexOutOfBoundsException" tx) : W p l e R s m args below meth c H locs cells slots Q (F0 m pc ls (.int x :: .int i :: .ref a :: rest)) := by
  intro T hT X
  obtain ⟨t, st, q⟩ := k _ rfl T hT X
  refine ⟨t, ?_, q⟩
  have h1 := X.bastoreOut hexec (by rw [hT]; exact hP q0 _ ha) ((hK.2 t0 _ ht).1 n (fun j => .int (f j))) (j := i) (by show (i < 0 ∨ (arrV _ _ _).slots.size ≤ _); rw [arrV_size]; exact Classical.byContradiction hout) (g := F0 m pc ls (.int x :: .int i :: .ref a :: rest)) rfl (rest := rest) rfl (by rw [hb]; exact hdg) t
  simp only [arrV_size] at h1
  exact h1 st
theorem vx_zaldZ {D : va_G} {cl : List vw_C} {ws : va_W} {tys : List (ClassId × FieldType)} {a : Nat} (hexec : p.tables.exec = Jvm.exec) (hb : c.code = cc) (hK : va_K D cl tys s) (hP : va_P D cl ws H) (q0 t0 : Nat) {cA : ClassId} {n : Nat} {f : Nat → Int32} (ha : ws[q0]? = some (a, .inl (cA, n, .inl f))) (ht : tys[t0]? = some (cA, .boolean)) {i : Int32} (hout : ¬ vp_in i n) (hdg : decode cc pc = .ok (.baload, 1))
    (k : ∀ tx : String, tx = (toString "Index " ++ toString i ++ toString " out of bounds for length " ++ toString n : String) → vx_Note p l e R s m args below meth c H locs cells slots Q (F0 m pc ls rest) "java/lang/ArrayIndexOutOfBoundsException" tx) : W p l e R s m args below meth c H locs cells slots Q (F0 m pc ls (.int i :: .ref a :: rest)) := by
  intro T hT X
  obtain ⟨t, st, q⟩ := k _ rfl T hT X
  refine ⟨t, ?_, q⟩
  have h1 := X.baloadOut hexec (by rw [hT]; exact hP q0 _ ha) ((hK.2 t0 _ ht).1 n (fun j => .int (f j))) (j := i) (by show (i < 0 ∨ (arrV _ _ _).slots.size ≤ _); rw [arrV_size]; exact Classical.byContradiction hout) (g := F0 m pc ls (.int i :: .ref a :: rest)) rfl (rest := rest) rfl (by rw [hb]; exact hdg) t
  simp only [arrV_size] at h1
  exact h1 st
theorem vx_zastZ {D : va_G} {cl : List vw_C} {ws : va_W} {tys : List (ClassId × FieldType)} {a : Nat} (hexec : p.tables.exec = Jvm.exec) (hb : c.code = cc) (hK : va_K D cl tys s) (hP : va_P D cl ws H) (q0 t0 : Nat) {cA : ClassId} {n : Nat} {f : Nat → Int32} (ha : ws[q0]? = some (a, .inl (cA, n, .inl f))) (ht : tys[t0]? = some (cA, .boolean)) {i : Int32} {x : Int32} (hout : ¬ vp_in i n) (hdg : decode cc pc = .ok (.bastore, 1))
    (k : ∀ tx : String, tx = (toString "Index " ++ toString i ++ toString " out of bounds for length " ++ toString n : String) → vx_Note p l e R s m args below meth c H locs cells slots Q (F0 m pc ls rest) "java/lang/ArrayIndexOutOfBoundsException" tx) : W p l e R s m args below meth c H locs cells slots Q (F0 m pc ls (.int x :: .int i :: .ref a :: rest)) := by
  intro T hT X
  obtain ⟨t, st, q⟩ := k _ rfl T hT X
  refine ⟨t, ?_, q⟩
  have h1 := X.bastoreOut hexec (by rw [hT]; exact hP q0 _ ha) ((hK.2 t0 _ ht).1 n (fun j => .int (f j))) (j := i) (by show (i < 0 ∨ (arrV _ _ _).slots.size ≤ _); rw [arrV_size]; exact Classical.byContradiction hout) (g := F0 m pc ls (.int x :: .int i :: .ref a :: rest)) rfl (rest := rest) rfl (by rw [hb]; exact hdg) t
  simp only [arrV_size] at h1
  exact h1 st
theorem vx_caldZ {D : va_G} {cl : List vw_C} {ws : va_W} {tys : List (ClassId × FieldType)} {a : Nat} (hexec : p.tables.exec = Jvm.exec) (hb : c.code = cc) (hK : va_K D cl tys s) (hP : va_P D cl ws H) (q0 t0 : Nat) {cA : ClassId} {n : Nat} {f : Nat → Int32} (ha : ws[q0]? = some (a, .inl (cA, n, .inl f))) (ht : tys[t0]? = some (cA, .char)) {i : Int32} (hout : ¬ vp_in i n) (hdg : decode cc pc = .ok (.caload, 1))
    (k : ∀ tx : String, tx = (toString "Index " ++ toString i ++ toString " out of bounds for length " ++ toString n : String) → vx_Note p l e R s m args below meth c H locs cells slots Q (F0 m pc ls rest) "java/lang/ArrayIndexOutOfBoundsException" tx) : W p l e R s m args below meth c H locs cells slots Q (F0 m pc ls (.int i :: .ref a :: rest)) := by
  intro T hT X
  obtain ⟨t, st, q⟩ := k _ rfl T hT X
  refine ⟨t, ?_, q⟩
  have h1 := X.caloadOut hexec (by rw [hT]; exact hP q0 _ ha) ((hK.2 t0 _ ht).1 n (fun j => .int (f j))) (j := i) (by show (i < 0 ∨ (arrV _ _ _).slots.size ≤ _); rw [arrV_size]; exact Classical.byContradiction hout) (g := F0 m pc ls (.int i :: .ref a :: rest)) rfl (rest := rest) rfl (by rw [hb]; exact hdg) t
  simp only [arrV_size] at h1
  exact h1 st
theorem vx_castZ {D : va_G} {cl : List vw_C} {ws : va_W} {tys : List (ClassId × FieldType)} {a : Nat} (hexec : p.tables.exec = Jvm.exec) (hb : c.code = cc) (hK : va_K D cl tys s) (hP : va_P D cl ws H) (q0 t0 : Nat) {cA : ClassId} {n : Nat} {f : Nat → Int32} (ha : ws[q0]? = some (a, .inl (cA, n, .inl f))) (ht : tys[t0]? = some (cA, .char)) {i : Int32} {x : Int32} (hout : ¬ vp_in i n) (hdg : decode cc pc = .ok (.castore, 1))
    (k : ∀ tx : String, tx = (toString "Index " ++ toString i ++ toString " out of bounds for length " ++ toString n : String) → vx_Note p l e R s m args below meth c H locs cells slots Q (F0 m pc ls rest) "java/lang/ArrayIndexOutOfBoundsException" tx) : W p l e R s m args below meth c H locs cells slots Q (F0 m pc ls (.int x :: .int i :: .ref a :: rest)) := by
  intro T hT X
  obtain ⟨t, st, q⟩ := k _ rfl T hT X
  refine ⟨t, ?_, q⟩
  have h1 := X.castoreOut hexec (by rw [hT]; exact hP q0 _ ha) ((hK.2 t0 _ ht).1 n (fun j => .int (f j))) (j := i) (by show (i < 0 ∨ (arrV _ _ _).slots.size ≤ _); rw [arrV_size]; exact Classical.byContradiction hout) (g := F0 m pc ls (.int x :: .int i :: .ref a :: rest)) rfl (rest := rest) rfl (by rw [hb]; exact hdg) t
  simp only [arrV_size] at h1
  exact h1 st
theorem vx_saldZ {D : va_G} {cl : List vw_C} {ws : va_W} {tys : List (ClassId × FieldType)} {a : Nat} (hexec : p.tables.exec = Jvm.exec) (hb : c.code = cc) (hK : va_K D cl tys s) (hP : va_P D cl ws H) (q0 t0 : Nat) {cA : ClassId} {n : Nat} {f : Nat → Int32} (ha : ws[q0]? = some (a, .inl (cA, n, .inl f))) (ht : tys[t0]? = some (cA, .short)) {i : Int32} (hout : ¬ vp_in i n) (hdg : decode cc pc = .ok (.saload, 1))
    (k : ∀ tx : String, tx = (toString "Index " ++ toString i ++ toString " out of bounds for length " ++ toString n : String) → vx_Note p l e R s m args below meth c H locs cells slots Q (F0 m pc ls rest) "java/lang/ArrayIndexOutOfBoundsException" tx) : W p l e R s m args below meth c H locs cells slots Q (F0 m pc ls (.int i :: .ref a :: rest)) := by
  intro T hT X
  obtain ⟨t, st, q⟩ := k _ rfl T hT X
  refine ⟨t, ?_, q⟩
  have h1 := X.saloadOut hexec (by rw [hT]; exact hP q0 _ ha) ((hK.2 t0 _ ht).1 n (fun j => .int (f j))) (j := i) (by show (i < 0 ∨ (arrV _ _ _).slots.size ≤ _); rw [arrV_size]; exact Classical.byContradiction hout) (g := F0 m pc ls (.int i :: .ref a :: rest)) rfl (rest := rest) rfl (by rw [hb]; exact hdg) t
  simp only [arrV_size] at h1
  exact h1 st
theorem vx_sastZ {D : va_G} {cl : List vw_C} {ws : va_W} {tys : List (ClassId × FieldType)} {a : Nat} (hexec : p.tables.exec = Jvm.exec) (hb : c.code = cc) (hK : va_K D cl tys s) (hP : va_P D cl ws H) (q0 t0 : Nat) {cA : ClassId} {n : Nat} {f : Nat → Int32} (ha : ws[q0]? = some (a, .inl (cA, n, .inl f))) (ht : tys[t0]? = some (cA, .short)) {i : Int32} {x : Int32} (hout : ¬ vp_in i n) (hdg : decode cc pc = .ok (.sastore, 1))
    (k : ∀ tx : String, tx = (toString "Index " ++ toString i ++ toString " out of bounds for length " ++ toString n : String) → vx_Note p l e R s m args below meth c H locs cells slots Q (F0 m pc ls rest) "java/lang/ArrayIndexOutOfBoundsException" tx) : W p l e R s m args below meth c H locs cells slots Q (F0 m pc ls (.int x :: .int i :: .ref a :: rest)) := by
  intro T hT X
  obtain ⟨t, st, q⟩ := k _ rfl T hT X
  refine ⟨t, ?_, q⟩
  have h1 := X.sastoreOut hexec (by rw [hT]; exact hP q0 _ ha) ((hK.2 t0 _ ht).1 n (fun j => .int (f j))) (j := i) (by show (i < 0 ∨ (arrV _ _ _).slots.size ≤ _); rw [arrV_size]; exact Classical.byContradiction hout) (g := F0 m pc ls (.int x :: .int i :: .ref a :: rest)) rfl (rest := rest) rfl (by rw [hb]; exact hdg) t
  simp only [arrV_size] at h1
  exact h1 st
theorem vx_laldZ {D : va_G} {cl : List vw_C} {ws : va_W} {tys : List (ClassId × FieldType)} {a : Nat} (hexec : p.tables.exec = Jvm.exec) (hb : c.code = cc) (hK : va_K D cl tys s) (hP : va_P D cl ws H) (q0 t0 : Nat) {cA : ClassId} {n : Nat} {f : Nat → Int64} (ha : ws[q0]? = some (a, .inl (cA, n, .inr (.inl f)))) (ht : tys[t0]? = some (cA, .long)) {i : Int32} (hout : ¬ vp_in i n) (hdg : decode cc pc = .ok (.laload, 1))
    (k : ∀ tx : String, tx = (toString "Index " ++ toString i ++ toString " out of bounds for length " ++ toString n : String) → vx_Note p l e R s m args below meth c H locs cells slots Q (F0 m pc ls rest) "java/lang/ArrayIndexOutOfBoundsException" tx) : W p l e R s m args below meth c H locs cells slots Q (F0 m pc ls (.int i :: .ref a :: rest)) := by
  intro T hT X
  obtain ⟨t, st, q⟩ := k _ rfl T hT X
  refine ⟨t, ?_, q⟩
  have h1 := X.laloadOut hexec (by rw [hT]; exact hP q0 _ ha) ((hK.2 t0 _ ht).1 n (fun j => .long (f j))) (j := i) (by show (i < 0 ∨ (arrV _ _ _).slots.size ≤ _); rw [arrV_size]; exact Classical.byContradiction hout) (g := F0 m pc ls (.int i :: .ref a :: rest)) rfl (rest := rest) rfl (by rw [hb]; exact hdg) t
  simp only [arrV_size] at h1
  exact h1 st
theorem vx_lastZ {D : va_G} {cl : List vw_C} {ws : va_W} {tys : List (ClassId × FieldType)} {a : Nat} (hexec : p.tables.exec = Jvm.exec) (hb : c.code = cc) (hK : va_K D cl tys s) (hP : va_P D cl ws H) (q0 t0 : Nat) {cA : ClassId} {n : Nat} {f : Nat → Int64} (ha : ws[q0]? = some (a, .inl (cA, n, .inr (.inl f)))) (ht : tys[t0]? = some (cA, .long)) {i : Int32} {x : Int64} (hout : ¬ vp_in i n) (hdg : decode cc pc = .ok (.lastore, 1))
    (k : ∀ tx : String, tx = (toString "Index " ++ toString i ++ toString " out of bounds for length " ++ toString n : String) → vx_Note p l e R s m args below meth c H locs cells slots Q (F0 m pc ls rest) "java/lang/ArrayIndexOutOfBoundsException" tx) : W p l e R s m args below meth c H locs cells slots Q (F0 m pc ls (.long x :: .int i :: .ref a :: rest)) := by
  intro T hT X
  obtain ⟨t, st, q⟩ := k _ rfl T hT X
  refine ⟨t, ?_, q⟩
  have h1 := X.lastoreOut hexec (by rw [hT]; exact hP q0 _ ha) ((hK.2 t0 _ ht).1 n (fun j => .long (f j))) (j := i) (by show (i < 0 ∨ (arrV _ _ _).slots.size ≤ _); rw [arrV_size]; exact Classical.byContradiction hout) (g := F0 m pc ls (.long x :: .int i :: .ref a :: rest)) rfl (rest := rest) rfl (by rw [hb]; exact hdg) t
  simp only [arrV_size] at h1
  exact h1 st
theorem vx_faldZ {D : va_G} {cl : List vw_C} {ws : va_W} {tys : List (ClassId × FieldType)} {a : Nat} (hexec : p.tables.exec = Jvm.exec) (hb : c.code = cc) (hK : va_K D cl tys s) (hP : va_P D cl ws H) (q0 t0 : Nat) {cA : ClassId} {n : Nat} {f : Nat → UInt32} (ha : ws[q0]? = some (a, .inl (cA, n, .inr (.inr (.inl f))))) (ht : tys[t0]? = some (cA, .float)) {i : Int32} (hout : ¬ vp_in i n) (hdg : decode cc pc = .ok (.faload, 1))
    (k : ∀ tx : String, tx = (toString "Index " ++ toString i ++ toString " out of bounds for length " ++ toString n : String) → vx_Note p l e R s m args below meth c H locs cells slots Q (F0 m pc ls rest) "java/lang/ArrayIndexOutOfBoundsException" tx) : W p l e R s m args below meth c H locs cells slots Q (F0 m pc ls (.int i :: .ref a :: rest)) := by
  intro T hT X
  obtain ⟨t, st, q⟩ := k _ rfl T hT X
  refine ⟨t, ?_, q⟩
  have h1 := X.faloadOut hexec (by rw [hT]; exact hP q0 _ ha) ((hK.2 t0 _ ht).1 n (fun j => .float (f j))) (j := i) (by show (i < 0 ∨ (arrV _ _ _).slots.size ≤ _); rw [arrV_size]; exact Classical.byContradiction hout) (g := F0 m pc ls (.int i :: .ref a :: rest)) rfl (rest := rest) rfl (by rw [hb]; exact hdg) t
  simp only [arrV_size] at h1
  exact h1 st
theorem vx_fastZ {D : va_G} {cl : List vw_C} {ws : va_W} {tys : List (ClassId × FieldType)} {a : Nat} (hexec : p.tables.exec = Jvm.exec) (hb : c.code = cc) (hK : va_K D cl tys s) (hP : va_P D cl ws H) (q0 t0 : Nat) {cA : ClassId} {n : Nat} {f : Nat → UInt32} (ha : ws[q0]? = some (a, .inl (cA, n, .inr (.inr (.inl f))))) (ht : tys[t0]? = some (cA, .float)) {i : Int32} {x : UInt32} (hout : ¬ vp_in i n) (hdg : decode cc pc = .ok (.fastore, 1))
    (k : ∀ tx : String, tx = (toString "Index " ++ toString i ++ toString " out of bounds for length " ++ toString n : String) → vx_Note p l e R s m args below meth c H locs cells slots Q (F0 m pc ls rest) "java/lang/ArrayIndexOutOfBoundsException" tx) : W p l e R s m args below meth c H locs cells slots Q (F0 m pc ls (.float x :: .int i :: .ref a :: rest)) := by
  intro T hT X
  obtain ⟨t, st, q⟩ := k _ rfl T hT X
  refine ⟨t, ?_, q⟩
  have h1 := X.fastoreOut hexec (by rw [hT]; exact hP q0 _ ha) ((hK.2 t0 _ ht).1 n (fun j => .float (f j))) (j := i) (by show (i < 0 ∨ (arrV _ _ _).slots.size ≤ _); rw [arrV_size]; exact Classical.byContradiction hout) (g := F0 m pc ls (.float x :: .int i :: .ref a :: rest)) rfl (rest := rest) rfl (by rw [hb]; exact hdg) t
  simp only [arrV_size] at h1
  exact h1 st
theorem vx_daldZ {D : va_G} {cl : List vw_C} {ws : va_W} {tys : List (ClassId × FieldType)} {a : Nat} (hexec : p.tables.exec = Jvm.exec) (hb : c.code = cc) (hK : va_K D cl tys s) (hP : va_P D cl ws H) (q0 t0 : Nat) {cA : ClassId} {n : Nat} {f : Nat → UInt64} (ha : ws[q0]? = some (a, .inl (cA, n, .inr (.inr (.inr (.inl f)))))) (ht : tys[t0]? = some (cA, .double)) {i : Int32} (hout : ¬ vp_in i n) (hdg : decode cc pc = .ok (.daload, 1))
    (k : ∀ tx : String, tx = (toString "Index " ++ toString i ++ toString " out of bounds for length " ++ toString n : String) → vx_Note p l e R s m args below meth c H locs cells slots Q (F0 m pc ls rest) "java/lang/ArrayIndexOutOfBoundsException" tx) : W p l e R s m args below meth c H locs cells slots Q (F0 m pc ls (.int i :: .ref a :: rest)) := by
  intro T hT X
  obtain ⟨t, st, q⟩ := k _ rfl T hT X
  refine ⟨t, ?_, q⟩
  have h1 := X.daloadOut hexec (by rw [hT]; exact hP q0 _ ha) ((hK.2 t0 _ ht).1 n (fun j => .double (f j))) (j := i) (by show (i < 0 ∨ (arrV _ _ _).slots.size ≤ _); rw [arrV_size]; exact Classical.byContradiction hout) (g := F0 m pc ls (.int i :: .ref a :: rest)) rfl (rest := rest) rfl (by rw [hb]; exact hdg) t
  simp only [arrV_size] at h1
  exact h1 st
theorem vx_dastZ {D : va_G} {cl : List vw_C} {ws : va_W} {tys : List (ClassId × FieldType)} {a : Nat} (hexec : p.tables.exec = Jvm.exec) (hb : c.code = cc) (hK : va_K D cl tys s) (hP : va_P D cl ws H) (q0 t0 : Nat) {cA : ClassId} {n : Nat} {f : Nat → UInt64} (ha : ws[q0]? = some (a, .inl (cA, n, .inr (.inr (.inr (.inl f)))))) (ht : tys[t0]? = some (cA, .double)) {i : Int32} {x : UInt64} (hout : ¬ vp_in i n) (hdg : decode cc pc = .ok (.dastore, 1))
    (k : ∀ tx : String, tx = (toString "Index " ++ toString i ++ toString " out of bounds for length " ++ toString n : String) → vx_Note p l e R s m args below meth c H locs cells slots Q (F0 m pc ls rest) "java/lang/ArrayIndexOutOfBoundsException" tx) : W p l e R s m args below meth c H locs cells slots Q (F0 m pc ls (.double x :: .int i :: .ref a :: rest)) := by
  intro T hT X
  obtain ⟨t, st, q⟩ := k _ rfl T hT X
  refine ⟨t, ?_, q⟩
  have h1 := X.dastoreOut hexec (by rw [hT]; exact hP q0 _ ha) ((hK.2 t0 _ ht).1 n (fun j => .double (f j))) (j := i) (by show (i < 0 ∨ (arrV _ _ _).slots.size ≤ _); rw [arrV_size]; exact Classical.byContradiction hout) (g := F0 m pc ls (.double x :: .int i :: .ref a :: rest)) rfl (rest := rest) rfl (by rw [hb]; exact hdg) t
  simp only [arrV_size] at h1
  exact h1 st
theorem vx_arraylengthN (hexec : p.tables.exec = Jvm.exec) (hb : c.code = cc) (hdg : decode cc pc = .ok (.arraylength, 1)) (k : vx_NoteN p l e R s m args below meth c H locs cells slots Q (F0 m pc ls rest)) : W p l e R s m args below meth c H locs cells slots Q (F0 m pc ls (.null :: rest)) := by
  intro T hT X
  obtain ⟨t, st, q⟩ := k T hT X
  exact ⟨t, X.arraylengthNull hexec (g := F0 m pc ls (.null :: rest)) rfl (rest := rest) rfl (by rw [hb]; exact hdg) t st, q⟩
theorem vx_ialoadN (hexec : p.tables.exec = Jvm.exec) (hb : c.code = cc) {i : Int32} (hdg : decode cc pc = .ok (.iaload, 1)) (k : vx_NoteN p l e R s m args below meth c H locs cells slots Q (F0 m pc ls rest)) : W p l e R s m args below meth c H locs cells slots Q (F0 m pc ls (.int i :: .null :: rest)) := by
  intro T hT X
  obtain ⟨t, st, q⟩ := k T hT X
  exact ⟨t, X.ialoadNull hexec (g := F0 m pc ls (.int i :: .null :: rest)) rfl (rest := rest) rfl (by rw [hb]; exact hdg) t st, q⟩
theorem vx_laloadN (hexec : p.tables.exec = Jvm.exec) (hb : c.code = cc) {i : Int32} (hdg : decode cc pc = .ok (.laload, 1)) (k : vx_NoteN p l e R s m args below meth c H locs cells slots Q (F0 m pc ls rest)) : W p l e R s m args below meth c H locs cells slots Q (F0 m pc ls (.int i :: .null :: rest)) := by
  intro T hT X
  obtain ⟨t, st, q⟩ := k T hT X
  exact ⟨t, X.laloadNull hexec (g := F0 m pc ls (.int i :: .null :: rest)) rfl (rest := rest) rfl (by rw [hb]; exact hdg) t st, q⟩
theorem vx_faloadN (hexec : p.tables.exec = Jvm.exec) (hb : c.code = cc) {i : Int32} (hdg : decode cc pc = .ok (.faload, 1)) (k : vx_NoteN p l e R s m args below meth c H locs cells slots Q (F0 m pc ls rest)) : W p l e R s m args below meth c H locs cells slots Q (F0 m pc ls (.int i :: .null :: rest)) := by
  intro T hT X
  obtain ⟨t, st, q⟩ := k T hT X
  exact ⟨t, X.faloadNull hexec (g := F0 m pc ls (.int i :: .null :: rest)) rfl (rest := rest) rfl (by rw [hb]; exact hdg) t st, q⟩
theorem vx_daloadN (hexec : p.tables.exec = Jvm.exec) (hb : c.code = cc) {i : Int32} (hdg : decode cc pc = .ok (.daload, 1)) (k : vx_NoteN p l e R s m args below meth c H locs cells slots Q (F0 m pc ls rest)) : W p l e R s m args below meth c H locs cells slots Q (F0 m pc ls (.int i :: .null :: rest)) := by
  intro T hT X
  obtain ⟨t, st, q⟩ := k T hT X
  exact ⟨t, X.daloadNull hexec (g := F0 m pc ls (.int i :: .null :: rest)) rfl (rest := rest) rfl (by rw [hb]; exact hdg) t st, q⟩
theorem vx_aaloadN (hexec : p.tables.exec = Jvm.exec) (hb : c.code = cc) {i : Int32} (hdg : decode cc pc = .ok (.aaload, 1)) (k : vx_NoteN p l e R s m args below meth c H locs cells slots Q (F0 m pc ls rest)) : W p l e R s m args below meth c H locs cells slots Q (F0 m pc ls (.int i :: .null :: rest)) := by
  intro T hT X
  obtain ⟨t, st, q⟩ := k T hT X
  exact ⟨t, X.aaloadNull hexec (g := F0 m pc ls (.int i :: .null :: rest)) rfl (rest := rest) rfl (by rw [hb]; exact hdg) t st, q⟩
theorem vx_baloadN (hexec : p.tables.exec = Jvm.exec) (hb : c.code = cc) {i : Int32} (hdg : decode cc pc = .ok (.baload, 1)) (k : vx_NoteN p l e R s m args below meth c H locs cells slots Q (F0 m pc ls rest)) : W p l e R s m args below meth c H locs cells slots Q (F0 m pc ls (.int i :: .null :: rest)) := by
  intro T hT X
  obtain ⟨t, st, q⟩ := k T hT X
  exact ⟨t, X.baloadNull hexec (g := F0 m pc ls (.int i :: .null :: rest)) rfl (rest := rest) rfl (by rw [hb]; exact hdg) t st, q⟩
theorem vx_caloadN (hexec : p.tables.exec = Jvm.exec) (hb : c.code = cc) {i : Int32} (hdg : decode cc pc = .ok (.caload, 1)) (k : vx_NoteN p l e R s m args below meth c H locs cells slots Q (F0 m pc ls rest)) : W p l e R s m args below meth c H locs cells slots Q (F0 m pc ls (.int i :: .null :: rest)) := by
  intro T hT X
  obtain ⟨t, st, q⟩ := k T hT X
  exact ⟨t, X.caloadNull hexec (g := F0 m pc ls (.int i :: .null :: rest)) rfl (rest := rest) rfl (by rw [hb]; exact hdg) t st, q⟩
theorem vx_saloadN (hexec : p.tables.exec = Jvm.exec) (hb : c.code = cc) {i : Int32} (hdg : decode cc pc = .ok (.saload, 1)) (k : vx_NoteN p l e R s m args below meth c H locs cells slots Q (F0 m pc ls rest)) : W p l e R s m args below meth c H locs cells slots Q (F0 m pc ls (.int i :: .null :: rest)) := by
  intro T hT X
  obtain ⟨t, st, q⟩ := k T hT X
  exact ⟨t, X.saloadNull hexec (g := F0 m pc ls (.int i :: .null :: rest)) rfl (rest := rest) rfl (by rw [hb]; exact hdg) t st, q⟩
theorem vx_iastoreN (hexec : p.tables.exec = Jvm.exec) (hb : c.code = cc) {x : Int32} {i : Int32} (hdg : decode cc pc = .ok (.iastore, 1)) (k : vx_NoteN p l e R s m args below meth c H locs cells slots Q (F0 m pc ls rest)) : W p l e R s m args below meth c H locs cells slots Q (F0 m pc ls (.int x :: .int i :: .null :: rest)) := by
  intro T hT X
  obtain ⟨t, st, q⟩ := k T hT X
  exact ⟨t, X.iastoreNull hexec (g := F0 m pc ls (.int x :: .int i :: .null :: rest)) rfl (rest := rest) rfl (by rw [hb]; exact hdg) t st, q⟩
theorem vx_lastoreN (hexec : p.tables.exec = Jvm.exec) (hb : c.code = cc) {x : Int64} {i : Int32} (hdg : decode cc pc = .ok (.lastore, 1)) (k : vx_NoteN p l e R s m args below meth c H locs cells slots Q (F0 m pc ls rest)) : W p l e R s m args below meth c H locs cells slots Q (F0 m pc ls (.long x :: .int i :: .null :: rest)) := by
  intro T hT X
  obtain ⟨t, st, q⟩ := k T hT X
  exact ⟨t, X.lastoreNull hexec (g := F0 m pc ls (.long x :: .int i :: .null :: rest)) rfl (rest := rest) rfl (by rw [hb]; exact hdg) t st, q⟩
theorem vx_fastoreN (hexec : p.tables.exec = Jvm.exec) (hb : c.code = cc) {x : UInt32} {i : Int32} (hdg : decode cc pc = .ok (.fastore, 1)) (k : vx_NoteN p l e R s m args below meth c H locs cells slots Q (F0 m pc ls rest)) : W p l e R s m args below meth c H locs cells slots Q (F0 m pc ls (.float x :: .int i :: .null :: rest)) := by
  intro T hT X
  obtain ⟨t, st, q⟩ := k T hT X
  exact ⟨t, X.fastoreNull hexec (g := F0 m pc ls (.float x :: .int i :: .null :: rest)) rfl (rest := rest) rfl (by rw [hb]; exact hdg) t st, q⟩
theorem vx_dastoreN (hexec : p.tables.exec = Jvm.exec) (hb : c.code = cc) {x : UInt64} {i : Int32} (hdg : decode cc pc = .ok (.dastore, 1)) (k : vx_NoteN p l e R s m args below meth c H locs cells slots Q (F0 m pc ls rest)) : W p l e R s m args below meth c H locs cells slots Q (F0 m pc ls (.double x :: .int i :: .null :: rest)) := by
  intro T hT X
  obtain ⟨t, st, q⟩ := k T hT X
  exact ⟨t, X.dastoreNull hexec (g := F0 m pc ls (.double x :: .int i :: .null :: rest)) rfl (rest := rest) rfl (by rw [hb]; exact hdg) t st, q⟩
theorem vx_bastoreN (hexec : p.tables.exec = Jvm.exec) (hb : c.code = cc) {x : Int32} {i : Int32} (hdg : decode cc pc = .ok (.bastore, 1)) (k : vx_NoteN p l e R s m args below meth c H locs cells slots Q (F0 m pc ls rest)) : W p l e R s m args below meth c H locs cells slots Q (F0 m pc ls (.int x :: .int i :: .null :: rest)) := by
  intro T hT X
  obtain ⟨t, st, q⟩ := k T hT X
  exact ⟨t, X.bastoreNull hexec (g := F0 m pc ls (.int x :: .int i :: .null :: rest)) rfl (rest := rest) rfl (by rw [hb]; exact hdg) t st, q⟩
theorem vx_castoreN (hexec : p.tables.exec = Jvm.exec) (hb : c.code = cc) {x : Int32} {i : Int32} (hdg : decode cc pc = .ok (.castore, 1)) (k : vx_NoteN p l e R s m args below meth c H locs cells slots Q (F0 m pc ls rest)) : W p l e R s m args below meth c H locs cells slots Q (F0 m pc ls (.int x :: .int i :: .null :: rest)) := by
  intro T hT X
  obtain ⟨t, st, q⟩ := k T hT X
  exact ⟨t, X.castoreNull hexec (g := F0 m pc ls (.int x :: .int i :: .null :: rest)) rfl (rest := rest) rfl (by rw [hb]; exact hdg) t st, q⟩
theorem vx_sastoreN (hexec : p.tables.exec = Jvm.exec) (hb : c.code = cc) {x : Int32} {i : Int32} (hdg : decode cc pc = .ok (.sastore, 1)) (k : vx_NoteN p l e R s m args below meth c H locs cells slots Q (F0 m pc ls rest)) : W p l e R s m args below meth c H locs cells slots Q (F0 m pc ls (.int x :: .int i :: .null :: rest)) := by
  intro T hT X
  obtain ⟨t, st, q⟩ := k T hT X
  exact ⟨t, X.sastoreNull hexec (g := F0 m pc ls (.int x :: .int i :: .null :: rest)) rfl (rest := rest) rfl (by rw [hb]; exact hdg) t st, q⟩
theorem vx_invokeN {own C : String} {index maxL : Nat} {y : MethodName} {bytes : ByteArray} {ret : Option FieldType} (hexec : p.tables.exec = Jvm.exec) (hb : c.code = cc) (hown : s.vm.findClass own = some m.cls) (hlink : (Cond.methodLink own index y).before args s = true) (hinst : (Cond.instanceMethod y).before args s = true) (hcode : (Cond.code y bytes maxL ret).before args s = true) (hsel : (Cond.selects C y y).before args s = true)
    (hx : y.cls ≠ "java/lang/invoke/MethodHandle" ∧ y.cls ≠ "java/lang/invoke/VarHandle") {As : List Value} (hlen : (parseMethodDescriptor y.desc).map (fun d => d.parameters.length) = some As.length) (hdg : decode cc pc = .ok (.invokevirtual index, 3))
    (k : vx_NoteN p l e R s m args below meth c H locs cells slots Q (F0 m pc ls rest)) {st0 : List Value} (hst : st0 = As.reverse ++ .null :: rest) : W p l e R s m args below meth c H locs cells slots Q (F0 m pc ls st0) := by
  intro T hT X
  obtain ⟨r0, r, hn, hrm, hstR, hsigR⟩ := va_Decl.of hinst hcode
  obtain ⟨c2, r2, m2, q1, q2, q3, q4, kP, hkP, hkPi⟩ := Cond.selects_spec hsel
  cases hn.symm.trans q3
  have hl9 : As.length = r.sig.parameters.length := by
    rw [hsigR] at hlen
    exact (Option.some.inj hlen).symm
  obtain ⟨vm', X1, st1⟩ := X.invokevirtualNull hexec hown hlink hn hrm hstR hkP hkPi hx (g := F0 m pc ls st0) rfl (argsL := As) (rest := rest) hl9 hst (by rw [hb]; exact hdg)
  obtain ⟨t, st, q⟩ := k (T.setVm vm') hT X1
  exact ⟨t, st1 t st, q⟩
theorem vx_newarrayZ {atype : ArrayType} (hexec : p.tables.exec = Jvm.exec) (hb : c.code = cc) {n : Int32} (h0 : n < 0) (hdg : decode cc pc = .ok (.newarray atype, 2)) (k : ∀ tx : String, tx = toString n → vx_Note p l e R s m args below meth c H locs cells slots Q (F0 m pc ls rest) "java/lang/NegativeArraySizeException" tx) : W p l e R s m args below meth c H locs cells slots Q (F0 m pc ls (.int n :: rest)) := by
  intro T hT X
  obtain ⟨t, st, q⟩ := k _ rfl T hT X
  exact ⟨t, X.newarrayNegative hexec (g := F0 m pc ls (.int n :: rest)) rfl h0 (rest := rest) rfl (by rw [hb]; exact hdg) t st, q⟩
end
end VXM
/-! ===== END ===== -/
end
section
def RX0 : String := "LineKeeper$Caches"
def TX0 : u_T := fun k => match k with
  | 0 => ("LineKeeper$Caches", "states", "[C", true)
  | 1 => ("LineKeeper$Caches", "uses", "[I", true)
  | 2 => ("LineKeeper$Caches", "leavings", "[I", true)
  | 3 => ("LineKeeper$Caches", "untried", "[Z", true)
  | 4 => ("LineKeeper$Caches", "aheads", "[Z", true)
  | 5 => ("LineKeeper$Caches", "missLines", "[I", true)
  | 6 => ("LineKeeper$Caches", "steps", "[I", true)
  | 7 => ("LineKeeper$Caches", "fetchedLines", "[I", true)
  | 8 => ("LineKeeper$Caches", "usefulLines", "[I", true)
  | 9 => ("LineKeeper$Caches", "wrongLines", "[I", true)
  | _ => ("LineKeeper$Caches", "now", "I", false)
def tyX0 : Nat → FieldType := fun k => match k with
  | 0 => .array .char
  | 1 => .array .int
  | 2 => .array .int
  | 3 => .array .boolean
  | 4 => .array .boolean
  | 5 => .array .int
  | 6 => .array .int
  | 7 => .array .int
  | 8 => .array .int
  | 9 => .array .int
  | _ => .int
theorem nmX0 : ∀ a, a < 11 → ∀ b, b < 11 → a ≠ b → (TX0 a).2.1 ≠ (TX0 b).2.1 := by decide +kernel
theorem tyX0_ok : ∀ k, k < 11 → parseFieldDescriptor (TX0 k).2.2.1 = some (tyX0 k) := by decide +kernel
abbrev cX0_init : ByteArray := prog_2_method_1_code
def yX0_init : MethodName := ⟨RX0, "<init>", "()V"⟩
abbrev cX0_clear : ByteArray := prog_2_method_2_code
def yX0_clear : MethodName := ⟨RX0, "clear", "()V"⟩
abbrev cX0_isAhead : ByteArray := prog_2_method_3_code
def yX0_isAhead : MethodName := ⟨RX0, "isAhead", "(I)Z"⟩
abbrev cX0_tellAhead : ByteArray := prog_2_method_4_code
def yX0_tellAhead : MethodName := ⟨RX0, "tellAhead", "(IZ)V"⟩
abbrev cX0_countFetched : ByteArray := prog_2_method_5_code
def yX0_countFetched : MethodName := ⟨RX0, "countFetched", "(I)I"⟩
abbrev cX0_countUseful : ByteArray := prog_2_method_6_code
def yX0_countUseful : MethodName := ⟨RX0, "countUseful", "(I)I"⟩
abbrev cX0_countWrong : ByteArray := prog_2_method_7_code
def yX0_countWrong : MethodName := ⟨RX0, "countWrong", "(I)I"⟩
abbrev cX0_stateOf : ByteArray := prog_2_method_8_code
def yX0_stateOf : MethodName := ⟨RX0, "stateOf", "(II)C"⟩
abbrev cX0_ownerOf : ByteArray := prog_2_method_9_code
def yX0_ownerOf : MethodName := ⟨RX0, "ownerOf", "(I)I"⟩
abbrev cX0_countHolders : ByteArray := prog_2_method_10_code
def yX0_countHolders : MethodName := ⟨RX0, "countHolders", "(I)I"⟩
abbrev cX0_countLines : ByteArray := prog_2_method_11_code
def yX0_countLines : MethodName := ⟨RX0, "countLines", "(II)I"⟩
abbrev cX0_oldestOf : ByteArray := prog_2_method_12_code
def yX0_oldestOf : MethodName := ⟨RX0, "oldestOf", "(II)I"⟩
abbrev cX0_hasLoneOwners : ByteArray := prog_2_method_13_code
def yX0_hasLoneOwners : MethodName := ⟨RX0, "hasLoneOwners", "()Z"⟩
abbrev cX0_hasStatesOf : ByteArray := prog_2_method_14_code
def yX0_hasStatesOf : MethodName := ⟨RX0, "hasStatesOf", "(LLineKeeper$Caches;)Z"⟩
abbrev cX0_causeOfNext : ByteArray := prog_2_method_15_code
def yX0_causeOfNext : MethodName := ⟨RX0, "causeOfNext", "(IIIZ)C"⟩
abbrev cX0_makeAccess : ByteArray := prog_2_method_16_code
def yX0_makeAccess : MethodName := ⟨RX0, "makeAccess", "(IIIZ)I"⟩
abbrev cX0_dropAll : ByteArray := prog_2_method_17_code
def yX0_dropAll : MethodName := ⟨RX0, "dropAll", "(I)I"⟩
abbrev cX0_costOfNext : ByteArray := prog_2_method_18_code
def yX0_costOfNext : MethodName := ⟨RX0, "costOfNext", "(IIZ)I"⟩
abbrev cX0_makeRoom : ByteArray := prog_2_method_19_code
def yX0_makeRoom : MethodName := ⟨RX0, "makeRoom", "(II)Z"⟩
abbrev cX0_shareAll : ByteArray := prog_2_method_20_code
def yX0_shareAll : MethodName := ⟨RX0, "shareAll", "(I)V"⟩
abbrev cX0_bring : ByteArray := prog_2_method_21_code
def yX0_bring : MethodName := ⟨RX0, "bring", "(II)V"⟩
abbrev cX0_use : ByteArray := prog_2_method_22_code
def yX0_use : MethodName := ⟨RX0, "use", "(II)V"⟩
abbrev cX0_drop : ByteArray := prog_2_method_23_code
def yX0_drop : MethodName := ⟨RX0, "drop", "(III)V"⟩
abbrev cX0_dropElsewhere : ByteArray := prog_2_method_24_code
def yX0_dropElsewhere : MethodName := ⟨RX0, "dropElsewhere", "(III)V"⟩
abbrev cX0_learn : ByteArray := prog_2_method_25_code
def yX0_learn : MethodName := ⟨RX0, "learn", "(II)I"⟩
abbrev cX0_canFetch : ByteArray := prog_2_method_26_code
def yX0_canFetch : MethodName := ⟨RX0, "canFetch", "(II)Z"⟩
abbrev cX0_fetch : ByteArray := prog_2_method_27_code
def yX0_fetch : MethodName := ⟨RX0, "fetch", "(II)V"⟩
def RX1 : String := "LineKeeper$Event"
def TX1 : u_T := fun k => match k with
  | 0 => ("LineKeeper$Event", "kind", "I", true)
  | 1 => ("LineKeeper$Event", "core", "I", true)
  | 2 => ("LineKeeper$Event", "name", "I", true)
  | 3 => ("LineKeeper$Event", "line", "I", true)
  | 4 => ("LineKeeper$Event", "cost", "I", true)
  | _ => ("LineKeeper$Event", "cause", "C", true)
def tyX1 : Nat → FieldType := fun k => match k with
  | 0 => .int
  | 1 => .int
  | 2 => .int
  | 3 => .int
  | 4 => .int
  | _ => .char
theorem nmX1 : ∀ a, a < 6 → ∀ b, b < 6 → a ≠ b → (TX1 a).2.1 ≠ (TX1 b).2.1 := by decide +kernel
theorem tyX1_ok : ∀ k, k < 6 → parseFieldDescriptor (TX1 k).2.2.1 = some (tyX1 k) := by decide +kernel
abbrev cX1_init : ByteArray := prog_3_method_1_code
def yX1_init : MethodName := ⟨RX1, "<init>", "(II)V"⟩
abbrev cX1_init_ : ByteArray := prog_3_method_2_code
def yX1_init_ : MethodName := ⟨RX1, "<init>", "(IIIIIC)V"⟩
abbrev cX1_isAccess : ByteArray := prog_3_method_3_code
def yX1_isAccess : MethodName := ⟨RX1, "isAccess", "()Z"⟩
abbrev cX1_isWrite : ByteArray := prog_3_method_4_code
def yX1_isWrite : MethodName := ⟨RX1, "isWrite", "()Z"⟩
def RX2 : String := "LineKeeper$Layout"
def TX2 : u_T := fun k => match k with
  | 0 => ("LineKeeper$Layout", "sizes", "[I", true)
  | 1 => ("LineKeeper$Layout", "starts", "[I", true)
  | 2 => ("LineKeeper$Layout", "startsBefore", "[I", true)
  | _ => ("LineKeeper$Layout", "names", "I", false)
def tyX2 : Nat → FieldType := fun k => match k with
  | 0 => .array .int
  | 1 => .array .int
  | 2 => .array .int
  | _ => .int
theorem nmX2 : ∀ a, a < 4 → ∀ b, b < 4 → a ≠ b → (TX2 a).2.1 ≠ (TX2 b).2.1 := by decide +kernel
theorem tyX2_ok : ∀ k, k < 4 → parseFieldDescriptor (TX2 k).2.2.1 = some (tyX2 k) := by decide +kernel
abbrev cX2_init : ByteArray := prog_4_method_1_code
def yX2_init : MethodName := ⟨RX2, "<init>", "()V"⟩
abbrev cX2_isFull : ByteArray := prog_4_method_2_code
def yX2_isFull : MethodName := ⟨RX2, "isFull", "()Z"⟩
abbrev cX2_countNames : ByteArray := prog_4_method_3_code
def yX2_countNames : MethodName := ⟨RX2, "countNames", "()I"⟩
abbrev cX2_hasName : ByteArray := prog_4_method_4_code
def yX2_hasName : MethodName := ⟨RX2, "hasName", "(I)Z"⟩
abbrev cX2_isPlaced : ByteArray := prog_4_method_5_code
def yX2_isPlaced : MethodName := ⟨RX2, "isPlaced", "(I)Z"⟩
abbrev cX2_hasWord : ByteArray := prog_4_method_6_code
def yX2_hasWord : MethodName := ⟨RX2, "hasWord", "(II)Z"⟩
abbrev cX2_startOf : ByteArray := prog_4_method_7_code
def yX2_startOf : MethodName := ⟨RX2, "startOf", "(I)I"⟩
abbrev cX2_setStart : ByteArray := prog_4_method_8_code
def yX2_setStart : MethodName := ⟨RX2, "setStart", "(II)V"⟩
abbrev cX2_addUnplaced : ByteArray := prog_4_method_9_code
def yX2_addUnplaced : MethodName := ⟨RX2, "addUnplaced", "(I)I"⟩
abbrev cX2_isInMemory : ByteArray := prog_4_method_10_code
def yX2_isInMemory : MethodName := ⟨RX2, "isInMemory", "(II)Z"⟩
abbrev cX2_isFree : ByteArray := prog_4_method_11_code
def yX2_isFree : MethodName := ⟨RX2, "isFree", "(II)Z"⟩
abbrev cX2_findAt : ByteArray := prog_4_method_12_code
def yX2_findAt : MethodName := ⟨RX2, "findAt", "(I)I"⟩
abbrev cX2_isOnOneLine : ByteArray := prog_4_method_13_code
def yX2_isOnOneLine : MethodName := ⟨RX2, "isOnOneLine", "(II)Z"⟩
abbrev cX2_lastLineOf : ByteArray := prog_4_method_14_code
def yX2_lastLineOf : MethodName := ⟨RX2, "lastLineOf", "(I)I"⟩
abbrev cX2_placeAll : ByteArray := prog_4_method_15_code
def yX2_placeAll : MethodName := ⟨RX2, "placeAll", "(I)I"⟩
abbrev cX2_lowestFor : ByteArray := prog_4_method_16_code
def yX2_lowestFor : MethodName := ⟨RX2, "lowestFor", "(II)I"⟩
def RX3 : String := "LineKeeper"
def TX3 : u_T := fun k => match k with
  | 0 => ("LineKeeper", "layout", "LLineKeeper$Layout;", true)
  | 1 => ("LineKeeper", "caches", "LLineKeeper$Caches;", true)
  | 2 => ("LineKeeper", "replayed", "LLineKeeper$Caches;", true)
  | 3 => ("LineKeeper", "events", "Ljava/util/List;", true)
  | _ => ("LineKeeper", "accesses", "Ljava/util/List;", true)
def tyX3 : Nat → FieldType := fun k => match k with
  | 0 => .object "LineKeeper$Layout"
  | 1 => .object "LineKeeper$Caches"
  | 2 => .object "LineKeeper$Caches"
  | 3 => .object "java/util/List"
  | _ => .object "java/util/List"
theorem nmX3 : ∀ a, a < 5 → ∀ b, b < 5 → a ≠ b → (TX3 a).2.1 ≠ (TX3 b).2.1 := by decide +kernel
theorem tyX3_ok : ∀ k, k < 5 → parseFieldDescriptor (TX3 k).2.2.1 = some (tyX3 k) := by decide +kernel
abbrev cX3_init : ByteArray := prog_1_method_1_code
def yX3_init : MethodName := ⟨RX3, "<init>", "()V"⟩
abbrev cX3_addName : ByteArray := prog_1_method_2_code
def yX3_addName : MethodName := ⟨RX3, "addName", "(I)I"⟩
abbrev cX3_place : ByteArray := prog_1_method_3_code
def yX3_place : MethodName := ⟨RX3, "place", "(II)I"⟩
abbrev cX3_link : ByteArray := prog_1_method_4_code
def yX3_link : MethodName := ⟨RX3, "link", "(I)I"⟩
abbrev cX3_take : ByteArray := prog_1_method_5_code
def yX3_take : MethodName := ⟨RX3, "take", "(I)I"⟩
abbrev cX3_addressOf : ByteArray := prog_1_method_6_code
def yX3_addressOf : MethodName := ⟨RX3, "addressOf", "(II)I"⟩
abbrev cX3_nameAt : ByteArray := prog_1_method_7_code
def yX3_nameAt : MethodName := ⟨RX3, "nameAt", "(I)I"⟩
abbrev cX3_meet : ByteArray := prog_1_method_8_code
def yX3_meet : MethodName := ⟨RX3, "meet", "(II)Z"⟩
abbrev cX3_read : ByteArray := prog_1_method_9_code
def yX3_read : MethodName := ⟨RX3, "read", "(III)I"⟩
abbrev cX3_write : ByteArray := prog_1_method_10_code
def yX3_write : MethodName := ⟨RX3, "write", "(III)I"⟩
abbrev cX3_empty : ByteArray := prog_1_method_11_code
def yX3_empty : MethodName := ⟨RX3, "empty", "(I)I"⟩
abbrev cX3_setAhead : ByteArray := prog_1_method_12_code
def yX3_setAhead : MethodName := ⟨RX3, "setAhead", "(IZ)Z"⟩
abbrev cX3_accesses : ByteArray := prog_1_method_13_code
def yX3_accesses : MethodName := ⟨RX3, "accesses", "()I"⟩
abbrev cX3_costOf : ByteArray := prog_1_method_14_code
def yX3_costOf : MethodName := ⟨RX3, "costOf", "(I)I"⟩
abbrev cX3_costByReplay : ByteArray := prog_1_method_15_code
def yX3_costByReplay : MethodName := ⟨RX3, "costByReplay", "(I)I"⟩
abbrev cX3_causeOf : ByteArray := prog_1_method_16_code
def yX3_causeOf : MethodName := ⟨RX3, "causeOf", "(I)C"⟩
abbrev cX3_state : ByteArray := prog_1_method_17_code
def yX3_state : MethodName := ⟨RX3, "state", "(II)C"⟩
abbrev cX3_owner : ByteArray := prog_1_method_18_code
def yX3_owner : MethodName := ⟨RX3, "owner", "(I)I"⟩
abbrev cX3_holders : ByteArray := prog_1_method_19_code
def yX3_holders : MethodName := ⟨RX3, "holders", "(I)I"⟩
abbrev cX3_lines : ByteArray := prog_1_method_20_code
def yX3_lines : MethodName := ⟨RX3, "lines", "(I)I"⟩
abbrev cX3_oldest : ByteArray := prog_1_method_21_code
def yX3_oldest : MethodName := ⟨RX3, "oldest", "(II)I"⟩
abbrev cX3_count : ByteArray := prog_1_method_22_code
def yX3_count : MethodName := ⟨RX3, "count", "(IC)I"⟩
abbrev cX3_bill : ByteArray := prog_1_method_23_code
def yX3_bill : MethodName := ⟨RX3, "bill", "(I)J"⟩
abbrev cX3_worst : ByteArray := prog_1_method_24_code
def yX3_worst : MethodName := ⟨RX3, "worst", "()I"⟩
abbrev cX3_cycles : ByteArray := prog_1_method_25_code
def yX3_cycles : MethodName := ⟨RX3, "cycles", "(I)J"⟩
abbrev cX3_fetched : ByteArray := prog_1_method_26_code
def yX3_fetched : MethodName := ⟨RX3, "fetched", "(I)I"⟩
abbrev cX3_useful : ByteArray := prog_1_method_27_code
def yX3_useful : MethodName := ⟨RX3, "useful", "(I)I"⟩
abbrev cX3_wrong : ByteArray := prog_1_method_28_code
def yX3_wrong : MethodName := ⟨RX3, "wrong", "(I)I"⟩
abbrev cX3_missShare : ByteArray := prog_1_method_29_code
def yX3_missShare : MethodName := ⟨RX3, "missShare", "()F"⟩
abbrev cX3_meanCost : ByteArray := prog_1_method_30_code
def yX3_meanCost : MethodName := ⟨RX3, "meanCost", "()D"⟩
abbrev cX3_isCoherent : ByteArray := prog_1_method_31_code
def yX3_isCoherent : MethodName := ⟨RX3, "isCoherent", "()Z"⟩
abbrev cX3_checkCore : ByteArray := prog_1_method_32_code
def yX3_checkCore : MethodName := ⟨RX3, "checkCore", "(I)V"⟩
abbrev cX3_checkLine : ByteArray := prog_1_method_33_code
def yX3_checkLine : MethodName := ⟨RX3, "checkLine", "(I)V"⟩
abbrev cX3_checkName : ByteArray := prog_1_method_34_code
def yX3_checkName : MethodName := ⟨RX3, "checkName", "(I)V"⟩
abbrev cX3_checkPlacedName : ByteArray := prog_1_method_35_code
def yX3_checkPlacedName : MethodName := ⟨RX3, "checkPlacedName", "(I)V"⟩
abbrev cX3_checkWord : ByteArray := prog_1_method_36_code
def yX3_checkWord : MethodName := ⟨RX3, "checkWord", "(II)V"⟩
abbrev cX3_checkIndex : ByteArray := prog_1_method_37_code
def yX3_checkIndex : MethodName := ⟨RX3, "checkIndex", "(I)V"⟩
abbrev cX3_isCause : ByteArray := prog_1_method_38_code
def yX3_isCause : MethodName := ⟨RX3, "isCause", "(C)Z"⟩
abbrev cX3_isFull : ByteArray := prog_1_method_39_code
def yX3_isFull : MethodName := ⟨RX3, "isFull", "()Z"⟩
abbrev cX3_access : ByteArray := prog_1_method_40_code
def yX3_access : MethodName := ⟨RX3, "access", "(IIII)I"⟩
abbrev cX3_sumOfName : ByteArray := prog_1_method_41_code
def yX3_sumOfName : MethodName := ⟨RX3, "sumOfName", "(I)J"⟩
abbrev cX3_replayUpTo : ByteArray := prog_1_method_42_code
def yX3_replayUpTo : MethodName := ⟨RX3, "replayUpTo", "(I)I"⟩
abbrev cX3_isSameByReplay : ByteArray := prog_1_method_43_code
def yX3_isSameByReplay : MethodName := ⟨RX3, "isSameByReplay", "()Z"⟩
abbrev cX3_replay : ByteArray := prog_1_method_44_code
def yX3_replay : MethodName := ⟨RX3, "replay", "(LLineKeeper$Event;)I"⟩
def RX4 : String := "LineKeeperModel"
def TX4 : u_T := fun k => match k with
  | 0 => ("LineKeeperModel", "words", "[I", true)
  | 1 => ("LineKeeperModel", "places", "[I", true)
  | 2 => ("LineKeeperModel", "states", "[C", true)
  | 3 => ("LineKeeperModel", "usedAt", "[I", true)
  | 4 => ("LineKeeperModel", "leftBy", "[I", true)
  | 5 => ("LineKeeperModel", "isNew", "[Z", true)
  | 6 => ("LineKeeperModel", "areAhead", "[Z", true)
  | 7 => ("LineKeeperModel", "misses", "[I", true)
  | 8 => ("LineKeeperModel", "lastMiss", "[I", true)
  | 9 => ("LineKeeperModel", "lastStep", "[I", true)
  | 10 => ("LineKeeperModel", "fetchedBy", "[I", true)
  | 11 => ("LineKeeperModel", "usefulFor", "[I", true)
  | 12 => ("LineKeeperModel", "wrongFor", "[I", true)
  | 13 => ("LineKeeperModel", "costs", "[I", false)
  | 14 => ("LineKeeperModel", "namesOf", "[I", false)
  | 15 => ("LineKeeperModel", "coresOf", "[I", false)
  | 16 => ("LineKeeperModel", "causes", "[C", false)
  | 17 => ("LineKeeperModel", "thrown", "I", false)
  | 18 => ("LineKeeperModel", "names", "I", false)
  | 19 => ("LineKeeperModel", "accesses", "I", false)
  | _ => ("LineKeeperModel", "clock", "I", false)
def tyX4 : Nat → FieldType := fun k => match k with
  | 0 => .array .int
  | 1 => .array .int
  | 2 => .array .char
  | 3 => .array .int
  | 4 => .array .int
  | 5 => .array .boolean
  | 6 => .array .boolean
  | 7 => .array .int
  | 8 => .array .int
  | 9 => .array .int
  | 10 => .array .int
  | 11 => .array .int
  | 12 => .array .int
  | 13 => .array .int
  | 14 => .array .int
  | 15 => .array .int
  | 16 => .array .char
  | 17 => .int
  | 18 => .int
  | 19 => .int
  | _ => .int
theorem nmX4 : ∀ a, a < 21 → ∀ b, b < 21 → a ≠ b → (TX4 a).2.1 ≠ (TX4 b).2.1 := by decide +kernel
theorem tyX4_ok : ∀ k, k < 21 → parseFieldDescriptor (TX4 k).2.2.1 = some (tyX4 k) := by decide +kernel
abbrev cX4_init : ByteArray := prog_6_method_1_code
def yX4_init : MethodName := ⟨RX4, "<init>", "()V"⟩
abbrev cX4_thrown : ByteArray := prog_6_method_2_code
def yX4_thrown : MethodName := ⟨RX4, "thrown", "()I"⟩
abbrev cX4_in : ByteArray := prog_6_method_3_code
def yX4_in : MethodName := ⟨RX4, "in", "(III)Z"⟩
abbrev cX4_checked : ByteArray := prog_6_method_4_code
def yX4_checked : MethodName := ⟨RX4, "checked", "(Z)I"⟩
abbrev cX4_isName : ByteArray := prog_6_method_5_code
def yX4_isName : MethodName := ⟨RX4, "isName", "(I)Z"⟩
abbrev cX4_isCore : ByteArray := prog_6_method_6_code
def yX4_isCore : MethodName := ⟨RX4, "isCore", "(I)Z"⟩
abbrev cX4_at : ByteArray := prog_6_method_7_code
def yX4_at : MethodName := ⟨RX4, "at", "(II)I"⟩
abbrev cX4_addName : ByteArray := prog_6_method_8_code
def yX4_addName : MethodName := ⟨RX4, "addName", "(I)I"⟩
abbrev cX4_nameOn : ByteArray := prog_6_method_9_code
def yX4_nameOn : MethodName := ⟨RX4, "nameOn", "(I)I"⟩
abbrev cX4_fits : ByteArray := prog_6_method_10_code
def yX4_fits : MethodName := ⟨RX4, "fits", "(II)Z"⟩
abbrev cX4_place : ByteArray := prog_6_method_11_code
def yX4_place : MethodName := ⟨RX4, "place", "(II)I"⟩
abbrev cX4_lowest : ByteArray := prog_6_method_12_code
def yX4_lowest : MethodName := ⟨RX4, "lowest", "(II)I"⟩
abbrev cX4_link : ByteArray := prog_6_method_13_code
def yX4_link : MethodName := ⟨RX4, "link", "(I)I"⟩
abbrev cX4_take : ByteArray := prog_6_method_14_code
def yX4_take : MethodName := ⟨RX4, "take", "(I)I"⟩
abbrev cX4_addressOf : ByteArray := prog_6_method_15_code
def yX4_addressOf : MethodName := ⟨RX4, "addressOf", "(II)I"⟩
abbrev cX4_nameAt : ByteArray := prog_6_method_16_code
def yX4_nameAt : MethodName := ⟨RX4, "nameAt", "(I)I"⟩
abbrev cX4_meet : ByteArray := prog_6_method_17_code
def yX4_meet : MethodName := ⟨RX4, "meet", "(II)Z"⟩
abbrev cX4_has : ByteArray := prog_6_method_18_code
def yX4_has : MethodName := ⟨RX4, "has", "(II)Z"⟩
abbrev cX4_oldestIn : ByteArray := prog_6_method_19_code
def yX4_oldestIn : MethodName := ⟨RX4, "oldestIn", "(II)I"⟩
abbrev cX4_manyIn : ByteArray := prog_6_method_20_code
def yX4_manyIn : MethodName := ⟨RX4, "manyIn", "(II)I"⟩
abbrev cX4_leaves : ByteArray := prog_6_method_21_code
def yX4_leaves : MethodName := ⟨RX4, "leaves", "(III)V"⟩
abbrev cX4_comes : ByteArray := prog_6_method_22_code
def yX4_comes : MethodName := ⟨RX4, "comes", "(IIC)Z"⟩
abbrev cX4_othersWith : ByteArray := prog_6_method_23_code
def yX4_othersWith : MethodName := ⟨RX4, "othersWith", "(II)I"⟩
abbrev cX4_ownerOf : ByteArray := prog_6_method_24_code
def yX4_ownerOf : MethodName := ⟨RX4, "ownerOf", "(I)I"⟩
abbrev cX4_causeFor : ByteArray := prog_6_method_25_code
def yX4_causeFor : MethodName := ⟨RX4, "causeFor", "(III)C"⟩
abbrev cX4_longer : ByteArray := prog_6_method_26_code
def yX4_longer : MethodName := ⟨RX4, "longer", "([I)[I"⟩
abbrev cX4_notes : ByteArray := prog_6_method_27_code
def yX4_notes : MethodName := ⟨RX4, "notes", "(IIIC)I"⟩
abbrev cX4_uses : ByteArray := prog_6_method_28_code
def yX4_uses : MethodName := ⟨RX4, "uses", "(II)V"⟩
abbrev cX4_learns : ByteArray := prog_6_method_29_code
def yX4_learns : MethodName := ⟨RX4, "learns", "(II)V"⟩
abbrev cX4_wrongAccess : ByteArray := prog_6_method_30_code
def yX4_wrongAccess : MethodName := ⟨RX4, "wrongAccess", "(III)I"⟩
abbrev cX4_read : ByteArray := prog_6_method_31_code
def yX4_read : MethodName := ⟨RX4, "read", "(III)I"⟩
abbrev cX4_takesFromOthers : ByteArray := prog_6_method_32_code
def yX4_takesFromOthers : MethodName := ⟨RX4, "takesFromOthers", "(III)V"⟩
abbrev cX4_write : ByteArray := prog_6_method_33_code
def yX4_write : MethodName := ⟨RX4, "write", "(III)I"⟩
abbrev cX4_empty : ByteArray := prog_6_method_34_code
def yX4_empty : MethodName := ⟨RX4, "empty", "(I)I"⟩
abbrev cX4_setAhead : ByteArray := prog_6_method_35_code
def yX4_setAhead : MethodName := ⟨RX4, "setAhead", "(IZ)Z"⟩
abbrev cX4_accesses : ByteArray := prog_6_method_36_code
def yX4_accesses : MethodName := ⟨RX4, "accesses", "()I"⟩
abbrev cX4_isAccess : ByteArray := prog_6_method_37_code
def yX4_isAccess : MethodName := ⟨RX4, "isAccess", "(I)Z"⟩
abbrev cX4_costOf : ByteArray := prog_6_method_38_code
def yX4_costOf : MethodName := ⟨RX4, "costOf", "(I)I"⟩
abbrev cX4_costByReplay : ByteArray := prog_6_method_39_code
def yX4_costByReplay : MethodName := ⟨RX4, "costByReplay", "(I)I"⟩
abbrev cX4_causeOf : ByteArray := prog_6_method_40_code
def yX4_causeOf : MethodName := ⟨RX4, "causeOf", "(I)C"⟩
abbrev cX4_isLine : ByteArray := prog_6_method_41_code
def yX4_isLine : MethodName := ⟨RX4, "isLine", "(I)Z"⟩
abbrev cX4_state : ByteArray := prog_6_method_42_code
def yX4_state : MethodName := ⟨RX4, "state", "(II)C"⟩
abbrev cX4_owner : ByteArray := prog_6_method_43_code
def yX4_owner : MethodName := ⟨RX4, "owner", "(I)I"⟩
abbrev cX4_holders : ByteArray := prog_6_method_44_code
def yX4_holders : MethodName := ⟨RX4, "holders", "(I)I"⟩
abbrev cX4_lines : ByteArray := prog_6_method_45_code
def yX4_lines : MethodName := ⟨RX4, "lines", "(I)I"⟩
abbrev cX4_oldest : ByteArray := prog_6_method_46_code
def yX4_oldest : MethodName := ⟨RX4, "oldest", "(II)I"⟩
abbrev cX4_isCause : ByteArray := prog_6_method_47_code
def yX4_isCause : MethodName := ⟨RX4, "isCause", "(C)Z"⟩
abbrev cX4_count : ByteArray := prog_6_method_48_code
def yX4_count : MethodName := ⟨RX4, "count", "(IC)I"⟩
abbrev cX4_billFor : ByteArray := prog_6_method_49_code
def yX4_billFor : MethodName := ⟨RX4, "billFor", "(I)J"⟩
abbrev cX4_bill : ByteArray := prog_6_method_50_code
def yX4_bill : MethodName := ⟨RX4, "bill", "(I)J"⟩
abbrev cX4_worst : ByteArray := prog_6_method_51_code
def yX4_worst : MethodName := ⟨RX4, "worst", "()I"⟩
abbrev cX4_cycles : ByteArray := prog_6_method_52_code
def yX4_cycles : MethodName := ⟨RX4, "cycles", "(I)J"⟩
abbrev cX4_fetched : ByteArray := prog_6_method_53_code
def yX4_fetched : MethodName := ⟨RX4, "fetched", "(I)I"⟩
abbrev cX4_useful : ByteArray := prog_6_method_54_code
def yX4_useful : MethodName := ⟨RX4, "useful", "(I)I"⟩
abbrev cX4_wrong : ByteArray := prog_6_method_55_code
def yX4_wrong : MethodName := ⟨RX4, "wrong", "(I)I"⟩
abbrev cX4_missShare : ByteArray := prog_6_method_56_code
def yX4_missShare : MethodName := ⟨RX4, "missShare", "()F"⟩
abbrev cX4_meanCost : ByteArray := prog_6_method_57_code
def yX4_meanCost : MethodName := ⟨RX4, "meanCost", "()D"⟩
abbrev cX4_isCoherent : ByteArray := prog_6_method_58_code
def yX4_isCoherent : MethodName := ⟨RX4, "isCoherent", "()Z"⟩
def RJx145de : String := "java/io/Serializable"
def TJx145de : u_T := fun k => match k with
  | _ => ("", "", "", false)
def tyJx145de : Nat → FieldType := fun k => match k with
  | _ => .int
theorem nmJx145de : ∀ a, a < 0 → ∀ b, b < 0 → a ≠ b → (TJx145de a).2.1 ≠ (TJx145de b).2.1 := by decide +kernel
theorem tyJx145de_ok : ∀ k, k < 0 → parseFieldDescriptor (TJx145de k).2.2.1 = some (tyJx145de k) := by decide +kernel
def RJx00060 : String := "java/lang/ArrayIndexOutOfBoundsException"
def TJx00060 : u_T := fun k => match k with
  | 0 => ("java/lang/Throwable", "backtrace", "Ljava/lang/Object;", false)
  | 1 => ("java/lang/Throwable", "detailMessage", "Ljava/lang/String;", false)
  | 2 => ("java/lang/Throwable", "cause", "Ljava/lang/Throwable;", false)
  | 3 => ("java/lang/Throwable", "stackTrace", "[Ljava/lang/StackTraceElement;", false)
  | 4 => ("java/lang/Throwable", "depth", "I", false)
  | _ => ("java/lang/Throwable", "suppressedExceptions", "Ljava/util/List;", false)
def tyJx00060 : Nat → FieldType := fun k => match k with
  | 0 => .object "java/lang/Object"
  | 1 => .object "java/lang/String"
  | 2 => .object "java/lang/Throwable"
  | 3 => .array (.object "java/lang/StackTraceElement")
  | 4 => .int
  | _ => .object "java/util/List"
theorem nmJx00060 : ∀ a, a < 6 → ∀ b, b < 6 → a ≠ b → (TJx00060 a).2.1 ≠ (TJx00060 b).2.1 := by decide +kernel
theorem tyJx00060_ok : ∀ k, k < 6 → parseFieldDescriptor (TJx00060 k).2.2.1 = some (tyJx00060 k) := by decide +kernel
abbrev cJx00060_init_a7421 : ByteArray := prog_9_method_2_code
def yJx00060_init_a7421 : MethodName := ⟨RJx00060, "<init>", "(Ljava/lang/String;)V"⟩
def RJx8e188 : String := "java/lang/Cloneable"
def TJx8e188 : u_T := fun k => match k with
  | _ => ("", "", "", false)
def tyJx8e188 : Nat → FieldType := fun k => match k with
  | _ => .int
theorem nmJx8e188 : ∀ a, a < 0 → ∀ b, b < 0 → a ≠ b → (TJx8e188 a).2.1 ≠ (TJx8e188 b).2.1 := by decide +kernel
theorem tyJx8e188_ok : ∀ k, k < 0 → parseFieldDescriptor (TJx8e188 k).2.2.1 = some (tyJx8e188 k) := by decide +kernel
def RJxab1ab : String := "java/lang/Iterable"
def TJxab1ab : u_T := fun k => match k with
  | _ => ("", "", "", false)
def tyJxab1ab : Nat → FieldType := fun k => match k with
  | _ => .int
theorem nmJxab1ab : ∀ a, a < 0 → ∀ b, b < 0 → a ≠ b → (TJxab1ab a).2.1 ≠ (TJxab1ab b).2.1 := by decide +kernel
theorem tyJxab1ab_ok : ∀ k, k < 0 → parseFieldDescriptor (TJxab1ab k).2.2.1 = some (tyJxab1ab k) := by decide +kernel
def RJ9 : String := "java/lang/Math"
def TJ9 : u_T := fun k => match k with
  | _ => ("", "", "", false)
def tyJ9 : Nat → FieldType := fun k => match k with
  | _ => .int
theorem nmJ9 : ∀ a, a < 0 → ∀ b, b < 0 → a ≠ b → (TJ9 a).2.1 ≠ (TJ9 b).2.1 := by decide +kernel
theorem tyJ9_ok : ∀ k, k < 0 → parseFieldDescriptor (TJ9 k).2.2.1 = some (tyJ9 k) := by decide +kernel
abbrev cJ9_max_7cf53 : ByteArray := prog_16_method_65_code
def yJ9_max_7cf53 : MethodName := ⟨RJ9, "max", "(II)I"⟩
abbrev cJ9_min_7cf53 : ByteArray := prog_16_method_69_code
def yJ9_min_7cf53 : MethodName := ⟨RJ9, "min", "(II)I"⟩
def RJ0 : String := "java/lang/String"
def TJ0 : u_T := fun k => match k with
  | 0 => ("java/lang/String", "value", "[B", true)
  | _ => ("java/lang/String", "coder", "B", true)
def tyJ0 : Nat → FieldType := fun k => match k with
  | 0 => .array .byte
  | _ => .byte
theorem nmJ0 : ∀ a, a < 2 → ∀ b, b < 2 → a ≠ b → (TJ0 a).2.1 ≠ (TJ0 b).2.1 := by decide +kernel
theorem tyJ0_ok : ∀ k, k < 2 → parseFieldDescriptor (TJ0 k).2.2.1 = some (tyJ0 k) := by decide +kernel
def RJ10 : String := "java/lang/System"
def TJ10 : u_T := fun k => match k with
  | _ => ("", "", "", false)
def tyJ10 : Nat → FieldType := fun k => match k with
  | _ => .int
theorem nmJ10 : ∀ a, a < 0 → ∀ b, b < 0 → a ≠ b → (TJ10 a).2.1 ≠ (TJ10 b).2.1 := by decide +kernel
theorem tyJ10_ok : ∀ k, k < 0 → parseFieldDescriptor (TJ10 k).2.2.1 = some (tyJ10 k) := by decide +kernel
def RJxa1e45 : String := "java/util/AbstractCollection"
def TJxa1e45 : u_T := fun k => match k with
  | _ => ("", "", "", false)
def tyJxa1e45 : Nat → FieldType := fun k => match k with
  | _ => .int
theorem nmJxa1e45 : ∀ a, a < 0 → ∀ b, b < 0 → a ≠ b → (TJxa1e45 a).2.1 ≠ (TJxa1e45 b).2.1 := by decide +kernel
theorem tyJxa1e45_ok : ∀ k, k < 0 → parseFieldDescriptor (TJxa1e45 k).2.2.1 = some (tyJxa1e45 k) := by decide +kernel
abbrev cJxa1e45_init_da8c8 : ByteArray := prog_22_method_1_code
def yJxa1e45_init_da8c8 : MethodName := ⟨RJxa1e45, "<init>", "()V"⟩
def RJxc12de : String := "java/util/AbstractList"
def TJxc12de : u_T := fun k => match k with
  | _ => ("", "", "", false)
def tyJxc12de : Nat → FieldType := fun k => match k with
  | _ => .int
theorem nmJxc12de : ∀ a, a < 0 → ∀ b, b < 0 → a ≠ b → (TJxc12de a).2.1 ≠ (TJxc12de b).2.1 := by decide +kernel
theorem tyJxc12de_ok : ∀ k, k < 0 → parseFieldDescriptor (TJxc12de k).2.2.1 = some (tyJxc12de k) := by decide +kernel
abbrev cJxc12de_init_da8c8 : ByteArray := prog_23_method_1_code
def yJxc12de_init_da8c8 : MethodName := ⟨RJxc12de, "<init>", "()V"⟩
def RJx4a65c : String := "java/util/ArrayList"
def TJx4a65c : u_T := fun k => match k with
  | 0 => ("java/util/AbstractList", "modCount", "I", false)
  | 1 => ("java/util/ArrayList", "elementData", "[Ljava/lang/Object;", false)
  | _ => ("java/util/ArrayList", "size", "I", false)
def tyJx4a65c : Nat → FieldType := fun k => match k with
  | 0 => .int
  | 1 => .array (.object "java/lang/Object")
  | _ => .int
theorem nmJx4a65c : ∀ a, a < 3 → ∀ b, b < 3 → a ≠ b → (TJx4a65c a).2.1 ≠ (TJx4a65c b).2.1 := by decide +kernel
theorem tyJx4a65c_ok : ∀ k, k < 3 → parseFieldDescriptor (TJx4a65c k).2.2.1 = some (tyJx4a65c k) := by decide +kernel
abbrev cJx4a65c_init_da8c8 : ByteArray := prog_24_method_2_code
def yJx4a65c_init_da8c8 : MethodName := ⟨RJx4a65c, "<init>", "()V"⟩
abbrev cJx4a65c_grow_92f84 : ByteArray := prog_24_method_6_code
def yJx4a65c_grow_92f84 : MethodName := ⟨RJx4a65c, "grow", "(I)[Ljava/lang/Object;"⟩
abbrev cJx4a65c_grow_d5877 : ByteArray := prog_24_method_7_code
def yJx4a65c_grow_d5877 : MethodName := ⟨RJx4a65c, "grow", "()[Ljava/lang/Object;"⟩
abbrev cJx4a65c_size_8abf5 : ByteArray := prog_24_method_8_code
def yJx4a65c_size_8abf5 : MethodName := ⟨RJx4a65c, "size", "()I"⟩
abbrev cJx4a65c_isEmpty_aae02 : ByteArray := prog_24_method_9_code
def yJx4a65c_isEmpty_aae02 : MethodName := ⟨RJx4a65c, "isEmpty", "()Z"⟩
abbrev cJx4a65c_elementData_915e3 : ByteArray := prog_24_method_18_code
def yJx4a65c_elementData_915e3 : MethodName := ⟨RJx4a65c, "elementData", "(I)Ljava/lang/Object;"⟩
abbrev cJx4a65c_get_915e3 : ByteArray := prog_24_method_20_code
def yJx4a65c_get_915e3 : MethodName := ⟨RJx4a65c, "get", "(I)Ljava/lang/Object;"⟩
abbrev cJx4a65c_add_72be8 : ByteArray := prog_24_method_24_code
def yJx4a65c_add_72be8 : MethodName := ⟨RJx4a65c, "add", "(Ljava/lang/Object;[Ljava/lang/Object;I)V"⟩
abbrev cJx4a65c_add_9ea2d : ByteArray := prog_24_method_25_code
def yJx4a65c_add_9ea2d : MethodName := ⟨RJx4a65c, "add", "(Ljava/lang/Object;)Z"⟩
def RJ7 : String := "java/util/Arrays"
def TJ7 : u_T := fun k => match k with
  | _ => ("", "", "", false)
def tyJ7 : Nat → FieldType := fun k => match k with
  | _ => .int
theorem nmJ7 : ∀ a, a < 0 → ∀ b, b < 0 → a ≠ b → (TJ7 a).2.1 ≠ (TJ7 b).2.1 := by decide +kernel
theorem tyJ7_ok : ∀ k, k < 0 → parseFieldDescriptor (TJ7 k).2.2.1 = some (tyJ7 k) := by decide +kernel
abbrev cJ7_copyOf_1904c : ByteArray := prog_25_method_119_code
def yJ7_copyOf_1904c : MethodName := ⟨RJ7, "copyOf", "([Ljava/lang/Object;I)[Ljava/lang/Object;"⟩
abbrev cJ7_copyOf_6403c : ByteArray := prog_25_method_120_code
def yJ7_copyOf_6403c : MethodName := ⟨RJ7, "copyOf", "([Ljava/lang/Object;ILjava/lang/Class;)[Ljava/lang/Object;"⟩
def RJx5ef63 : String := "java/util/Collection"
def TJx5ef63 : u_T := fun k => match k with
  | _ => ("", "", "", false)
def tyJx5ef63 : Nat → FieldType := fun k => match k with
  | _ => .int
theorem nmJx5ef63 : ∀ a, a < 0 → ∀ b, b < 0 → a ≠ b → (TJx5ef63 a).2.1 ≠ (TJx5ef63 b).2.1 := by decide +kernel
theorem tyJx5ef63_ok : ∀ k, k < 0 → parseFieldDescriptor (TJx5ef63 k).2.2.1 = some (tyJx5ef63 k) := by decide +kernel
def RJxbd725 : String := "java/util/List"
def TJxbd725 : u_T := fun k => match k with
  | _ => ("", "", "", false)
def tyJxbd725 : Nat → FieldType := fun k => match k with
  | _ => .int
theorem nmJxbd725 : ∀ a, a < 0 → ∀ b, b < 0 → a ≠ b → (TJxbd725 a).2.1 ≠ (TJxbd725 b).2.1 := by decide +kernel
theorem tyJxbd725_ok : ∀ k, k < 0 → parseFieldDescriptor (TJxbd725 k).2.2.1 = some (tyJxbd725 k) := by decide +kernel
def RJ15 : String := "java/util/Objects"
def TJ15 : u_T := fun k => match k with
  | _ => ("", "", "", false)
def tyJ15 : Nat → FieldType := fun k => match k with
  | _ => .int
theorem nmJ15 : ∀ a, a < 0 → ∀ b, b < 0 → a ≠ b → (TJ15 a).2.1 ≠ (TJ15 b).2.1 := by decide +kernel
theorem tyJ15_ok : ∀ k, k < 0 → parseFieldDescriptor (TJ15 k).2.2.1 = some (tyJ15 k) := by decide +kernel
abbrev cJ15_checkIndex_7cf53 : ByteArray := prog_29_method_17_code
def yJ15_checkIndex_7cf53 : MethodName := ⟨RJ15, "checkIndex", "(II)I"⟩
def RJxf0a74 : String := "java/util/RandomAccess"
def TJxf0a74 : u_T := fun k => match k with
  | _ => ("", "", "", false)
def tyJxf0a74 : Nat → FieldType := fun k => match k with
  | _ => .int
theorem nmJxf0a74 : ∀ a, a < 0 → ∀ b, b < 0 → a ≠ b → (TJxf0a74 a).2.1 ≠ (TJxf0a74 b).2.1 := by decide +kernel
theorem tyJxf0a74_ok : ∀ k, k < 0 → parseFieldDescriptor (TJxf0a74 k).2.2.1 = some (tyJxf0a74 k) := by decide +kernel
def RJxa66e6 : String := "java/util/SequencedCollection"
def TJxa66e6 : u_T := fun k => match k with
  | _ => ("", "", "", false)
def tyJxa66e6 : Nat → FieldType := fun k => match k with
  | _ => .int
theorem nmJxa66e6 : ∀ a, a < 0 → ∀ b, b < 0 → a ≠ b → (TJxa66e6 a).2.1 ≠ (TJxa66e6 b).2.1 := by decide +kernel
theorem tyJxa66e6_ok : ∀ k, k < 0 → parseFieldDescriptor (TJxa66e6 k).2.2.1 = some (tyJxa66e6 k) := by decide +kernel
def RJ8 : String := "jdk/internal/util/ArraysSupport"
def TJ8 : u_T := fun k => match k with
  | _ => ("", "", "", false)
def tyJ8 : Nat → FieldType := fun k => match k with
  | _ => .int
theorem nmJ8 : ∀ a, a < 0 → ∀ b, b < 0 → a ≠ b → (TJ8 a).2.1 ≠ (TJ8 b).2.1 := by decide +kernel
theorem tyJ8_ok : ∀ k, k < 0 → parseFieldDescriptor (TJ8 k).2.2.1 = some (tyJ8 k) := by decide +kernel
abbrev cJ8_newLength_cabcc : ByteArray := prog_32_method_27_code
def yJ8_newLength_cabcc : MethodName := ⟨RJ8, "newLength", "(III)I"⟩
abbrev cJ8_hugeLength_7cf53 : ByteArray := prog_32_method_28_code
def yJ8_hugeLength_7cf53 : MethodName := ⟨RJ8, "hugeLength", "(II)I"⟩
def RJ3 : String := "jdk/internal/util/Preconditions"
def TJ3 : u_T := fun k => match k with
  | _ => ("", "", "", false)
def tyJ3 : Nat → FieldType := fun k => match k with
  | _ => .int
theorem nmJ3 : ∀ a, a < 0 → ∀ b, b < 0 → a ≠ b → (TJ3 a).2.1 ≠ (TJ3 b).2.1 := by decide +kernel
theorem tyJ3_ok : ∀ k, k < 0 → parseFieldDescriptor (TJ3 k).2.2.1 = some (tyJ3 k) := by decide +kernel
abbrev cJ3_checkIndex_8e157 : ByteArray := prog_33_method_11_code
def yJ3_checkIndex_8e157 : MethodName := ⟨RJ3, "checkIndex", "(IILjava/util/function/BiFunction;)I"⟩
def RL : String := "LineKeeperLaw"
abbrev cL_addName : ByteArray := method_3_code
def yL_addName : MethodName := ⟨RL, "addName", "(LLineKeeper;I[J)I"⟩
abbrev cL_place : ByteArray := method_4_code
def yL_place : MethodName := ⟨RL, "place", "(LLineKeeper;II[J)I"⟩
abbrev cL_link : ByteArray := method_5_code
def yL_link : MethodName := ⟨RL, "link", "(LLineKeeper;I[J)I"⟩
abbrev cL_take : ByteArray := method_6_code
def yL_take : MethodName := ⟨RL, "take", "(LLineKeeper;I[J)I"⟩
abbrev cL_addressOf : ByteArray := method_7_code
def yL_addressOf : MethodName := ⟨RL, "addressOf", "(LLineKeeper;II[J)I"⟩
abbrev cL_nameAt : ByteArray := method_8_code
def yL_nameAt : MethodName := ⟨RL, "nameAt", "(LLineKeeper;I[J)I"⟩
abbrev cL_meet : ByteArray := method_9_code
def yL_meet : MethodName := ⟨RL, "meet", "(LLineKeeper;II[J)I"⟩
abbrev cL_read : ByteArray := method_10_code
def yL_read : MethodName := ⟨RL, "read", "(LLineKeeper;III[J)I"⟩
abbrev cL_write : ByteArray := method_11_code
def yL_write : MethodName := ⟨RL, "write", "(LLineKeeper;III[J)I"⟩
abbrev cL_empty : ByteArray := method_12_code
def yL_empty : MethodName := ⟨RL, "empty", "(LLineKeeper;I[J)I"⟩
abbrev cL_setAhead : ByteArray := method_13_code
def yL_setAhead : MethodName := ⟨RL, "setAhead", "(LLineKeeper;IZ[J)I"⟩
abbrev cL_costOf : ByteArray := method_14_code
def yL_costOf : MethodName := ⟨RL, "costOf", "(LLineKeeper;I[J)I"⟩
abbrev cL_costByReplay : ByteArray := method_15_code
def yL_costByReplay : MethodName := ⟨RL, "costByReplay", "(LLineKeeper;I[J)I"⟩
abbrev cL_causeOf : ByteArray := method_16_code
def yL_causeOf : MethodName := ⟨RL, "causeOf", "(LLineKeeper;I[J)I"⟩
abbrev cL_state : ByteArray := method_17_code
def yL_state : MethodName := ⟨RL, "state", "(LLineKeeper;II[J)I"⟩
abbrev cL_owner : ByteArray := method_18_code
def yL_owner : MethodName := ⟨RL, "owner", "(LLineKeeper;I[J)I"⟩
abbrev cL_holders : ByteArray := method_19_code
def yL_holders : MethodName := ⟨RL, "holders", "(LLineKeeper;I[J)I"⟩
abbrev cL_lines : ByteArray := method_20_code
def yL_lines : MethodName := ⟨RL, "lines", "(LLineKeeper;I[J)I"⟩
abbrev cL_oldest : ByteArray := method_21_code
def yL_oldest : MethodName := ⟨RL, "oldest", "(LLineKeeper;II[J)I"⟩
abbrev cL_count : ByteArray := method_22_code
def yL_count : MethodName := ⟨RL, "count", "(LLineKeeper;IC[J)I"⟩
abbrev cL_bill : ByteArray := method_23_code
def yL_bill : MethodName := ⟨RL, "bill", "(LLineKeeper;I[J)I"⟩
abbrev cL_worst : ByteArray := method_24_code
def yL_worst : MethodName := ⟨RL, "worst", "(LLineKeeper;[J)I"⟩
abbrev cL_cycles : ByteArray := method_25_code
def yL_cycles : MethodName := ⟨RL, "cycles", "(LLineKeeper;I[J)I"⟩
abbrev cL_fetched : ByteArray := method_26_code
def yL_fetched : MethodName := ⟨RL, "fetched", "(LLineKeeper;I[J)I"⟩
abbrev cL_useful : ByteArray := method_27_code
def yL_useful : MethodName := ⟨RL, "useful", "(LLineKeeper;I[J)I"⟩
abbrev cL_wrong : ByteArray := method_28_code
def yL_wrong : MethodName := ⟨RL, "wrong", "(LLineKeeper;I[J)I"⟩
abbrev cL_missShare : ByteArray := method_29_code
def yL_missShare : MethodName := ⟨RL, "missShare", "(LLineKeeper;[D)I"⟩
abbrev cL_meanCost : ByteArray := method_30_code
def yL_meanCost : MethodName := ⟨RL, "meanCost", "(LLineKeeper;[D)I"⟩
abbrev cL_law : ByteArray := code
def yL_law : MethodName := ⟨RL, "law", "([I)Z"⟩
abbrev vwCl : List vw_C := [(RJ0, TJ0, 2), (RJx00060, TJx00060, 6), (RJx4a65c, TJx4a65c, 3), (RX0, TX0, 11), (RX1, TX1, 6), (RX2, TX2, 4), (RX3, TX3, 5), (RX4, TX4, 21)]
end
section
theorem dX0_init_0 : decode cX0_init 0 = .ok (.aload_n 0, 1) := by decide +kernel
theorem dX0_init_1 : decode cX0_init 1 = .ok (.invokespecial 3, 3) := by decide +kernel
theorem dX0_init_4 : decode cX0_init 4 = .ok (.aload_n 0, 1) := by decide +kernel
theorem dX0_init_5 : decode cX0_init 5 = .ok (.sipush 256, 3) := by decide +kernel
theorem dX0_init_8 : decode cX0_init 8 = .ok (.newarray .char, 2) := by decide +kernel
theorem dX0_init_10 : decode cX0_init 10 = .ok (.putfield 11, 3) := by decide +kernel
theorem dX0_init_13 : decode cX0_init 13 = .ok (.aload_n 0, 1) := by decide +kernel
theorem dX0_init_14 : decode cX0_init 14 = .ok (.sipush 256, 3) := by decide +kernel
theorem dX0_init_17 : decode cX0_init 17 = .ok (.newarray .int, 2) := by decide +kernel
theorem dX0_init_19 : decode cX0_init 19 = .ok (.putfield 15, 3) := by decide +kernel
theorem dX0_init_22 : decode cX0_init 22 = .ok (.aload_n 0, 1) := by decide +kernel
theorem dX0_init_23 : decode cX0_init 23 = .ok (.sipush 256, 3) := by decide +kernel
theorem dX0_init_26 : decode cX0_init 26 = .ok (.newarray .int, 2) := by decide +kernel
theorem dX0_init_28 : decode cX0_init 28 = .ok (.putfield 19, 3) := by decide +kernel
theorem dX0_init_31 : decode cX0_init 31 = .ok (.aload_n 0, 1) := by decide +kernel
theorem dX0_init_32 : decode cX0_init 32 = .ok (.sipush 256, 3) := by decide +kernel
theorem dX0_init_35 : decode cX0_init 35 = .ok (.newarray .boolean, 2) := by decide +kernel
theorem dX0_init_37 : decode cX0_init 37 = .ok (.putfield 22, 3) := by decide +kernel
theorem dX0_init_40 : decode cX0_init 40 = .ok (.aload_n 0, 1) := by decide +kernel
theorem dX0_init_41 : decode cX0_init 41 = .ok (.iconst 4, 1) := by decide +kernel
theorem dX0_init_42 : decode cX0_init 42 = .ok (.newarray .boolean, 2) := by decide +kernel
theorem dX0_init_44 : decode cX0_init 44 = .ok (.putfield 26, 3) := by decide +kernel
theorem dX0_init_47 : decode cX0_init 47 = .ok (.aload_n 0, 1) := by decide +kernel
theorem dX0_init_48 : decode cX0_init 48 = .ok (.iconst 4, 1) := by decide +kernel
theorem dX0_init_49 : decode cX0_init 49 = .ok (.newarray .int, 2) := by decide +kernel
theorem dX0_init_51 : decode cX0_init 51 = .ok (.putfield 29, 3) := by decide +kernel
theorem dX0_init_54 : decode cX0_init 54 = .ok (.aload_n 0, 1) := by decide +kernel
theorem dX0_init_55 : decode cX0_init 55 = .ok (.iconst 4, 1) := by decide +kernel
theorem dX0_init_56 : decode cX0_init 56 = .ok (.newarray .int, 2) := by decide +kernel
theorem dX0_init_58 : decode cX0_init 58 = .ok (.putfield 32, 3) := by decide +kernel
theorem dX0_init_61 : decode cX0_init 61 = .ok (.aload_n 0, 1) := by decide +kernel
theorem dX0_init_62 : decode cX0_init 62 = .ok (.iconst 4, 1) := by decide +kernel
theorem dX0_init_63 : decode cX0_init 63 = .ok (.newarray .int, 2) := by decide +kernel
theorem dX0_init_65 : decode cX0_init 65 = .ok (.putfield 35, 3) := by decide +kernel
theorem dX0_init_68 : decode cX0_init 68 = .ok (.aload_n 0, 1) := by decide +kernel
theorem dX0_init_69 : decode cX0_init 69 = .ok (.iconst 4, 1) := by decide +kernel
theorem dX0_init_70 : decode cX0_init 70 = .ok (.newarray .int, 2) := by decide +kernel
theorem dX0_init_72 : decode cX0_init 72 = .ok (.putfield 38, 3) := by decide +kernel
theorem dX0_init_75 : decode cX0_init 75 = .ok (.aload_n 0, 1) := by decide +kernel
theorem dX0_init_76 : decode cX0_init 76 = .ok (.iconst 4, 1) := by decide +kernel
theorem dX0_init_77 : decode cX0_init 77 = .ok (.newarray .int, 2) := by decide +kernel
theorem dX0_init_79 : decode cX0_init 79 = .ok (.putfield 41, 3) := by decide +kernel
theorem dX0_init_82 : decode cX0_init 82 = .ok (.aload_n 0, 1) := by decide +kernel
theorem dX0_init_83 : decode cX0_init 83 = .ok (.iconst 0, 1) := by decide +kernel
theorem dX0_init_84 : decode cX0_init 84 = .ok (.putfield 44, 3) := by decide +kernel
theorem dX0_init_87 : decode cX0_init 87 = .ok (.aload_n 0, 1) := by decide +kernel
theorem dX0_init_88 : decode cX0_init 88 = .ok (.invokevirtual 48, 3) := by decide +kernel
theorem dX0_init_91 : decode cX0_init 91 = .ok (.return_, 1) := by decide +kernel
theorem dX0_clear_0 : decode cX0_clear 0 = .ok (.iconst 0, 1) := by decide +kernel
theorem dX0_clear_1 : decode cX0_clear 1 = .ok (.istore_n 1, 1) := by decide +kernel
theorem dX0_clear_2 : decode cX0_clear 2 = .ok (.iload_n 1, 1) := by decide +kernel
theorem dX0_clear_3 : decode cX0_clear 3 = .ok (.sipush 256, 3) := by decide +kernel
theorem dX0_clear_6 : decode cX0_clear 6 = .ok (.if_icmp .ge 39, 3) := by decide +kernel
theorem dX0_clear_9 : decode cX0_clear 9 = .ok (.aload_n 0, 1) := by decide +kernel
theorem dX0_clear_10 : decode cX0_clear 10 = .ok (.getfield 11, 3) := by decide +kernel
theorem dX0_clear_13 : decode cX0_clear 13 = .ok (.iload_n 1, 1) := by decide +kernel
theorem dX0_clear_14 : decode cX0_clear 14 = .ok (.bipush 45, 2) := by decide +kernel
theorem dX0_clear_16 : decode cX0_clear 16 = .ok (.castore, 1) := by decide +kernel
theorem dX0_clear_17 : decode cX0_clear 17 = .ok (.aload_n 0, 1) := by decide +kernel
theorem dX0_clear_18 : decode cX0_clear 18 = .ok (.getfield 15, 3) := by decide +kernel
theorem dX0_clear_21 : decode cX0_clear 21 = .ok (.iload_n 1, 1) := by decide +kernel
theorem dX0_clear_22 : decode cX0_clear 22 = .ok (.iconst 0, 1) := by decide +kernel
theorem dX0_clear_23 : decode cX0_clear 23 = .ok (.iastore, 1) := by decide +kernel
theorem dX0_clear_24 : decode cX0_clear 24 = .ok (.aload_n 0, 1) := by decide +kernel
theorem dX0_clear_25 : decode cX0_clear 25 = .ok (.getfield 19, 3) := by decide +kernel
theorem dX0_clear_28 : decode cX0_clear 28 = .ok (.iload_n 1, 1) := by decide +kernel
theorem dX0_clear_29 : decode cX0_clear 29 = .ok (.bipush (-2), 2) := by decide +kernel
theorem dX0_clear_31 : decode cX0_clear 31 = .ok (.iastore, 1) := by decide +kernel
theorem dX0_clear_32 : decode cX0_clear 32 = .ok (.aload_n 0, 1) := by decide +kernel
theorem dX0_clear_33 : decode cX0_clear 33 = .ok (.getfield 22, 3) := by decide +kernel
theorem dX0_clear_36 : decode cX0_clear 36 = .ok (.iload_n 1, 1) := by decide +kernel
theorem dX0_clear_37 : decode cX0_clear 37 = .ok (.iconst 0, 1) := by decide +kernel
theorem dX0_clear_38 : decode cX0_clear 38 = .ok (.bastore, 1) := by decide +kernel
theorem dX0_clear_39 : decode cX0_clear 39 = .ok (.iinc 1 1, 3) := by decide +kernel
theorem dX0_clear_42 : decode cX0_clear 42 = .ok (.goto (-40), 3) := by decide +kernel
theorem dX0_clear_45 : decode cX0_clear 45 = .ok (.iconst 0, 1) := by decide +kernel
theorem dX0_clear_46 : decode cX0_clear 46 = .ok (.istore_n 1, 1) := by decide +kernel
theorem dX0_clear_47 : decode cX0_clear 47 = .ok (.iload_n 1, 1) := by decide +kernel
theorem dX0_clear_48 : decode cX0_clear 48 = .ok (.iconst 4, 1) := by decide +kernel
theorem dX0_clear_49 : decode cX0_clear 49 = .ok (.if_icmp .ge 36, 3) := by decide +kernel
theorem dX0_clear_52 : decode cX0_clear 52 = .ok (.aload_n 0, 1) := by decide +kernel
theorem dX0_clear_53 : decode cX0_clear 53 = .ok (.iload_n 1, 1) := by decide +kernel
theorem dX0_clear_54 : decode cX0_clear 54 = .ok (.iconst 0, 1) := by decide +kernel
theorem dX0_clear_55 : decode cX0_clear 55 = .ok (.invokevirtual 51, 3) := by decide +kernel
theorem dX0_clear_58 : decode cX0_clear 58 = .ok (.aload_n 0, 1) := by decide +kernel
theorem dX0_clear_59 : decode cX0_clear 59 = .ok (.getfield 35, 3) := by decide +kernel
theorem dX0_clear_62 : decode cX0_clear 62 = .ok (.iload_n 1, 1) := by decide +kernel
theorem dX0_clear_63 : decode cX0_clear 63 = .ok (.iconst 0, 1) := by decide +kernel
theorem dX0_clear_64 : decode cX0_clear 64 = .ok (.iastore, 1) := by decide +kernel
theorem dX0_clear_65 : decode cX0_clear 65 = .ok (.aload_n 0, 1) := by decide +kernel
theorem dX0_clear_66 : decode cX0_clear 66 = .ok (.getfield 38, 3) := by decide +kernel
theorem dX0_clear_69 : decode cX0_clear 69 = .ok (.iload_n 1, 1) := by decide +kernel
theorem dX0_clear_70 : decode cX0_clear 70 = .ok (.iconst 0, 1) := by decide +kernel
theorem dX0_clear_71 : decode cX0_clear 71 = .ok (.iastore, 1) := by decide +kernel
theorem dX0_clear_72 : decode cX0_clear 72 = .ok (.aload_n 0, 1) := by decide +kernel
theorem dX0_clear_73 : decode cX0_clear 73 = .ok (.getfield 41, 3) := by decide +kernel
theorem dX0_clear_76 : decode cX0_clear 76 = .ok (.iload_n 1, 1) := by decide +kernel
theorem dX0_clear_77 : decode cX0_clear 77 = .ok (.iconst 0, 1) := by decide +kernel
theorem dX0_clear_78 : decode cX0_clear 78 = .ok (.iastore, 1) := by decide +kernel
theorem dX0_clear_79 : decode cX0_clear 79 = .ok (.iinc 1 1, 3) := by decide +kernel
theorem dX0_clear_82 : decode cX0_clear 82 = .ok (.goto (-35), 3) := by decide +kernel
theorem dX0_clear_85 : decode cX0_clear 85 = .ok (.aload_n 0, 1) := by decide +kernel
theorem dX0_clear_86 : decode cX0_clear 86 = .ok (.iconst 0, 1) := by decide +kernel
theorem dX0_clear_87 : decode cX0_clear 87 = .ok (.putfield 44, 3) := by decide +kernel
theorem dX0_clear_90 : decode cX0_clear 90 = .ok (.return_, 1) := by decide +kernel
theorem dX0_isAhead_0 : decode cX0_isAhead 0 = .ok (.aload_n 0, 1) := by decide +kernel
theorem dX0_isAhead_1 : decode cX0_isAhead 1 = .ok (.getfield 26, 3) := by decide +kernel
theorem dX0_isAhead_4 : decode cX0_isAhead 4 = .ok (.iload_n 1, 1) := by decide +kernel
theorem dX0_isAhead_5 : decode cX0_isAhead 5 = .ok (.baload, 1) := by decide +kernel
theorem dX0_isAhead_6 : decode cX0_isAhead 6 = .ok (.ireturn, 1) := by decide +kernel
theorem dX0_tellAhead_0 : decode cX0_tellAhead 0 = .ok (.aload_n 0, 1) := by decide +kernel
theorem dX0_tellAhead_1 : decode cX0_tellAhead 1 = .ok (.getfield 26, 3) := by decide +kernel
theorem dX0_tellAhead_4 : decode cX0_tellAhead 4 = .ok (.iload_n 1, 1) := by decide +kernel
theorem dX0_tellAhead_5 : decode cX0_tellAhead 5 = .ok (.iload_n 2, 1) := by decide +kernel
theorem dX0_tellAhead_6 : decode cX0_tellAhead 6 = .ok (.bastore, 1) := by decide +kernel
theorem dX0_tellAhead_7 : decode cX0_tellAhead 7 = .ok (.aload_n 0, 1) := by decide +kernel
theorem dX0_tellAhead_8 : decode cX0_tellAhead 8 = .ok (.getfield 29, 3) := by decide +kernel
theorem dX0_tellAhead_11 : decode cX0_tellAhead 11 = .ok (.iload_n 1, 1) := by decide +kernel
theorem dX0_tellAhead_12 : decode cX0_tellAhead 12 = .ok (.iconst (-1), 1) := by decide +kernel
theorem dX0_tellAhead_13 : decode cX0_tellAhead 13 = .ok (.iastore, 1) := by decide +kernel
theorem dX0_tellAhead_14 : decode cX0_tellAhead 14 = .ok (.aload_n 0, 1) := by decide +kernel
theorem dX0_tellAhead_15 : decode cX0_tellAhead 15 = .ok (.getfield 32, 3) := by decide +kernel
theorem dX0_tellAhead_18 : decode cX0_tellAhead 18 = .ok (.iload_n 1, 1) := by decide +kernel
theorem dX0_tellAhead_19 : decode cX0_tellAhead 19 = .ok (.iconst 0, 1) := by decide +kernel
theorem dX0_tellAhead_20 : decode cX0_tellAhead 20 = .ok (.iastore, 1) := by decide +kernel
theorem dX0_tellAhead_21 : decode cX0_tellAhead 21 = .ok (.return_, 1) := by decide +kernel
theorem dX0_countFetched_0 : decode cX0_countFetched 0 = .ok (.aload_n 0, 1) := by decide +kernel
theorem dX0_countFetched_1 : decode cX0_countFetched 1 = .ok (.getfield 35, 3) := by decide +kernel
theorem dX0_countFetched_4 : decode cX0_countFetched 4 = .ok (.iload_n 1, 1) := by decide +kernel
theorem dX0_countFetched_5 : decode cX0_countFetched 5 = .ok (.iaload, 1) := by decide +kernel
theorem dX0_countFetched_6 : decode cX0_countFetched 6 = .ok (.ireturn, 1) := by decide +kernel
theorem dX0_countUseful_0 : decode cX0_countUseful 0 = .ok (.aload_n 0, 1) := by decide +kernel
theorem dX0_countUseful_1 : decode cX0_countUseful 1 = .ok (.getfield 38, 3) := by decide +kernel
theorem dX0_countUseful_4 : decode cX0_countUseful 4 = .ok (.iload_n 1, 1) := by decide +kernel
theorem dX0_countUseful_5 : decode cX0_countUseful 5 = .ok (.iaload, 1) := by decide +kernel
theorem dX0_countUseful_6 : decode cX0_countUseful 6 = .ok (.ireturn, 1) := by decide +kernel
theorem dX0_countWrong_0 : decode cX0_countWrong 0 = .ok (.aload_n 0, 1) := by decide +kernel
theorem dX0_countWrong_1 : decode cX0_countWrong 1 = .ok (.getfield 41, 3) := by decide +kernel
theorem dX0_countWrong_4 : decode cX0_countWrong 4 = .ok (.iload_n 1, 1) := by decide +kernel
theorem dX0_countWrong_5 : decode cX0_countWrong 5 = .ok (.iaload, 1) := by decide +kernel
theorem dX0_countWrong_6 : decode cX0_countWrong 6 = .ok (.ireturn, 1) := by decide +kernel
theorem dX0_stateOf_0 : decode cX0_stateOf 0 = .ok (.aload_n 0, 1) := by decide +kernel
theorem dX0_stateOf_1 : decode cX0_stateOf 1 = .ok (.getfield 11, 3) := by decide +kernel
theorem dX0_stateOf_4 : decode cX0_stateOf 4 = .ok (.iload_n 1, 1) := by decide +kernel
theorem dX0_stateOf_5 : decode cX0_stateOf 5 = .ok (.bipush 64, 2) := by decide +kernel
theorem dX0_stateOf_7 : decode cX0_stateOf 7 = .ok (.imul, 1) := by decide +kernel
theorem dX0_stateOf_8 : decode cX0_stateOf 8 = .ok (.iload_n 2, 1) := by decide +kernel
theorem dX0_stateOf_9 : decode cX0_stateOf 9 = .ok (.iadd, 1) := by decide +kernel
theorem dX0_stateOf_10 : decode cX0_stateOf 10 = .ok (.caload, 1) := by decide +kernel
theorem dX0_stateOf_11 : decode cX0_stateOf 11 = .ok (.ireturn, 1) := by decide +kernel
theorem dX0_ownerOf_0 : decode cX0_ownerOf 0 = .ok (.iconst 0, 1) := by decide +kernel
theorem dX0_ownerOf_1 : decode cX0_ownerOf 1 = .ok (.istore_n 2, 1) := by decide +kernel
theorem dX0_ownerOf_2 : decode cX0_ownerOf 2 = .ok (.iload_n 2, 1) := by decide +kernel
theorem dX0_ownerOf_3 : decode cX0_ownerOf 3 = .ok (.iconst 4, 1) := by decide +kernel
theorem dX0_ownerOf_4 : decode cX0_ownerOf 4 = .ok (.if_icmp .ge 35, 3) := by decide +kernel
theorem dX0_ownerOf_7 : decode cX0_ownerOf 7 = .ok (.aload_n 0, 1) := by decide +kernel
theorem dX0_ownerOf_8 : decode cX0_ownerOf 8 = .ok (.getfield 11, 3) := by decide +kernel
theorem dX0_ownerOf_11 : decode cX0_ownerOf 11 = .ok (.iload_n 2, 1) := by decide +kernel
theorem dX0_ownerOf_12 : decode cX0_ownerOf 12 = .ok (.bipush 64, 2) := by decide +kernel
theorem dX0_ownerOf_14 : decode cX0_ownerOf 14 = .ok (.imul, 1) := by decide +kernel
theorem dX0_ownerOf_15 : decode cX0_ownerOf 15 = .ok (.iload_n 1, 1) := by decide +kernel
theorem dX0_ownerOf_16 : decode cX0_ownerOf 16 = .ok (.iadd, 1) := by decide +kernel
theorem dX0_ownerOf_17 : decode cX0_ownerOf 17 = .ok (.caload, 1) := by decide +kernel
theorem dX0_ownerOf_18 : decode cX0_ownerOf 18 = .ok (.istore_n 3, 1) := by decide +kernel
theorem dX0_ownerOf_19 : decode cX0_ownerOf 19 = .ok (.iload_n 3, 1) := by decide +kernel
theorem dX0_ownerOf_20 : decode cX0_ownerOf 20 = .ok (.bipush 101, 2) := by decide +kernel
theorem dX0_ownerOf_22 : decode cX0_ownerOf 22 = .ok (.if_icmp .eq 9, 3) := by decide +kernel
theorem dX0_ownerOf_25 : decode cX0_ownerOf 25 = .ok (.iload_n 3, 1) := by decide +kernel
theorem dX0_ownerOf_26 : decode cX0_ownerOf 26 = .ok (.bipush 109, 2) := by decide +kernel
theorem dX0_ownerOf_28 : decode cX0_ownerOf 28 = .ok (.if_icmp .ne 5, 3) := by decide +kernel
theorem dX0_ownerOf_31 : decode cX0_ownerOf 31 = .ok (.iload_n 2, 1) := by decide +kernel
theorem dX0_ownerOf_32 : decode cX0_ownerOf 32 = .ok (.ireturn, 1) := by decide +kernel
theorem dX0_ownerOf_33 : decode cX0_ownerOf 33 = .ok (.iinc 2 1, 3) := by decide +kernel
theorem dX0_ownerOf_36 : decode cX0_ownerOf 36 = .ok (.goto (-34), 3) := by decide +kernel
theorem dX0_ownerOf_39 : decode cX0_ownerOf 39 = .ok (.iconst (-1), 1) := by decide +kernel
theorem dX0_ownerOf_40 : decode cX0_ownerOf 40 = .ok (.ireturn, 1) := by decide +kernel
theorem dX0_countHolders_0 : decode cX0_countHolders 0 = .ok (.iconst 0, 1) := by decide +kernel
theorem dX0_countHolders_1 : decode cX0_countHolders 1 = .ok (.istore_n 2, 1) := by decide +kernel
theorem dX0_countHolders_2 : decode cX0_countHolders 2 = .ok (.iconst 0, 1) := by decide +kernel
theorem dX0_countHolders_3 : decode cX0_countHolders 3 = .ok (.istore_n 3, 1) := by decide +kernel
theorem dX0_countHolders_4 : decode cX0_countHolders 4 = .ok (.iload_n 3, 1) := by decide +kernel
theorem dX0_countHolders_5 : decode cX0_countHolders 5 = .ok (.iconst 4, 1) := by decide +kernel
theorem dX0_countHolders_6 : decode cX0_countHolders 6 = .ok (.if_icmp .ge 28, 3) := by decide +kernel
theorem dX0_countHolders_9 : decode cX0_countHolders 9 = .ok (.aload_n 0, 1) := by decide +kernel
theorem dX0_countHolders_10 : decode cX0_countHolders 10 = .ok (.getfield 11, 3) := by decide +kernel
theorem dX0_countHolders_13 : decode cX0_countHolders 13 = .ok (.iload_n 3, 1) := by decide +kernel
theorem dX0_countHolders_14 : decode cX0_countHolders 14 = .ok (.bipush 64, 2) := by decide +kernel
theorem dX0_countHolders_16 : decode cX0_countHolders 16 = .ok (.imul, 1) := by decide +kernel
theorem dX0_countHolders_17 : decode cX0_countHolders 17 = .ok (.iload_n 1, 1) := by decide +kernel
theorem dX0_countHolders_18 : decode cX0_countHolders 18 = .ok (.iadd, 1) := by decide +kernel
theorem dX0_countHolders_19 : decode cX0_countHolders 19 = .ok (.caload, 1) := by decide +kernel
theorem dX0_countHolders_20 : decode cX0_countHolders 20 = .ok (.bipush 45, 2) := by decide +kernel
theorem dX0_countHolders_22 : decode cX0_countHolders 22 = .ok (.if_icmp .eq 6, 3) := by decide +kernel
theorem dX0_countHolders_25 : decode cX0_countHolders 25 = .ok (.iinc 2 1, 3) := by decide +kernel
theorem dX0_countHolders_28 : decode cX0_countHolders 28 = .ok (.iinc 3 1, 3) := by decide +kernel
theorem dX0_countHolders_31 : decode cX0_countHolders 31 = .ok (.goto (-27), 3) := by decide +kernel
theorem dX0_countHolders_34 : decode cX0_countHolders 34 = .ok (.iload_n 2, 1) := by decide +kernel
theorem dX0_countHolders_35 : decode cX0_countHolders 35 = .ok (.ireturn, 1) := by decide +kernel
theorem dX0_countLines_0 : decode cX0_countLines 0 = .ok (.iconst 0, 1) := by decide +kernel
theorem dX0_countLines_1 : decode cX0_countLines 1 = .ok (.istore_n 3, 1) := by decide +kernel
theorem dX0_countLines_2 : decode cX0_countLines 2 = .ok (.iload_n 2, 1) := by decide +kernel
theorem dX0_countLines_3 : decode cX0_countLines 3 = .ok (.istore 4, 2) := by decide +kernel
theorem dX0_countLines_5 : decode cX0_countLines 5 = .ok (.iload 4, 2) := by decide +kernel
theorem dX0_countLines_7 : decode cX0_countLines 7 = .ok (.bipush 64, 2) := by decide +kernel
theorem dX0_countLines_9 : decode cX0_countLines 9 = .ok (.if_icmp .ge 29, 3) := by decide +kernel
theorem dX0_countLines_12 : decode cX0_countLines 12 = .ok (.aload_n 0, 1) := by decide +kernel
theorem dX0_countLines_13 : decode cX0_countLines 13 = .ok (.getfield 11, 3) := by decide +kernel
theorem dX0_countLines_16 : decode cX0_countLines 16 = .ok (.iload_n 1, 1) := by decide +kernel
theorem dX0_countLines_17 : decode cX0_countLines 17 = .ok (.bipush 64, 2) := by decide +kernel
theorem dX0_countLines_19 : decode cX0_countLines 19 = .ok (.imul, 1) := by decide +kernel
theorem dX0_countLines_20 : decode cX0_countLines 20 = .ok (.iload 4, 2) := by decide +kernel
theorem dX0_countLines_22 : decode cX0_countLines 22 = .ok (.iadd, 1) := by decide +kernel
theorem dX0_countLines_23 : decode cX0_countLines 23 = .ok (.caload, 1) := by decide +kernel
theorem dX0_countLines_24 : decode cX0_countLines 24 = .ok (.bipush 45, 2) := by decide +kernel
theorem dX0_countLines_26 : decode cX0_countLines 26 = .ok (.if_icmp .eq 6, 3) := by decide +kernel
theorem dX0_countLines_29 : decode cX0_countLines 29 = .ok (.iinc 3 1, 3) := by decide +kernel
theorem dX0_countLines_32 : decode cX0_countLines 32 = .ok (.iinc 4 4, 3) := by decide +kernel
theorem dX0_countLines_35 : decode cX0_countLines 35 = .ok (.goto (-30), 3) := by decide +kernel
theorem dX0_countLines_38 : decode cX0_countLines 38 = .ok (.iload_n 3, 1) := by decide +kernel
theorem dX0_countLines_39 : decode cX0_countLines 39 = .ok (.ireturn, 1) := by decide +kernel
theorem dX0_oldestOf_0 : decode cX0_oldestOf 0 = .ok (.iconst (-1), 1) := by decide +kernel
theorem dX0_oldestOf_1 : decode cX0_oldestOf 1 = .ok (.istore_n 3, 1) := by decide +kernel
theorem dX0_oldestOf_2 : decode cX0_oldestOf 2 = .ok (.iconst 0, 1) := by decide +kernel
theorem dX0_oldestOf_3 : decode cX0_oldestOf 3 = .ok (.istore 4, 2) := by decide +kernel
theorem dX0_oldestOf_5 : decode cX0_oldestOf 5 = .ok (.iload_n 2, 1) := by decide +kernel
theorem dX0_oldestOf_6 : decode cX0_oldestOf 6 = .ok (.istore 5, 2) := by decide +kernel
theorem dX0_oldestOf_8 : decode cX0_oldestOf 8 = .ok (.iload 5, 2) := by decide +kernel
theorem dX0_oldestOf_10 : decode cX0_oldestOf 10 = .ok (.bipush 64, 2) := by decide +kernel
theorem dX0_oldestOf_12 : decode cX0_oldestOf 12 = .ok (.if_icmp .ge 59, 3) := by decide +kernel
theorem dX0_oldestOf_15 : decode cX0_oldestOf 15 = .ok (.iload_n 1, 1) := by decide +kernel
theorem dX0_oldestOf_16 : decode cX0_oldestOf 16 = .ok (.bipush 64, 2) := by decide +kernel
theorem dX0_oldestOf_18 : decode cX0_oldestOf 18 = .ok (.imul, 1) := by decide +kernel
theorem dX0_oldestOf_19 : decode cX0_oldestOf 19 = .ok (.iload 5, 2) := by decide +kernel
theorem dX0_oldestOf_21 : decode cX0_oldestOf 21 = .ok (.iadd, 1) := by decide +kernel
theorem dX0_oldestOf_22 : decode cX0_oldestOf 22 = .ok (.istore 6, 2) := by decide +kernel
theorem dX0_oldestOf_24 : decode cX0_oldestOf 24 = .ok (.aload_n 0, 1) := by decide +kernel
theorem dX0_oldestOf_25 : decode cX0_oldestOf 25 = .ok (.getfield 11, 3) := by decide +kernel
theorem dX0_oldestOf_28 : decode cX0_oldestOf 28 = .ok (.iload 6, 2) := by decide +kernel
theorem dX0_oldestOf_30 : decode cX0_oldestOf 30 = .ok (.caload, 1) := by decide +kernel
theorem dX0_oldestOf_31 : decode cX0_oldestOf 31 = .ok (.bipush 45, 2) := by decide +kernel
theorem dX0_oldestOf_33 : decode cX0_oldestOf 33 = .ok (.if_icmp .eq 32, 3) := by decide +kernel
theorem dX0_oldestOf_36 : decode cX0_oldestOf 36 = .ok (.iload_n 3, 1) := by decide +kernel
theorem dX0_oldestOf_37 : decode cX0_oldestOf 37 = .ok (.iconst (-1), 1) := by decide +kernel
theorem dX0_oldestOf_38 : decode cX0_oldestOf 38 = .ok (.if_icmp .eq 15, 3) := by decide +kernel
theorem dX0_oldestOf_41 : decode cX0_oldestOf 41 = .ok (.aload_n 0, 1) := by decide +kernel
theorem dX0_oldestOf_42 : decode cX0_oldestOf 42 = .ok (.getfield 15, 3) := by decide +kernel
theorem dX0_oldestOf_45 : decode cX0_oldestOf 45 = .ok (.iload 6, 2) := by decide +kernel
theorem dX0_oldestOf_47 : decode cX0_oldestOf 47 = .ok (.iaload, 1) := by decide +kernel
theorem dX0_oldestOf_48 : decode cX0_oldestOf 48 = .ok (.iload 4, 2) := by decide +kernel
theorem dX0_oldestOf_50 : decode cX0_oldestOf 50 = .ok (.if_icmp .ge 15, 3) := by decide +kernel
theorem dX0_oldestOf_53 : decode cX0_oldestOf 53 = .ok (.iload 5, 2) := by decide +kernel
theorem dX0_oldestOf_55 : decode cX0_oldestOf 55 = .ok (.istore_n 3, 1) := by decide +kernel
theorem dX0_oldestOf_56 : decode cX0_oldestOf 56 = .ok (.aload_n 0, 1) := by decide +kernel
theorem dX0_oldestOf_57 : decode cX0_oldestOf 57 = .ok (.getfield 15, 3) := by decide +kernel
theorem dX0_oldestOf_60 : decode cX0_oldestOf 60 = .ok (.iload 6, 2) := by decide +kernel
theorem dX0_oldestOf_62 : decode cX0_oldestOf 62 = .ok (.iaload, 1) := by decide +kernel
theorem dX0_oldestOf_63 : decode cX0_oldestOf 63 = .ok (.istore 4, 2) := by decide +kernel
theorem dX0_oldestOf_65 : decode cX0_oldestOf 65 = .ok (.iinc 5 4, 3) := by decide +kernel
theorem dX0_oldestOf_68 : decode cX0_oldestOf 68 = .ok (.goto (-60), 3) := by decide +kernel
theorem dX0_oldestOf_71 : decode cX0_oldestOf 71 = .ok (.iload_n 3, 1) := by decide +kernel
theorem dX0_oldestOf_72 : decode cX0_oldestOf 72 = .ok (.ireturn, 1) := by decide +kernel
theorem dX0_hasLoneOwners_0 : decode cX0_hasLoneOwners 0 = .ok (.iconst 0, 1) := by decide +kernel
theorem dX0_hasLoneOwners_1 : decode cX0_hasLoneOwners 1 = .ok (.istore_n 1, 1) := by decide +kernel
theorem dX0_hasLoneOwners_2 : decode cX0_hasLoneOwners 2 = .ok (.iload_n 1, 1) := by decide +kernel
theorem dX0_hasLoneOwners_3 : decode cX0_hasLoneOwners 3 = .ok (.bipush 64, 2) := by decide +kernel
theorem dX0_hasLoneOwners_5 : decode cX0_hasLoneOwners 5 = .ok (.if_icmp .ge 29, 3) := by decide +kernel
theorem dX0_hasLoneOwners_8 : decode cX0_hasLoneOwners 8 = .ok (.aload_n 0, 1) := by decide +kernel
theorem dX0_hasLoneOwners_9 : decode cX0_hasLoneOwners 9 = .ok (.iload_n 1, 1) := by decide +kernel
theorem dX0_hasLoneOwners_10 : decode cX0_hasLoneOwners 10 = .ok (.invokevirtual 55, 3) := by decide +kernel
theorem dX0_hasLoneOwners_13 : decode cX0_hasLoneOwners 13 = .ok (.iconst (-1), 1) := by decide +kernel
theorem dX0_hasLoneOwners_14 : decode cX0_hasLoneOwners 14 = .ok (.if_icmp .eq 14, 3) := by decide +kernel
theorem dX0_hasLoneOwners_17 : decode cX0_hasLoneOwners 17 = .ok (.aload_n 0, 1) := by decide +kernel
theorem dX0_hasLoneOwners_18 : decode cX0_hasLoneOwners 18 = .ok (.iload_n 1, 1) := by decide +kernel
theorem dX0_hasLoneOwners_19 : decode cX0_hasLoneOwners 19 = .ok (.invokevirtual 59, 3) := by decide +kernel
theorem dX0_hasLoneOwners_22 : decode cX0_hasLoneOwners 22 = .ok (.iconst 1, 1) := by decide +kernel
theorem dX0_hasLoneOwners_23 : decode cX0_hasLoneOwners 23 = .ok (.if_icmp .le 5, 3) := by decide +kernel
theorem dX0_hasLoneOwners_26 : decode cX0_hasLoneOwners 26 = .ok (.iconst 0, 1) := by decide +kernel
theorem dX0_hasLoneOwners_27 : decode cX0_hasLoneOwners 27 = .ok (.ireturn, 1) := by decide +kernel
theorem dX0_hasLoneOwners_28 : decode cX0_hasLoneOwners 28 = .ok (.iinc 1 1, 3) := by decide +kernel
theorem dX0_hasLoneOwners_31 : decode cX0_hasLoneOwners 31 = .ok (.goto (-29), 3) := by decide +kernel
theorem dX0_hasLoneOwners_34 : decode cX0_hasLoneOwners 34 = .ok (.iconst 1, 1) := by decide +kernel
theorem dX0_hasLoneOwners_35 : decode cX0_hasLoneOwners 35 = .ok (.ireturn, 1) := by decide +kernel
theorem dX0_hasStatesOf_0 : decode cX0_hasStatesOf 0 = .ok (.iconst 0, 1) := by decide +kernel
theorem dX0_hasStatesOf_1 : decode cX0_hasStatesOf 1 = .ok (.istore_n 2, 1) := by decide +kernel
theorem dX0_hasStatesOf_2 : decode cX0_hasStatesOf 2 = .ok (.iload_n 2, 1) := by decide +kernel
theorem dX0_hasStatesOf_3 : decode cX0_hasStatesOf 3 = .ok (.sipush 256, 3) := by decide +kernel
theorem dX0_hasStatesOf_6 : decode cX0_hasStatesOf 6 = .ok (.if_icmp .ge 26, 3) := by decide +kernel
theorem dX0_hasStatesOf_9 : decode cX0_hasStatesOf 9 = .ok (.aload_n 0, 1) := by decide +kernel
theorem dX0_hasStatesOf_10 : decode cX0_hasStatesOf 10 = .ok (.getfield 11, 3) := by decide +kernel
theorem dX0_hasStatesOf_13 : decode cX0_hasStatesOf 13 = .ok (.iload_n 2, 1) := by decide +kernel
theorem dX0_hasStatesOf_14 : decode cX0_hasStatesOf 14 = .ok (.caload, 1) := by decide +kernel
theorem dX0_hasStatesOf_15 : decode cX0_hasStatesOf 15 = .ok (.aload_n 1, 1) := by decide +kernel
theorem dX0_hasStatesOf_16 : decode cX0_hasStatesOf 16 = .ok (.getfield 11, 3) := by decide +kernel
theorem dX0_hasStatesOf_19 : decode cX0_hasStatesOf 19 = .ok (.iload_n 2, 1) := by decide +kernel
theorem dX0_hasStatesOf_20 : decode cX0_hasStatesOf 20 = .ok (.caload, 1) := by decide +kernel
theorem dX0_hasStatesOf_21 : decode cX0_hasStatesOf 21 = .ok (.if_icmp .eq 5, 3) := by decide +kernel
theorem dX0_hasStatesOf_24 : decode cX0_hasStatesOf 24 = .ok (.iconst 0, 1) := by decide +kernel
theorem dX0_hasStatesOf_25 : decode cX0_hasStatesOf 25 = .ok (.ireturn, 1) := by decide +kernel
theorem dX0_hasStatesOf_26 : decode cX0_hasStatesOf 26 = .ok (.iinc 2 1, 3) := by decide +kernel
theorem dX0_hasStatesOf_29 : decode cX0_hasStatesOf 29 = .ok (.goto (-27), 3) := by decide +kernel
theorem dX0_hasStatesOf_32 : decode cX0_hasStatesOf 32 = .ok (.iconst 1, 1) := by decide +kernel
theorem dX0_hasStatesOf_33 : decode cX0_hasStatesOf 33 = .ok (.ireturn, 1) := by decide +kernel
theorem dX0_causeOfNext_0 : decode cX0_causeOfNext 0 = .ok (.iload_n 1, 1) := by decide +kernel
theorem dX0_causeOfNext_1 : decode cX0_causeOfNext 1 = .ok (.bipush 64, 2) := by decide +kernel
theorem dX0_causeOfNext_3 : decode cX0_causeOfNext 3 = .ok (.imul, 1) := by decide +kernel
theorem dX0_causeOfNext_4 : decode cX0_causeOfNext 4 = .ok (.iload_n 3, 1) := by decide +kernel
theorem dX0_causeOfNext_5 : decode cX0_causeOfNext 5 = .ok (.iadd, 1) := by decide +kernel
theorem dX0_causeOfNext_6 : decode cX0_causeOfNext 6 = .ok (.istore 5, 2) := by decide +kernel
theorem dX0_causeOfNext_8 : decode cX0_causeOfNext 8 = .ok (.aload_n 0, 1) := by decide +kernel
theorem dX0_causeOfNext_9 : decode cX0_causeOfNext 9 = .ok (.getfield 11, 3) := by decide +kernel
theorem dX0_causeOfNext_12 : decode cX0_causeOfNext 12 = .ok (.iload 5, 2) := by decide +kernel
theorem dX0_causeOfNext_14 : decode cX0_causeOfNext 14 = .ok (.caload, 1) := by decide +kernel
theorem dX0_causeOfNext_15 : decode cX0_causeOfNext 15 = .ok (.bipush 45, 2) := by decide +kernel
theorem dX0_causeOfNext_17 : decode cX0_causeOfNext 17 = .ok (.if_icmp .eq 28, 3) := by decide +kernel
theorem dX0_causeOfNext_20 : decode cX0_causeOfNext 20 = .ok (.iload 4, 2) := by decide +kernel
theorem dX0_causeOfNext_22 : decode cX0_causeOfNext 22 = .ok (.ifCond .eq 20, 3) := by decide +kernel
theorem dX0_causeOfNext_25 : decode cX0_causeOfNext 25 = .ok (.aload_n 0, 1) := by decide +kernel
theorem dX0_causeOfNext_26 : decode cX0_causeOfNext 26 = .ok (.getfield 11, 3) := by decide +kernel
theorem dX0_causeOfNext_29 : decode cX0_causeOfNext 29 = .ok (.iload 5, 2) := by decide +kernel
theorem dX0_causeOfNext_31 : decode cX0_causeOfNext 31 = .ok (.caload, 1) := by decide +kernel
theorem dX0_causeOfNext_32 : decode cX0_causeOfNext 32 = .ok (.bipush 115, 2) := by decide +kernel
theorem dX0_causeOfNext_34 : decode cX0_causeOfNext 34 = .ok (.if_icmp .ne 8, 3) := by decide +kernel
theorem dX0_causeOfNext_37 : decode cX0_causeOfNext 37 = .ok (.bipush 117, 2) := by decide +kernel
theorem dX0_causeOfNext_39 : decode cX0_causeOfNext 39 = .ok (.goto 5, 3) := by decide +kernel
theorem dX0_causeOfNext_42 : decode cX0_causeOfNext 42 = .ok (.bipush 104, 2) := by decide +kernel
theorem dX0_causeOfNext_44 : decode cX0_causeOfNext 44 = .ok (.ireturn, 1) := by decide +kernel
theorem dX0_causeOfNext_45 : decode cX0_causeOfNext 45 = .ok (.aload_n 0, 1) := by decide +kernel
theorem dX0_causeOfNext_46 : decode cX0_causeOfNext 46 = .ok (.getfield 19, 3) := by decide +kernel
theorem dX0_causeOfNext_49 : decode cX0_causeOfNext 49 = .ok (.iload 5, 2) := by decide +kernel
theorem dX0_causeOfNext_51 : decode cX0_causeOfNext 51 = .ok (.iaload, 1) := by decide +kernel
theorem dX0_causeOfNext_52 : decode cX0_causeOfNext 52 = .ok (.istore 6, 2) := by decide +kernel
theorem dX0_causeOfNext_54 : decode cX0_causeOfNext 54 = .ok (.iload 6, 2) := by decide +kernel
theorem dX0_causeOfNext_56 : decode cX0_causeOfNext 56 = .ok (.bipush (-2), 2) := by decide +kernel
theorem dX0_causeOfNext_58 : decode cX0_causeOfNext 58 = .ok (.if_icmp .ne 6, 3) := by decide +kernel
theorem dX0_causeOfNext_61 : decode cX0_causeOfNext 61 = .ok (.bipush 99, 2) := by decide +kernel
theorem dX0_causeOfNext_63 : decode cX0_causeOfNext 63 = .ok (.ireturn, 1) := by decide +kernel
theorem dX0_causeOfNext_64 : decode cX0_causeOfNext 64 = .ok (.iload 6, 2) := by decide +kernel
theorem dX0_causeOfNext_66 : decode cX0_causeOfNext 66 = .ok (.iconst (-1), 1) := by decide +kernel
theorem dX0_causeOfNext_67 : decode cX0_causeOfNext 67 = .ok (.if_icmp .ne 6, 3) := by decide +kernel
theorem dX0_causeOfNext_70 : decode cX0_causeOfNext 70 = .ok (.bipush 101, 2) := by decide +kernel
theorem dX0_causeOfNext_72 : decode cX0_causeOfNext 72 = .ok (.ireturn, 1) := by decide +kernel
theorem dX0_causeOfNext_73 : decode cX0_causeOfNext 73 = .ok (.iload 6, 2) := by decide +kernel
theorem dX0_causeOfNext_75 : decode cX0_causeOfNext 75 = .ok (.iload_n 2, 1) := by decide +kernel
theorem dX0_causeOfNext_76 : decode cX0_causeOfNext 76 = .ok (.if_icmp .ne 8, 3) := by decide +kernel
theorem dX0_causeOfNext_79 : decode cX0_causeOfNext 79 = .ok (.bipush 116, 2) := by decide +kernel
theorem dX0_causeOfNext_81 : decode cX0_causeOfNext 81 = .ok (.goto 5, 3) := by decide +kernel
theorem dX0_causeOfNext_84 : decode cX0_causeOfNext 84 = .ok (.bipush 102, 2) := by decide +kernel
theorem dX0_causeOfNext_86 : decode cX0_causeOfNext 86 = .ok (.ireturn, 1) := by decide +kernel
theorem dX0_makeAccess_0 : decode cX0_makeAccess 0 = .ok (.iload_n 1, 1) := by decide +kernel
theorem dX0_makeAccess_1 : decode cX0_makeAccess 1 = .ok (.bipush 64, 2) := by decide +kernel
theorem dX0_makeAccess_3 : decode cX0_makeAccess 3 = .ok (.imul, 1) := by decide +kernel
theorem dX0_makeAccess_4 : decode cX0_makeAccess 4 = .ok (.iload_n 3, 1) := by decide +kernel
theorem dX0_makeAccess_5 : decode cX0_makeAccess 5 = .ok (.iadd, 1) := by decide +kernel
theorem dX0_makeAccess_6 : decode cX0_makeAccess 6 = .ok (.istore 5, 2) := by decide +kernel
theorem dX0_makeAccess_8 : decode cX0_makeAccess 8 = .ok (.aload_n 0, 1) := by decide +kernel
theorem dX0_makeAccess_9 : decode cX0_makeAccess 9 = .ok (.getfield 11, 3) := by decide +kernel
theorem dX0_makeAccess_12 : decode cX0_makeAccess 12 = .ok (.iload 5, 2) := by decide +kernel
theorem dX0_makeAccess_14 : decode cX0_makeAccess 14 = .ok (.caload, 1) := by decide +kernel
theorem dX0_makeAccess_15 : decode cX0_makeAccess 15 = .ok (.bipush 45, 2) := by decide +kernel
theorem dX0_makeAccess_17 : decode cX0_makeAccess 17 = .ok (.if_icmp .ne 7, 3) := by decide +kernel
theorem dX0_makeAccess_20 : decode cX0_makeAccess 20 = .ok (.iconst 1, 1) := by decide +kernel
theorem dX0_makeAccess_21 : decode cX0_makeAccess 21 = .ok (.goto 4, 3) := by decide +kernel
theorem dX0_makeAccess_24 : decode cX0_makeAccess 24 = .ok (.iconst 0, 1) := by decide +kernel
theorem dX0_makeAccess_25 : decode cX0_makeAccess 25 = .ok (.istore 6, 2) := by decide +kernel
theorem dX0_makeAccess_27 : decode cX0_makeAccess 27 = .ok (.aload_n 0, 1) := by decide +kernel
theorem dX0_makeAccess_28 : decode cX0_makeAccess 28 = .ok (.iload_n 1, 1) := by decide +kernel
theorem dX0_makeAccess_29 : decode cX0_makeAccess 29 = .ok (.iload_n 3, 1) := by decide +kernel
theorem dX0_makeAccess_30 : decode cX0_makeAccess 30 = .ok (.iload 4, 2) := by decide +kernel
theorem dX0_makeAccess_32 : decode cX0_makeAccess 32 = .ok (.invokevirtual 62, 3) := by decide +kernel
theorem dX0_makeAccess_35 : decode cX0_makeAccess 35 = .ok (.istore 7, 2) := by decide +kernel
theorem dX0_makeAccess_37 : decode cX0_makeAccess 37 = .ok (.iload 6, 2) := by decide +kernel
theorem dX0_makeAccess_39 : decode cX0_makeAccess 39 = .ok (.ifCond .eq 38, 3) := by decide +kernel
theorem dX0_makeAccess_42 : decode cX0_makeAccess 42 = .ok (.iload 7, 2) := by decide +kernel
theorem dX0_makeAccess_44 : decode cX0_makeAccess 44 = .ok (.aload_n 0, 1) := by decide +kernel
theorem dX0_makeAccess_45 : decode cX0_makeAccess 45 = .ok (.iload_n 1, 1) := by decide +kernel
theorem dX0_makeAccess_46 : decode cX0_makeAccess 46 = .ok (.iload_n 3, 1) := by decide +kernel
theorem dX0_makeAccess_47 : decode cX0_makeAccess 47 = .ok (.invokevirtual 66, 3) := by decide +kernel
theorem dX0_makeAccess_50 : decode cX0_makeAccess 50 = .ok (.ifCond .eq 7, 3) := by decide +kernel
theorem dX0_makeAccess_53 : decode cX0_makeAccess 53 = .ok (.iconst 5, 1) := by decide +kernel
theorem dX0_makeAccess_54 : decode cX0_makeAccess 54 = .ok (.goto 4, 3) := by decide +kernel
theorem dX0_makeAccess_57 : decode cX0_makeAccess 57 = .ok (.iconst 0, 1) := by decide +kernel
theorem dX0_makeAccess_58 : decode cX0_makeAccess 58 = .ok (.iadd, 1) := by decide +kernel
theorem dX0_makeAccess_59 : decode cX0_makeAccess 59 = .ok (.istore 7, 2) := by decide +kernel
theorem dX0_makeAccess_61 : decode cX0_makeAccess 61 = .ok (.iload 4, 2) := by decide +kernel
theorem dX0_makeAccess_63 : decode cX0_makeAccess 63 = .ok (.ifCond .ne 8, 3) := by decide +kernel
theorem dX0_makeAccess_66 : decode cX0_makeAccess 66 = .ok (.aload_n 0, 1) := by decide +kernel
theorem dX0_makeAccess_67 : decode cX0_makeAccess 67 = .ok (.iload_n 3, 1) := by decide +kernel
theorem dX0_makeAccess_68 : decode cX0_makeAccess 68 = .ok (.invokevirtual 70, 3) := by decide +kernel
theorem dX0_makeAccess_71 : decode cX0_makeAccess 71 = .ok (.aload_n 0, 1) := by decide +kernel
theorem dX0_makeAccess_72 : decode cX0_makeAccess 72 = .ok (.iload_n 1, 1) := by decide +kernel
theorem dX0_makeAccess_73 : decode cX0_makeAccess 73 = .ok (.iload_n 3, 1) := by decide +kernel
theorem dX0_makeAccess_74 : decode cX0_makeAccess 74 = .ok (.invokevirtual 74, 3) := by decide +kernel
theorem dX0_makeAccess_77 : decode cX0_makeAccess 77 = .ok (.iload 4, 2) := by decide +kernel
theorem dX0_makeAccess_79 : decode cX0_makeAccess 79 = .ok (.ifCond .eq 19, 3) := by decide +kernel
theorem dX0_makeAccess_82 : decode cX0_makeAccess 82 = .ok (.aload_n 0, 1) := by decide +kernel
theorem dX0_makeAccess_83 : decode cX0_makeAccess 83 = .ok (.iload_n 1, 1) := by decide +kernel
theorem dX0_makeAccess_84 : decode cX0_makeAccess 84 = .ok (.iload_n 2, 1) := by decide +kernel
theorem dX0_makeAccess_85 : decode cX0_makeAccess 85 = .ok (.iload_n 3, 1) := by decide +kernel
theorem dX0_makeAccess_86 : decode cX0_makeAccess 86 = .ok (.invokevirtual 78, 3) := by decide +kernel
theorem dX0_makeAccess_89 : decode cX0_makeAccess 89 = .ok (.aload_n 0, 1) := by decide +kernel
theorem dX0_makeAccess_90 : decode cX0_makeAccess 90 = .ok (.getfield 11, 3) := by decide +kernel
theorem dX0_makeAccess_93 : decode cX0_makeAccess 93 = .ok (.iload 5, 2) := by decide +kernel
theorem dX0_makeAccess_95 : decode cX0_makeAccess 95 = .ok (.bipush 109, 2) := by decide +kernel
theorem dX0_makeAccess_97 : decode cX0_makeAccess 97 = .ok (.castore, 1) := by decide +kernel
theorem dX0_makeAccess_98 : decode cX0_makeAccess 98 = .ok (.aload_n 0, 1) := by decide +kernel
theorem dX0_makeAccess_99 : decode cX0_makeAccess 99 = .ok (.iload_n 1, 1) := by decide +kernel
theorem dX0_makeAccess_100 : decode cX0_makeAccess 100 = .ok (.iload_n 3, 1) := by decide +kernel
theorem dX0_makeAccess_101 : decode cX0_makeAccess 101 = .ok (.invokevirtual 82, 3) := by decide +kernel
theorem dX0_makeAccess_104 : decode cX0_makeAccess 104 = .ok (.iload 6, 2) := by decide +kernel
theorem dX0_makeAccess_106 : decode cX0_makeAccess 106 = .ok (.ifCond .eq 37, 3) := by decide +kernel
theorem dX0_makeAccess_109 : decode cX0_makeAccess 109 = .ok (.aload_n 0, 1) := by decide +kernel
theorem dX0_makeAccess_110 : decode cX0_makeAccess 110 = .ok (.getfield 26, 3) := by decide +kernel
theorem dX0_makeAccess_113 : decode cX0_makeAccess 113 = .ok (.iload_n 1, 1) := by decide +kernel
theorem dX0_makeAccess_114 : decode cX0_makeAccess 114 = .ok (.baload, 1) := by decide +kernel
theorem dX0_makeAccess_115 : decode cX0_makeAccess 115 = .ok (.ifCond .eq 28, 3) := by decide +kernel
theorem dX0_makeAccess_118 : decode cX0_makeAccess 118 = .ok (.aload_n 0, 1) := by decide +kernel
theorem dX0_makeAccess_119 : decode cX0_makeAccess 119 = .ok (.iload_n 1, 1) := by decide +kernel
theorem dX0_makeAccess_120 : decode cX0_makeAccess 120 = .ok (.iload_n 3, 1) := by decide +kernel
theorem dX0_makeAccess_121 : decode cX0_makeAccess 121 = .ok (.invokevirtual 85, 3) := by decide +kernel
theorem dX0_makeAccess_124 : decode cX0_makeAccess 124 = .ok (.istore 8, 2) := by decide +kernel
theorem dX0_makeAccess_126 : decode cX0_makeAccess 126 = .ok (.aload_n 0, 1) := by decide +kernel
theorem dX0_makeAccess_127 : decode cX0_makeAccess 127 = .ok (.iload_n 1, 1) := by decide +kernel
theorem dX0_makeAccess_128 : decode cX0_makeAccess 128 = .ok (.iload 8, 2) := by decide +kernel
theorem dX0_makeAccess_130 : decode cX0_makeAccess 130 = .ok (.invokevirtual 89, 3) := by decide +kernel
theorem dX0_makeAccess_133 : decode cX0_makeAccess 133 = .ok (.ifCond .eq 10, 3) := by decide +kernel
theorem dX0_makeAccess_136 : decode cX0_makeAccess 136 = .ok (.aload_n 0, 1) := by decide +kernel
theorem dX0_makeAccess_137 : decode cX0_makeAccess 137 = .ok (.iload_n 1, 1) := by decide +kernel
theorem dX0_makeAccess_138 : decode cX0_makeAccess 138 = .ok (.iload 8, 2) := by decide +kernel
theorem dX0_makeAccess_140 : decode cX0_makeAccess 140 = .ok (.invokevirtual 92, 3) := by decide +kernel
theorem dX0_makeAccess_143 : decode cX0_makeAccess 143 = .ok (.iload 7, 2) := by decide +kernel
theorem dX0_makeAccess_145 : decode cX0_makeAccess 145 = .ok (.ireturn, 1) := by decide +kernel
theorem dX0_dropAll_0 : decode cX0_dropAll 0 = .ok (.iconst 0, 1) := by decide +kernel
theorem dX0_dropAll_1 : decode cX0_dropAll 1 = .ok (.istore_n 2, 1) := by decide +kernel
theorem dX0_dropAll_2 : decode cX0_dropAll 2 = .ok (.iconst 0, 1) := by decide +kernel
theorem dX0_dropAll_3 : decode cX0_dropAll 3 = .ok (.istore_n 3, 1) := by decide +kernel
theorem dX0_dropAll_4 : decode cX0_dropAll 4 = .ok (.iload_n 3, 1) := by decide +kernel
theorem dX0_dropAll_5 : decode cX0_dropAll 5 = .ok (.bipush 64, 2) := by decide +kernel
theorem dX0_dropAll_7 : decode cX0_dropAll 7 = .ok (.if_icmp .ge 35, 3) := by decide +kernel
theorem dX0_dropAll_10 : decode cX0_dropAll 10 = .ok (.aload_n 0, 1) := by decide +kernel
theorem dX0_dropAll_11 : decode cX0_dropAll 11 = .ok (.getfield 11, 3) := by decide +kernel
theorem dX0_dropAll_14 : decode cX0_dropAll 14 = .ok (.iload_n 1, 1) := by decide +kernel
theorem dX0_dropAll_15 : decode cX0_dropAll 15 = .ok (.bipush 64, 2) := by decide +kernel
theorem dX0_dropAll_17 : decode cX0_dropAll 17 = .ok (.imul, 1) := by decide +kernel
theorem dX0_dropAll_18 : decode cX0_dropAll 18 = .ok (.iload_n 3, 1) := by decide +kernel
theorem dX0_dropAll_19 : decode cX0_dropAll 19 = .ok (.iadd, 1) := by decide +kernel
theorem dX0_dropAll_20 : decode cX0_dropAll 20 = .ok (.caload, 1) := by decide +kernel
theorem dX0_dropAll_21 : decode cX0_dropAll 21 = .ok (.bipush 109, 2) := by decide +kernel
theorem dX0_dropAll_23 : decode cX0_dropAll 23 = .ok (.if_icmp .ne 6, 3) := by decide +kernel
theorem dX0_dropAll_26 : decode cX0_dropAll 26 = .ok (.iinc 2 1, 3) := by decide +kernel
theorem dX0_dropAll_29 : decode cX0_dropAll 29 = .ok (.aload_n 0, 1) := by decide +kernel
theorem dX0_dropAll_30 : decode cX0_dropAll 30 = .ok (.iload_n 1, 1) := by decide +kernel
theorem dX0_dropAll_31 : decode cX0_dropAll 31 = .ok (.iload_n 3, 1) := by decide +kernel
theorem dX0_dropAll_32 : decode cX0_dropAll 32 = .ok (.iconst (-1), 1) := by decide +kernel
theorem dX0_dropAll_33 : decode cX0_dropAll 33 = .ok (.invokevirtual 95, 3) := by decide +kernel
theorem dX0_dropAll_36 : decode cX0_dropAll 36 = .ok (.iinc 3 1, 3) := by decide +kernel
theorem dX0_dropAll_39 : decode cX0_dropAll 39 = .ok (.goto (-35), 3) := by decide +kernel
theorem dX0_dropAll_42 : decode cX0_dropAll 42 = .ok (.iload_n 2, 1) := by decide +kernel
theorem dX0_dropAll_43 : decode cX0_dropAll 43 = .ok (.ireturn, 1) := by decide +kernel
theorem dX0_costOfNext_0 : decode cX0_costOfNext 0 = .ok (.aload_n 0, 1) := by decide +kernel
theorem dX0_costOfNext_1 : decode cX0_costOfNext 1 = .ok (.getfield 11, 3) := by decide +kernel
theorem dX0_costOfNext_4 : decode cX0_costOfNext 4 = .ok (.iload_n 1, 1) := by decide +kernel
theorem dX0_costOfNext_5 : decode cX0_costOfNext 5 = .ok (.bipush 64, 2) := by decide +kernel
theorem dX0_costOfNext_7 : decode cX0_costOfNext 7 = .ok (.imul, 1) := by decide +kernel
theorem dX0_costOfNext_8 : decode cX0_costOfNext 8 = .ok (.iload_n 2, 1) := by decide +kernel
theorem dX0_costOfNext_9 : decode cX0_costOfNext 9 = .ok (.iadd, 1) := by decide +kernel
theorem dX0_costOfNext_10 : decode cX0_costOfNext 10 = .ok (.caload, 1) := by decide +kernel
theorem dX0_costOfNext_11 : decode cX0_costOfNext 11 = .ok (.istore 4, 2) := by decide +kernel
theorem dX0_costOfNext_13 : decode cX0_costOfNext 13 = .ok (.iload 4, 2) := by decide +kernel
theorem dX0_costOfNext_15 : decode cX0_costOfNext 15 = .ok (.bipush 45, 2) := by decide +kernel
theorem dX0_costOfNext_17 : decode cX0_costOfNext 17 = .ok (.if_icmp .ne 19, 3) := by decide +kernel
theorem dX0_costOfNext_20 : decode cX0_costOfNext 20 = .ok (.aload_n 0, 1) := by decide +kernel
theorem dX0_costOfNext_21 : decode cX0_costOfNext 21 = .ok (.iload_n 2, 1) := by decide +kernel
theorem dX0_costOfNext_22 : decode cX0_costOfNext 22 = .ok (.invokevirtual 59, 3) := by decide +kernel
theorem dX0_costOfNext_25 : decode cX0_costOfNext 25 = .ok (.ifCond .le 8, 3) := by decide +kernel
theorem dX0_costOfNext_28 : decode cX0_costOfNext 28 = .ok (.bipush 12, 2) := by decide +kernel
theorem dX0_costOfNext_30 : decode cX0_costOfNext 30 = .ok (.goto 5, 3) := by decide +kernel
theorem dX0_costOfNext_33 : decode cX0_costOfNext 33 = .ok (.bipush 40, 2) := by decide +kernel
theorem dX0_costOfNext_35 : decode cX0_costOfNext 35 = .ok (.ireturn, 1) := by decide +kernel
theorem dX0_costOfNext_36 : decode cX0_costOfNext 36 = .ok (.iload_n 3, 1) := by decide +kernel
theorem dX0_costOfNext_37 : decode cX0_costOfNext 37 = .ok (.ifCond .eq 15, 3) := by decide +kernel
theorem dX0_costOfNext_40 : decode cX0_costOfNext 40 = .ok (.iload 4, 2) := by decide +kernel
theorem dX0_costOfNext_42 : decode cX0_costOfNext 42 = .ok (.bipush 115, 2) := by decide +kernel
theorem dX0_costOfNext_44 : decode cX0_costOfNext 44 = .ok (.if_icmp .ne 8, 3) := by decide +kernel
theorem dX0_costOfNext_47 : decode cX0_costOfNext 47 = .ok (.bipush 8, 2) := by decide +kernel
theorem dX0_costOfNext_49 : decode cX0_costOfNext 49 = .ok (.goto 4, 3) := by decide +kernel
theorem dX0_costOfNext_52 : decode cX0_costOfNext 52 = .ok (.iconst 1, 1) := by decide +kernel
theorem dX0_costOfNext_53 : decode cX0_costOfNext 53 = .ok (.ireturn, 1) := by decide +kernel
theorem dX0_makeRoom_0 : decode cX0_makeRoom 0 = .ok (.iload_n 2, 1) := by decide +kernel
theorem dX0_makeRoom_1 : decode cX0_makeRoom 1 = .ok (.iconst 4, 1) := by decide +kernel
theorem dX0_makeRoom_2 : decode cX0_makeRoom 2 = .ok (.irem, 1) := by decide +kernel
theorem dX0_makeRoom_3 : decode cX0_makeRoom 3 = .ok (.istore_n 3, 1) := by decide +kernel
theorem dX0_makeRoom_4 : decode cX0_makeRoom 4 = .ok (.aload_n 0, 1) := by decide +kernel
theorem dX0_makeRoom_5 : decode cX0_makeRoom 5 = .ok (.iload_n 1, 1) := by decide +kernel
theorem dX0_makeRoom_6 : decode cX0_makeRoom 6 = .ok (.iload_n 3, 1) := by decide +kernel
theorem dX0_makeRoom_7 : decode cX0_makeRoom 7 = .ok (.invokevirtual 98, 3) := by decide +kernel
theorem dX0_makeRoom_10 : decode cX0_makeRoom 10 = .ok (.istore 4, 2) := by decide +kernel
theorem dX0_makeRoom_12 : decode cX0_makeRoom 12 = .ok (.iload 4, 2) := by decide +kernel
theorem dX0_makeRoom_14 : decode cX0_makeRoom 14 = .ok (.iconst (-1), 1) := by decide +kernel
theorem dX0_makeRoom_15 : decode cX0_makeRoom 15 = .ok (.if_icmp .eq 13, 3) := by decide +kernel
theorem dX0_makeRoom_18 : decode cX0_makeRoom 18 = .ok (.aload_n 0, 1) := by decide +kernel
theorem dX0_makeRoom_19 : decode cX0_makeRoom 19 = .ok (.iload_n 1, 1) := by decide +kernel
theorem dX0_makeRoom_20 : decode cX0_makeRoom 20 = .ok (.iload_n 3, 1) := by decide +kernel
theorem dX0_makeRoom_21 : decode cX0_makeRoom 21 = .ok (.invokevirtual 101, 3) := by decide +kernel
theorem dX0_makeRoom_24 : decode cX0_makeRoom 24 = .ok (.iconst 2, 1) := by decide +kernel
theorem dX0_makeRoom_25 : decode cX0_makeRoom 25 = .ok (.if_icmp .ge 5, 3) := by decide +kernel
theorem dX0_makeRoom_28 : decode cX0_makeRoom 28 = .ok (.iconst 0, 1) := by decide +kernel
theorem dX0_makeRoom_29 : decode cX0_makeRoom 29 = .ok (.ireturn, 1) := by decide +kernel
theorem dX0_makeRoom_30 : decode cX0_makeRoom 30 = .ok (.aload_n 0, 1) := by decide +kernel
theorem dX0_makeRoom_31 : decode cX0_makeRoom 31 = .ok (.getfield 11, 3) := by decide +kernel
theorem dX0_makeRoom_34 : decode cX0_makeRoom 34 = .ok (.iload_n 1, 1) := by decide +kernel
theorem dX0_makeRoom_35 : decode cX0_makeRoom 35 = .ok (.bipush 64, 2) := by decide +kernel
theorem dX0_makeRoom_37 : decode cX0_makeRoom 37 = .ok (.imul, 1) := by decide +kernel
theorem dX0_makeRoom_38 : decode cX0_makeRoom 38 = .ok (.iload 4, 2) := by decide +kernel
theorem dX0_makeRoom_40 : decode cX0_makeRoom 40 = .ok (.iadd, 1) := by decide +kernel
theorem dX0_makeRoom_41 : decode cX0_makeRoom 41 = .ok (.caload, 1) := by decide +kernel
theorem dX0_makeRoom_42 : decode cX0_makeRoom 42 = .ok (.bipush 109, 2) := by decide +kernel
theorem dX0_makeRoom_44 : decode cX0_makeRoom 44 = .ok (.if_icmp .ne 7, 3) := by decide +kernel
theorem dX0_makeRoom_47 : decode cX0_makeRoom 47 = .ok (.iconst 1, 1) := by decide +kernel
theorem dX0_makeRoom_48 : decode cX0_makeRoom 48 = .ok (.goto 4, 3) := by decide +kernel
theorem dX0_makeRoom_51 : decode cX0_makeRoom 51 = .ok (.iconst 0, 1) := by decide +kernel
theorem dX0_makeRoom_52 : decode cX0_makeRoom 52 = .ok (.istore 5, 2) := by decide +kernel
theorem dX0_makeRoom_54 : decode cX0_makeRoom 54 = .ok (.aload_n 0, 1) := by decide +kernel
theorem dX0_makeRoom_55 : decode cX0_makeRoom 55 = .ok (.iload_n 1, 1) := by decide +kernel
theorem dX0_makeRoom_56 : decode cX0_makeRoom 56 = .ok (.iload 4, 2) := by decide +kernel
theorem dX0_makeRoom_58 : decode cX0_makeRoom 58 = .ok (.iconst (-1), 1) := by decide +kernel
theorem dX0_makeRoom_59 : decode cX0_makeRoom 59 = .ok (.invokevirtual 95, 3) := by decide +kernel
theorem dX0_makeRoom_62 : decode cX0_makeRoom 62 = .ok (.iload 5, 2) := by decide +kernel
theorem dX0_makeRoom_64 : decode cX0_makeRoom 64 = .ok (.ireturn, 1) := by decide +kernel
theorem dX0_shareAll_0 : decode cX0_shareAll 0 = .ok (.iconst 0, 1) := by decide +kernel
theorem dX0_shareAll_1 : decode cX0_shareAll 1 = .ok (.istore_n 2, 1) := by decide +kernel
theorem dX0_shareAll_2 : decode cX0_shareAll 2 = .ok (.iload_n 2, 1) := by decide +kernel
theorem dX0_shareAll_3 : decode cX0_shareAll 3 = .ok (.iconst 4, 1) := by decide +kernel
theorem dX0_shareAll_4 : decode cX0_shareAll 4 = .ok (.if_icmp .ge 35, 3) := by decide +kernel
theorem dX0_shareAll_7 : decode cX0_shareAll 7 = .ok (.iload_n 2, 1) := by decide +kernel
theorem dX0_shareAll_8 : decode cX0_shareAll 8 = .ok (.bipush 64, 2) := by decide +kernel
theorem dX0_shareAll_10 : decode cX0_shareAll 10 = .ok (.imul, 1) := by decide +kernel
theorem dX0_shareAll_11 : decode cX0_shareAll 11 = .ok (.iload_n 1, 1) := by decide +kernel
theorem dX0_shareAll_12 : decode cX0_shareAll 12 = .ok (.iadd, 1) := by decide +kernel
theorem dX0_shareAll_13 : decode cX0_shareAll 13 = .ok (.istore_n 3, 1) := by decide +kernel
theorem dX0_shareAll_14 : decode cX0_shareAll 14 = .ok (.aload_n 0, 1) := by decide +kernel
theorem dX0_shareAll_15 : decode cX0_shareAll 15 = .ok (.getfield 11, 3) := by decide +kernel
theorem dX0_shareAll_18 : decode cX0_shareAll 18 = .ok (.iload_n 3, 1) := by decide +kernel
theorem dX0_shareAll_19 : decode cX0_shareAll 19 = .ok (.caload, 1) := by decide +kernel
theorem dX0_shareAll_20 : decode cX0_shareAll 20 = .ok (.bipush 45, 2) := by decide +kernel
theorem dX0_shareAll_22 : decode cX0_shareAll 22 = .ok (.if_icmp .eq 11, 3) := by decide +kernel
theorem dX0_shareAll_25 : decode cX0_shareAll 25 = .ok (.aload_n 0, 1) := by decide +kernel
theorem dX0_shareAll_26 : decode cX0_shareAll 26 = .ok (.getfield 11, 3) := by decide +kernel
theorem dX0_shareAll_29 : decode cX0_shareAll 29 = .ok (.iload_n 3, 1) := by decide +kernel
theorem dX0_shareAll_30 : decode cX0_shareAll 30 = .ok (.bipush 115, 2) := by decide +kernel
theorem dX0_shareAll_32 : decode cX0_shareAll 32 = .ok (.castore, 1) := by decide +kernel
theorem dX0_shareAll_33 : decode cX0_shareAll 33 = .ok (.iinc 2 1, 3) := by decide +kernel
theorem dX0_shareAll_36 : decode cX0_shareAll 36 = .ok (.goto (-34), 3) := by decide +kernel
theorem dX0_shareAll_39 : decode cX0_shareAll 39 = .ok (.return_, 1) := by decide +kernel
theorem dX0_bring_0 : decode cX0_bring 0 = .ok (.iload_n 1, 1) := by decide +kernel
theorem dX0_bring_1 : decode cX0_bring 1 = .ok (.bipush 64, 2) := by decide +kernel
theorem dX0_bring_3 : decode cX0_bring 3 = .ok (.imul, 1) := by decide +kernel
theorem dX0_bring_4 : decode cX0_bring 4 = .ok (.iload_n 2, 1) := by decide +kernel
theorem dX0_bring_5 : decode cX0_bring 5 = .ok (.iadd, 1) := by decide +kernel
theorem dX0_bring_6 : decode cX0_bring 6 = .ok (.istore_n 3, 1) := by decide +kernel
theorem dX0_bring_7 : decode cX0_bring 7 = .ok (.aload_n 0, 1) := by decide +kernel
theorem dX0_bring_8 : decode cX0_bring 8 = .ok (.getfield 11, 3) := by decide +kernel
theorem dX0_bring_11 : decode cX0_bring 11 = .ok (.iload_n 3, 1) := by decide +kernel
theorem dX0_bring_12 : decode cX0_bring 12 = .ok (.aload_n 0, 1) := by decide +kernel
theorem dX0_bring_13 : decode cX0_bring 13 = .ok (.iload_n 2, 1) := by decide +kernel
theorem dX0_bring_14 : decode cX0_bring 14 = .ok (.invokevirtual 59, 3) := by decide +kernel
theorem dX0_bring_17 : decode cX0_bring 17 = .ok (.ifCond .le 8, 3) := by decide +kernel
theorem dX0_bring_20 : decode cX0_bring 20 = .ok (.bipush 115, 2) := by decide +kernel
theorem dX0_bring_22 : decode cX0_bring 22 = .ok (.goto 5, 3) := by decide +kernel
theorem dX0_bring_25 : decode cX0_bring 25 = .ok (.bipush 101, 2) := by decide +kernel
theorem dX0_bring_27 : decode cX0_bring 27 = .ok (.castore, 1) := by decide +kernel
theorem dX0_bring_28 : decode cX0_bring 28 = .ok (.aload_n 0, 1) := by decide +kernel
theorem dX0_bring_29 : decode cX0_bring 29 = .ok (.dup, 1) := by decide +kernel
theorem dX0_bring_30 : decode cX0_bring 30 = .ok (.getfield 44, 3) := by decide +kernel
theorem dX0_bring_33 : decode cX0_bring 33 = .ok (.iconst 1, 1) := by decide +kernel
theorem dX0_bring_34 : decode cX0_bring 34 = .ok (.iadd, 1) := by decide +kernel
theorem dX0_bring_35 : decode cX0_bring 35 = .ok (.putfield 44, 3) := by decide +kernel
theorem dX0_bring_38 : decode cX0_bring 38 = .ok (.aload_n 0, 1) := by decide +kernel
theorem dX0_bring_39 : decode cX0_bring 39 = .ok (.getfield 15, 3) := by decide +kernel
theorem dX0_bring_42 : decode cX0_bring 42 = .ok (.iload_n 3, 1) := by decide +kernel
theorem dX0_bring_43 : decode cX0_bring 43 = .ok (.aload_n 0, 1) := by decide +kernel
theorem dX0_bring_44 : decode cX0_bring 44 = .ok (.getfield 44, 3) := by decide +kernel
theorem dX0_bring_47 : decode cX0_bring 47 = .ok (.iastore, 1) := by decide +kernel
theorem dX0_bring_48 : decode cX0_bring 48 = .ok (.return_, 1) := by decide +kernel
theorem dX0_use_0 : decode cX0_use 0 = .ok (.iload_n 1, 1) := by decide +kernel
theorem dX0_use_1 : decode cX0_use 1 = .ok (.bipush 64, 2) := by decide +kernel
theorem dX0_use_3 : decode cX0_use 3 = .ok (.imul, 1) := by decide +kernel
theorem dX0_use_4 : decode cX0_use 4 = .ok (.iload_n 2, 1) := by decide +kernel
theorem dX0_use_5 : decode cX0_use 5 = .ok (.iadd, 1) := by decide +kernel
theorem dX0_use_6 : decode cX0_use 6 = .ok (.istore_n 3, 1) := by decide +kernel
theorem dX0_use_7 : decode cX0_use 7 = .ok (.aload_n 0, 1) := by decide +kernel
theorem dX0_use_8 : decode cX0_use 8 = .ok (.dup, 1) := by decide +kernel
theorem dX0_use_9 : decode cX0_use 9 = .ok (.getfield 44, 3) := by decide +kernel
theorem dX0_use_12 : decode cX0_use 12 = .ok (.iconst 1, 1) := by decide +kernel
theorem dX0_use_13 : decode cX0_use 13 = .ok (.iadd, 1) := by decide +kernel
theorem dX0_use_14 : decode cX0_use 14 = .ok (.putfield 44, 3) := by decide +kernel
theorem dX0_use_17 : decode cX0_use 17 = .ok (.aload_n 0, 1) := by decide +kernel
theorem dX0_use_18 : decode cX0_use 18 = .ok (.getfield 15, 3) := by decide +kernel
theorem dX0_use_21 : decode cX0_use 21 = .ok (.iload_n 3, 1) := by decide +kernel
theorem dX0_use_22 : decode cX0_use 22 = .ok (.aload_n 0, 1) := by decide +kernel
theorem dX0_use_23 : decode cX0_use 23 = .ok (.getfield 44, 3) := by decide +kernel
theorem dX0_use_26 : decode cX0_use 26 = .ok (.iastore, 1) := by decide +kernel
theorem dX0_use_27 : decode cX0_use 27 = .ok (.aload_n 0, 1) := by decide +kernel
theorem dX0_use_28 : decode cX0_use 28 = .ok (.getfield 22, 3) := by decide +kernel
theorem dX0_use_31 : decode cX0_use 31 = .ok (.iload_n 3, 1) := by decide +kernel
theorem dX0_use_32 : decode cX0_use 32 = .ok (.baload, 1) := by decide +kernel
theorem dX0_use_33 : decode cX0_use 33 = .ok (.ifCond .eq 20, 3) := by decide +kernel
theorem dX0_use_36 : decode cX0_use 36 = .ok (.aload_n 0, 1) := by decide +kernel
theorem dX0_use_37 : decode cX0_use 37 = .ok (.getfield 22, 3) := by decide +kernel
theorem dX0_use_40 : decode cX0_use 40 = .ok (.iload_n 3, 1) := by decide +kernel
theorem dX0_use_41 : decode cX0_use 41 = .ok (.iconst 0, 1) := by decide +kernel
theorem dX0_use_42 : decode cX0_use 42 = .ok (.bastore, 1) := by decide +kernel
theorem dX0_use_43 : decode cX0_use 43 = .ok (.aload_n 0, 1) := by decide +kernel
theorem dX0_use_44 : decode cX0_use 44 = .ok (.getfield 38, 3) := by decide +kernel
theorem dX0_use_47 : decode cX0_use 47 = .ok (.iload_n 1, 1) := by decide +kernel
theorem dX0_use_48 : decode cX0_use 48 = .ok (.dup2, 1) := by decide +kernel
theorem dX0_use_49 : decode cX0_use 49 = .ok (.iaload, 1) := by decide +kernel
theorem dX0_use_50 : decode cX0_use 50 = .ok (.iconst 1, 1) := by decide +kernel
theorem dX0_use_51 : decode cX0_use 51 = .ok (.iadd, 1) := by decide +kernel
theorem dX0_use_52 : decode cX0_use 52 = .ok (.iastore, 1) := by decide +kernel
theorem dX0_use_53 : decode cX0_use 53 = .ok (.return_, 1) := by decide +kernel
theorem dX0_drop_0 : decode cX0_drop 0 = .ok (.iload_n 1, 1) := by decide +kernel
theorem dX0_drop_1 : decode cX0_drop 1 = .ok (.bipush 64, 2) := by decide +kernel
theorem dX0_drop_3 : decode cX0_drop 3 = .ok (.imul, 1) := by decide +kernel
theorem dX0_drop_4 : decode cX0_drop 4 = .ok (.iload_n 2, 1) := by decide +kernel
theorem dX0_drop_5 : decode cX0_drop 5 = .ok (.iadd, 1) := by decide +kernel
theorem dX0_drop_6 : decode cX0_drop 6 = .ok (.istore 4, 2) := by decide +kernel
theorem dX0_drop_8 : decode cX0_drop 8 = .ok (.aload_n 0, 1) := by decide +kernel
theorem dX0_drop_9 : decode cX0_drop 9 = .ok (.getfield 11, 3) := by decide +kernel
theorem dX0_drop_12 : decode cX0_drop 12 = .ok (.iload 4, 2) := by decide +kernel
theorem dX0_drop_14 : decode cX0_drop 14 = .ok (.caload, 1) := by decide +kernel
theorem dX0_drop_15 : decode cX0_drop 15 = .ok (.bipush 45, 2) := by decide +kernel
theorem dX0_drop_17 : decode cX0_drop 17 = .ok (.if_icmp .ne 4, 3) := by decide +kernel
theorem dX0_drop_20 : decode cX0_drop 20 = .ok (.return_, 1) := by decide +kernel
theorem dX0_drop_21 : decode cX0_drop 21 = .ok (.aload_n 0, 1) := by decide +kernel
theorem dX0_drop_22 : decode cX0_drop 22 = .ok (.getfield 11, 3) := by decide +kernel
theorem dX0_drop_25 : decode cX0_drop 25 = .ok (.iload 4, 2) := by decide +kernel
theorem dX0_drop_27 : decode cX0_drop 27 = .ok (.bipush 45, 2) := by decide +kernel
theorem dX0_drop_29 : decode cX0_drop 29 = .ok (.castore, 1) := by decide +kernel
theorem dX0_drop_30 : decode cX0_drop 30 = .ok (.aload_n 0, 1) := by decide +kernel
theorem dX0_drop_31 : decode cX0_drop 31 = .ok (.getfield 19, 3) := by decide +kernel
theorem dX0_drop_34 : decode cX0_drop 34 = .ok (.iload 4, 2) := by decide +kernel
theorem dX0_drop_36 : decode cX0_drop 36 = .ok (.iload_n 3, 1) := by decide +kernel
theorem dX0_drop_37 : decode cX0_drop 37 = .ok (.iastore, 1) := by decide +kernel
theorem dX0_drop_38 : decode cX0_drop 38 = .ok (.aload_n 0, 1) := by decide +kernel
theorem dX0_drop_39 : decode cX0_drop 39 = .ok (.getfield 22, 3) := by decide +kernel
theorem dX0_drop_42 : decode cX0_drop 42 = .ok (.iload 4, 2) := by decide +kernel
theorem dX0_drop_44 : decode cX0_drop 44 = .ok (.baload, 1) := by decide +kernel
theorem dX0_drop_45 : decode cX0_drop 45 = .ok (.ifCond .eq 21, 3) := by decide +kernel
theorem dX0_drop_48 : decode cX0_drop 48 = .ok (.aload_n 0, 1) := by decide +kernel
theorem dX0_drop_49 : decode cX0_drop 49 = .ok (.getfield 22, 3) := by decide +kernel
theorem dX0_drop_52 : decode cX0_drop 52 = .ok (.iload 4, 2) := by decide +kernel
theorem dX0_drop_54 : decode cX0_drop 54 = .ok (.iconst 0, 1) := by decide +kernel
theorem dX0_drop_55 : decode cX0_drop 55 = .ok (.bastore, 1) := by decide +kernel
theorem dX0_drop_56 : decode cX0_drop 56 = .ok (.aload_n 0, 1) := by decide +kernel
theorem dX0_drop_57 : decode cX0_drop 57 = .ok (.getfield 41, 3) := by decide +kernel
theorem dX0_drop_60 : decode cX0_drop 60 = .ok (.iload_n 1, 1) := by decide +kernel
theorem dX0_drop_61 : decode cX0_drop 61 = .ok (.dup2, 1) := by decide +kernel
theorem dX0_drop_62 : decode cX0_drop 62 = .ok (.iaload, 1) := by decide +kernel
theorem dX0_drop_63 : decode cX0_drop 63 = .ok (.iconst 1, 1) := by decide +kernel
theorem dX0_drop_64 : decode cX0_drop 64 = .ok (.iadd, 1) := by decide +kernel
theorem dX0_drop_65 : decode cX0_drop 65 = .ok (.iastore, 1) := by decide +kernel
theorem dX0_drop_66 : decode cX0_drop 66 = .ok (.return_, 1) := by decide +kernel
theorem dX0_dropElsewhere_0 : decode cX0_dropElsewhere 0 = .ok (.iconst 0, 1) := by decide +kernel
theorem dX0_dropElsewhere_1 : decode cX0_dropElsewhere 1 = .ok (.istore 4, 2) := by decide +kernel
theorem dX0_dropElsewhere_3 : decode cX0_dropElsewhere 3 = .ok (.iload 4, 2) := by decide +kernel
theorem dX0_dropElsewhere_5 : decode cX0_dropElsewhere 5 = .ok (.iconst 4, 1) := by decide +kernel
theorem dX0_dropElsewhere_6 : decode cX0_dropElsewhere 6 = .ok (.if_icmp .ge 23, 3) := by decide +kernel
theorem dX0_dropElsewhere_9 : decode cX0_dropElsewhere 9 = .ok (.iload 4, 2) := by decide +kernel
theorem dX0_dropElsewhere_11 : decode cX0_dropElsewhere 11 = .ok (.iload_n 1, 1) := by decide +kernel
theorem dX0_dropElsewhere_12 : decode cX0_dropElsewhere 12 = .ok (.if_icmp .eq 11, 3) := by decide +kernel
theorem dX0_dropElsewhere_15 : decode cX0_dropElsewhere 15 = .ok (.aload_n 0, 1) := by decide +kernel
theorem dX0_dropElsewhere_16 : decode cX0_dropElsewhere 16 = .ok (.iload 4, 2) := by decide +kernel
theorem dX0_dropElsewhere_18 : decode cX0_dropElsewhere 18 = .ok (.iload_n 3, 1) := by decide +kernel
theorem dX0_dropElsewhere_19 : decode cX0_dropElsewhere 19 = .ok (.iload_n 2, 1) := by decide +kernel
theorem dX0_dropElsewhere_20 : decode cX0_dropElsewhere 20 = .ok (.invokevirtual 95, 3) := by decide +kernel
theorem dX0_dropElsewhere_23 : decode cX0_dropElsewhere 23 = .ok (.iinc 4 1, 3) := by decide +kernel
theorem dX0_dropElsewhere_26 : decode cX0_dropElsewhere 26 = .ok (.goto (-23), 3) := by decide +kernel
theorem dX0_dropElsewhere_29 : decode cX0_dropElsewhere 29 = .ok (.return_, 1) := by decide +kernel
theorem dX0_learn_0 : decode cX0_learn 0 = .ok (.aload_n 0, 1) := by decide +kernel
theorem dX0_learn_1 : decode cX0_learn 1 = .ok (.getfield 29, 3) := by decide +kernel
theorem dX0_learn_4 : decode cX0_learn 4 = .ok (.iload_n 1, 1) := by decide +kernel
theorem dX0_learn_5 : decode cX0_learn 5 = .ok (.iaload, 1) := by decide +kernel
theorem dX0_learn_6 : decode cX0_learn 6 = .ok (.istore_n 3, 1) := by decide +kernel
theorem dX0_learn_7 : decode cX0_learn 7 = .ok (.iload_n 3, 1) := by decide +kernel
theorem dX0_learn_8 : decode cX0_learn 8 = .ok (.iconst (-1), 1) := by decide +kernel
theorem dX0_learn_9 : decode cX0_learn 9 = .ok (.if_icmp .ne 7, 3) := by decide +kernel
theorem dX0_learn_12 : decode cX0_learn 12 = .ok (.iconst 0, 1) := by decide +kernel
theorem dX0_learn_13 : decode cX0_learn 13 = .ok (.goto 6, 3) := by decide +kernel
theorem dX0_learn_16 : decode cX0_learn 16 = .ok (.iload_n 2, 1) := by decide +kernel
theorem dX0_learn_17 : decode cX0_learn 17 = .ok (.iload_n 3, 1) := by decide +kernel
theorem dX0_learn_18 : decode cX0_learn 18 = .ok (.isub, 1) := by decide +kernel
theorem dX0_learn_19 : decode cX0_learn 19 = .ok (.istore 4, 2) := by decide +kernel
theorem dX0_learn_21 : decode cX0_learn 21 = .ok (.iload 4, 2) := by decide +kernel
theorem dX0_learn_23 : decode cX0_learn 23 = .ok (.ifCond .eq 18, 3) := by decide +kernel
theorem dX0_learn_26 : decode cX0_learn 26 = .ok (.iload 4, 2) := by decide +kernel
theorem dX0_learn_28 : decode cX0_learn 28 = .ok (.aload_n 0, 1) := by decide +kernel
theorem dX0_learn_29 : decode cX0_learn 29 = .ok (.getfield 32, 3) := by decide +kernel
theorem dX0_learn_32 : decode cX0_learn 32 = .ok (.iload_n 1, 1) := by decide +kernel
theorem dX0_learn_33 : decode cX0_learn 33 = .ok (.iaload, 1) := by decide +kernel
theorem dX0_learn_34 : decode cX0_learn 34 = .ok (.if_icmp .ne 7, 3) := by decide +kernel
theorem dX0_learn_37 : decode cX0_learn 37 = .ok (.iconst 1, 1) := by decide +kernel
theorem dX0_learn_38 : decode cX0_learn 38 = .ok (.goto 4, 3) := by decide +kernel
theorem dX0_learn_41 : decode cX0_learn 41 = .ok (.iconst 0, 1) := by decide +kernel
theorem dX0_learn_42 : decode cX0_learn 42 = .ok (.istore 5, 2) := by decide +kernel
theorem dX0_learn_44 : decode cX0_learn 44 = .ok (.aload_n 0, 1) := by decide +kernel
theorem dX0_learn_45 : decode cX0_learn 45 = .ok (.getfield 29, 3) := by decide +kernel
theorem dX0_learn_48 : decode cX0_learn 48 = .ok (.iload_n 1, 1) := by decide +kernel
theorem dX0_learn_49 : decode cX0_learn 49 = .ok (.iload_n 2, 1) := by decide +kernel
theorem dX0_learn_50 : decode cX0_learn 50 = .ok (.iastore, 1) := by decide +kernel
theorem dX0_learn_51 : decode cX0_learn 51 = .ok (.aload_n 0, 1) := by decide +kernel
theorem dX0_learn_52 : decode cX0_learn 52 = .ok (.getfield 32, 3) := by decide +kernel
theorem dX0_learn_55 : decode cX0_learn 55 = .ok (.iload_n 1, 1) := by decide +kernel
theorem dX0_learn_56 : decode cX0_learn 56 = .ok (.iload 4, 2) := by decide +kernel
theorem dX0_learn_58 : decode cX0_learn 58 = .ok (.iastore, 1) := by decide +kernel
theorem dX0_learn_59 : decode cX0_learn 59 = .ok (.iload 5, 2) := by decide +kernel
theorem dX0_learn_61 : decode cX0_learn 61 = .ok (.ifCond .eq 10, 3) := by decide +kernel
theorem dX0_learn_64 : decode cX0_learn 64 = .ok (.iload_n 2, 1) := by decide +kernel
theorem dX0_learn_65 : decode cX0_learn 65 = .ok (.iload 4, 2) := by decide +kernel
theorem dX0_learn_67 : decode cX0_learn 67 = .ok (.iadd, 1) := by decide +kernel
theorem dX0_learn_68 : decode cX0_learn 68 = .ok (.goto 4, 3) := by decide +kernel
theorem dX0_learn_71 : decode cX0_learn 71 = .ok (.iconst (-1), 1) := by decide +kernel
theorem dX0_learn_72 : decode cX0_learn 72 = .ok (.ireturn, 1) := by decide +kernel
theorem dX0_canFetch_0 : decode cX0_canFetch 0 = .ok (.iload_n 2, 1) := by decide +kernel
theorem dX0_canFetch_1 : decode cX0_canFetch 1 = .ok (.ifCond .lt 38, 3) := by decide +kernel
theorem dX0_canFetch_4 : decode cX0_canFetch 4 = .ok (.iload_n 2, 1) := by decide +kernel
theorem dX0_canFetch_5 : decode cX0_canFetch 5 = .ok (.bipush 64, 2) := by decide +kernel
theorem dX0_canFetch_7 : decode cX0_canFetch 7 = .ok (.if_icmp .ge 32, 3) := by decide +kernel
theorem dX0_canFetch_10 : decode cX0_canFetch 10 = .ok (.aload_n 0, 1) := by decide +kernel
theorem dX0_canFetch_11 : decode cX0_canFetch 11 = .ok (.getfield 11, 3) := by decide +kernel
theorem dX0_canFetch_14 : decode cX0_canFetch 14 = .ok (.iload_n 1, 1) := by decide +kernel
theorem dX0_canFetch_15 : decode cX0_canFetch 15 = .ok (.bipush 64, 2) := by decide +kernel
theorem dX0_canFetch_17 : decode cX0_canFetch 17 = .ok (.imul, 1) := by decide +kernel
theorem dX0_canFetch_18 : decode cX0_canFetch 18 = .ok (.iload_n 2, 1) := by decide +kernel
theorem dX0_canFetch_19 : decode cX0_canFetch 19 = .ok (.iadd, 1) := by decide +kernel
theorem dX0_canFetch_20 : decode cX0_canFetch 20 = .ok (.caload, 1) := by decide +kernel
theorem dX0_canFetch_21 : decode cX0_canFetch 21 = .ok (.bipush 45, 2) := by decide +kernel
theorem dX0_canFetch_23 : decode cX0_canFetch 23 = .ok (.if_icmp .ne 16, 3) := by decide +kernel
theorem dX0_canFetch_26 : decode cX0_canFetch 26 = .ok (.aload_n 0, 1) := by decide +kernel
theorem dX0_canFetch_27 : decode cX0_canFetch 27 = .ok (.iload_n 2, 1) := by decide +kernel
theorem dX0_canFetch_28 : decode cX0_canFetch 28 = .ok (.invokevirtual 55, 3) := by decide +kernel
theorem dX0_canFetch_31 : decode cX0_canFetch 31 = .ok (.iconst (-1), 1) := by decide +kernel
theorem dX0_canFetch_32 : decode cX0_canFetch 32 = .ok (.if_icmp .ne 7, 3) := by decide +kernel
theorem dX0_canFetch_35 : decode cX0_canFetch 35 = .ok (.iconst 1, 1) := by decide +kernel
theorem dX0_canFetch_36 : decode cX0_canFetch 36 = .ok (.goto 4, 3) := by decide +kernel
theorem dX0_canFetch_39 : decode cX0_canFetch 39 = .ok (.iconst 0, 1) := by decide +kernel
theorem dX0_canFetch_40 : decode cX0_canFetch 40 = .ok (.ireturn, 1) := by decide +kernel
theorem dX0_fetch_0 : decode cX0_fetch 0 = .ok (.aload_n 0, 1) := by decide +kernel
theorem dX0_fetch_1 : decode cX0_fetch 1 = .ok (.iload_n 1, 1) := by decide +kernel
theorem dX0_fetch_2 : decode cX0_fetch 2 = .ok (.iload_n 2, 1) := by decide +kernel
theorem dX0_fetch_3 : decode cX0_fetch 3 = .ok (.invokevirtual 66, 3) := by decide +kernel
theorem dX0_fetch_6 : decode cX0_fetch 6 = .ok (.pop, 1) := by decide +kernel
theorem dX0_fetch_7 : decode cX0_fetch 7 = .ok (.aload_n 0, 1) := by decide +kernel
theorem dX0_fetch_8 : decode cX0_fetch 8 = .ok (.iload_n 1, 1) := by decide +kernel
theorem dX0_fetch_9 : decode cX0_fetch 9 = .ok (.iload_n 2, 1) := by decide +kernel
theorem dX0_fetch_10 : decode cX0_fetch 10 = .ok (.invokevirtual 74, 3) := by decide +kernel
theorem dX0_fetch_13 : decode cX0_fetch 13 = .ok (.aload_n 0, 1) := by decide +kernel
theorem dX0_fetch_14 : decode cX0_fetch 14 = .ok (.getfield 22, 3) := by decide +kernel
theorem dX0_fetch_17 : decode cX0_fetch 17 = .ok (.iload_n 1, 1) := by decide +kernel
theorem dX0_fetch_18 : decode cX0_fetch 18 = .ok (.bipush 64, 2) := by decide +kernel
theorem dX0_fetch_20 : decode cX0_fetch 20 = .ok (.imul, 1) := by decide +kernel
theorem dX0_fetch_21 : decode cX0_fetch 21 = .ok (.iload_n 2, 1) := by decide +kernel
theorem dX0_fetch_22 : decode cX0_fetch 22 = .ok (.iadd, 1) := by decide +kernel
theorem dX0_fetch_23 : decode cX0_fetch 23 = .ok (.iconst 1, 1) := by decide +kernel
theorem dX0_fetch_24 : decode cX0_fetch 24 = .ok (.bastore, 1) := by decide +kernel
theorem dX0_fetch_25 : decode cX0_fetch 25 = .ok (.aload_n 0, 1) := by decide +kernel
theorem dX0_fetch_26 : decode cX0_fetch 26 = .ok (.getfield 35, 3) := by decide +kernel
theorem dX0_fetch_29 : decode cX0_fetch 29 = .ok (.iload_n 1, 1) := by decide +kernel
theorem dX0_fetch_30 : decode cX0_fetch 30 = .ok (.dup2, 1) := by decide +kernel
theorem dX0_fetch_31 : decode cX0_fetch 31 = .ok (.iaload, 1) := by decide +kernel
theorem dX0_fetch_32 : decode cX0_fetch 32 = .ok (.iconst 1, 1) := by decide +kernel
theorem dX0_fetch_33 : decode cX0_fetch 33 = .ok (.iadd, 1) := by decide +kernel
theorem dX0_fetch_34 : decode cX0_fetch 34 = .ok (.iastore, 1) := by decide +kernel
theorem dX0_fetch_35 : decode cX0_fetch 35 = .ok (.return_, 1) := by decide +kernel
theorem dX1_init_0 : decode cX1_init 0 = .ok (.aload_n 0, 1) := by decide +kernel
theorem dX1_init_1 : decode cX1_init 1 = .ok (.iload_n 1, 1) := by decide +kernel
theorem dX1_init_2 : decode cX1_init 2 = .ok (.iload_n 2, 1) := by decide +kernel
theorem dX1_init_3 : decode cX1_init 3 = .ok (.iconst (-1), 1) := by decide +kernel
theorem dX1_init_4 : decode cX1_init 4 = .ok (.iconst (-1), 1) := by decide +kernel
theorem dX1_init_5 : decode cX1_init 5 = .ok (.iconst 0, 1) := by decide +kernel
theorem dX1_init_6 : decode cX1_init 6 = .ok (.bipush 45, 2) := by decide +kernel
theorem dX1_init_8 : decode cX1_init 8 = .ok (.invokespecial 5, 3) := by decide +kernel
theorem dX1_init_11 : decode cX1_init 11 = .ok (.return_, 1) := by decide +kernel
theorem dX1_init__0 : decode cX1_init_ 0 = .ok (.aload_n 0, 1) := by decide +kernel
theorem dX1_init__1 : decode cX1_init_ 1 = .ok (.invokespecial 9, 3) := by decide +kernel
theorem dX1_init__4 : decode cX1_init_ 4 = .ok (.aload_n 0, 1) := by decide +kernel
theorem dX1_init__5 : decode cX1_init_ 5 = .ok (.iload_n 1, 1) := by decide +kernel
theorem dX1_init__6 : decode cX1_init_ 6 = .ok (.putfield 14, 3) := by decide +kernel
theorem dX1_init__9 : decode cX1_init_ 9 = .ok (.aload_n 0, 1) := by decide +kernel
theorem dX1_init__10 : decode cX1_init_ 10 = .ok (.iload_n 2, 1) := by decide +kernel
theorem dX1_init__11 : decode cX1_init_ 11 = .ok (.putfield 18, 3) := by decide +kernel
theorem dX1_init__14 : decode cX1_init_ 14 = .ok (.aload_n 0, 1) := by decide +kernel
theorem dX1_init__15 : decode cX1_init_ 15 = .ok (.iload_n 3, 1) := by decide +kernel
theorem dX1_init__16 : decode cX1_init_ 16 = .ok (.putfield 21, 3) := by decide +kernel
theorem dX1_init__19 : decode cX1_init_ 19 = .ok (.aload_n 0, 1) := by decide +kernel
theorem dX1_init__20 : decode cX1_init_ 20 = .ok (.iload 4, 2) := by decide +kernel
theorem dX1_init__22 : decode cX1_init_ 22 = .ok (.putfield 24, 3) := by decide +kernel
theorem dX1_init__25 : decode cX1_init_ 25 = .ok (.aload_n 0, 1) := by decide +kernel
theorem dX1_init__26 : decode cX1_init_ 26 = .ok (.iload 5, 2) := by decide +kernel
theorem dX1_init__28 : decode cX1_init_ 28 = .ok (.putfield 27, 3) := by decide +kernel
theorem dX1_init__31 : decode cX1_init_ 31 = .ok (.aload_n 0, 1) := by decide +kernel
theorem dX1_init__32 : decode cX1_init_ 32 = .ok (.iload 6, 2) := by decide +kernel
theorem dX1_init__34 : decode cX1_init_ 34 = .ok (.putfield 30, 3) := by decide +kernel
theorem dX1_init__37 : decode cX1_init_ 37 = .ok (.return_, 1) := by decide +kernel
theorem dX1_isAccess_0 : decode cX1_isAccess 0 = .ok (.aload_n 0, 1) := by decide +kernel
theorem dX1_isAccess_1 : decode cX1_isAccess 1 = .ok (.getfield 14, 3) := by decide +kernel
theorem dX1_isAccess_4 : decode cX1_isAccess 4 = .ok (.ifCond .eq 11, 3) := by decide +kernel
theorem dX1_isAccess_7 : decode cX1_isAccess 7 = .ok (.aload_n 0, 1) := by decide +kernel
theorem dX1_isAccess_8 : decode cX1_isAccess 8 = .ok (.getfield 14, 3) := by decide +kernel
theorem dX1_isAccess_11 : decode cX1_isAccess 11 = .ok (.iconst 1, 1) := by decide +kernel
theorem dX1_isAccess_12 : decode cX1_isAccess 12 = .ok (.if_icmp .ne 7, 3) := by decide +kernel
theorem dX1_isAccess_15 : decode cX1_isAccess 15 = .ok (.iconst 1, 1) := by decide +kernel
theorem dX1_isAccess_16 : decode cX1_isAccess 16 = .ok (.goto 4, 3) := by decide +kernel
theorem dX1_isAccess_19 : decode cX1_isAccess 19 = .ok (.iconst 0, 1) := by decide +kernel
theorem dX1_isAccess_20 : decode cX1_isAccess 20 = .ok (.ireturn, 1) := by decide +kernel
theorem dX1_isWrite_0 : decode cX1_isWrite 0 = .ok (.aload_n 0, 1) := by decide +kernel
theorem dX1_isWrite_1 : decode cX1_isWrite 1 = .ok (.getfield 14, 3) := by decide +kernel
theorem dX1_isWrite_4 : decode cX1_isWrite 4 = .ok (.iconst 1, 1) := by decide +kernel
theorem dX1_isWrite_5 : decode cX1_isWrite 5 = .ok (.if_icmp .ne 7, 3) := by decide +kernel
theorem dX1_isWrite_8 : decode cX1_isWrite 8 = .ok (.iconst 1, 1) := by decide +kernel
theorem dX1_isWrite_9 : decode cX1_isWrite 9 = .ok (.goto 4, 3) := by decide +kernel
theorem dX1_isWrite_12 : decode cX1_isWrite 12 = .ok (.iconst 0, 1) := by decide +kernel
theorem dX1_isWrite_13 : decode cX1_isWrite 13 = .ok (.ireturn, 1) := by decide +kernel
theorem dX2_init_0 : decode cX2_init 0 = .ok (.aload_n 0, 1) := by decide +kernel
theorem dX2_init_1 : decode cX2_init 1 = .ok (.invokespecial 3, 3) := by decide +kernel
theorem dX2_init_4 : decode cX2_init 4 = .ok (.aload_n 0, 1) := by decide +kernel
theorem dX2_init_5 : decode cX2_init 5 = .ok (.bipush 12, 2) := by decide +kernel
theorem dX2_init_7 : decode cX2_init 7 = .ok (.newarray .int, 2) := by decide +kernel
theorem dX2_init_9 : decode cX2_init 9 = .ok (.putfield 9, 3) := by decide +kernel
theorem dX2_init_12 : decode cX2_init 12 = .ok (.aload_n 0, 1) := by decide +kernel
theorem dX2_init_13 : decode cX2_init 13 = .ok (.bipush 12, 2) := by decide +kernel
theorem dX2_init_15 : decode cX2_init 15 = .ok (.newarray .int, 2) := by decide +kernel
theorem dX2_init_17 : decode cX2_init 17 = .ok (.putfield 15, 3) := by decide +kernel
theorem dX2_init_20 : decode cX2_init 20 = .ok (.aload_n 0, 1) := by decide +kernel
theorem dX2_init_21 : decode cX2_init 21 = .ok (.bipush 12, 2) := by decide +kernel
theorem dX2_init_23 : decode cX2_init 23 = .ok (.newarray .int, 2) := by decide +kernel
theorem dX2_init_25 : decode cX2_init 25 = .ok (.putfield 18, 3) := by decide +kernel
theorem dX2_init_28 : decode cX2_init 28 = .ok (.aload_n 0, 1) := by decide +kernel
theorem dX2_init_29 : decode cX2_init 29 = .ok (.iconst 0, 1) := by decide +kernel
theorem dX2_init_30 : decode cX2_init 30 = .ok (.putfield 21, 3) := by decide +kernel
theorem dX2_init_33 : decode cX2_init 33 = .ok (.return_, 1) := by decide +kernel
theorem dX2_isFull_0 : decode cX2_isFull 0 = .ok (.aload_n 0, 1) := by decide +kernel
theorem dX2_isFull_1 : decode cX2_isFull 1 = .ok (.getfield 21, 3) := by decide +kernel
theorem dX2_isFull_4 : decode cX2_isFull 4 = .ok (.bipush 12, 2) := by decide +kernel
theorem dX2_isFull_6 : decode cX2_isFull 6 = .ok (.if_icmp .lt 7, 3) := by decide +kernel
theorem dX2_isFull_9 : decode cX2_isFull 9 = .ok (.iconst 1, 1) := by decide +kernel
theorem dX2_isFull_10 : decode cX2_isFull 10 = .ok (.goto 4, 3) := by decide +kernel
theorem dX2_isFull_13 : decode cX2_isFull 13 = .ok (.iconst 0, 1) := by decide +kernel
theorem dX2_isFull_14 : decode cX2_isFull 14 = .ok (.ireturn, 1) := by decide +kernel
theorem dX2_countNames_0 : decode cX2_countNames 0 = .ok (.aload_n 0, 1) := by decide +kernel
theorem dX2_countNames_1 : decode cX2_countNames 1 = .ok (.getfield 21, 3) := by decide +kernel
theorem dX2_countNames_4 : decode cX2_countNames 4 = .ok (.ireturn, 1) := by decide +kernel
theorem dX2_hasName_0 : decode cX2_hasName 0 = .ok (.iload_n 1, 1) := by decide +kernel
theorem dX2_hasName_1 : decode cX2_hasName 1 = .ok (.ifCond .lt 15, 3) := by decide +kernel
theorem dX2_hasName_4 : decode cX2_hasName 4 = .ok (.iload_n 1, 1) := by decide +kernel
theorem dX2_hasName_5 : decode cX2_hasName 5 = .ok (.aload_n 0, 1) := by decide +kernel
theorem dX2_hasName_6 : decode cX2_hasName 6 = .ok (.getfield 21, 3) := by decide +kernel
theorem dX2_hasName_9 : decode cX2_hasName 9 = .ok (.if_icmp .ge 7, 3) := by decide +kernel
theorem dX2_hasName_12 : decode cX2_hasName 12 = .ok (.iconst 1, 1) := by decide +kernel
theorem dX2_hasName_13 : decode cX2_hasName 13 = .ok (.goto 4, 3) := by decide +kernel
theorem dX2_hasName_16 : decode cX2_hasName 16 = .ok (.iconst 0, 1) := by decide +kernel
theorem dX2_hasName_17 : decode cX2_hasName 17 = .ok (.ireturn, 1) := by decide +kernel
theorem dX2_isPlaced_0 : decode cX2_isPlaced 0 = .ok (.aload_n 0, 1) := by decide +kernel
theorem dX2_isPlaced_1 : decode cX2_isPlaced 1 = .ok (.iload_n 1, 1) := by decide +kernel
theorem dX2_isPlaced_2 : decode cX2_isPlaced 2 = .ok (.invokevirtual 25, 3) := by decide +kernel
theorem dX2_isPlaced_5 : decode cX2_isPlaced 5 = .ok (.ifCond .eq 17, 3) := by decide +kernel
theorem dX2_isPlaced_8 : decode cX2_isPlaced 8 = .ok (.aload_n 0, 1) := by decide +kernel
theorem dX2_isPlaced_9 : decode cX2_isPlaced 9 = .ok (.getfield 15, 3) := by decide +kernel
theorem dX2_isPlaced_12 : decode cX2_isPlaced 12 = .ok (.iload_n 1, 1) := by decide +kernel
theorem dX2_isPlaced_13 : decode cX2_isPlaced 13 = .ok (.iaload, 1) := by decide +kernel
theorem dX2_isPlaced_14 : decode cX2_isPlaced 14 = .ok (.iconst (-1), 1) := by decide +kernel
theorem dX2_isPlaced_15 : decode cX2_isPlaced 15 = .ok (.if_icmp .eq 7, 3) := by decide +kernel
theorem dX2_isPlaced_18 : decode cX2_isPlaced 18 = .ok (.iconst 1, 1) := by decide +kernel
theorem dX2_isPlaced_19 : decode cX2_isPlaced 19 = .ok (.goto 4, 3) := by decide +kernel
theorem dX2_isPlaced_22 : decode cX2_isPlaced 22 = .ok (.iconst 0, 1) := by decide +kernel
theorem dX2_isPlaced_23 : decode cX2_isPlaced 23 = .ok (.ireturn, 1) := by decide +kernel
theorem dX2_hasWord_0 : decode cX2_hasWord 0 = .ok (.aload_n 0, 1) := by decide +kernel
theorem dX2_hasWord_1 : decode cX2_hasWord 1 = .ok (.iload_n 1, 1) := by decide +kernel
theorem dX2_hasWord_2 : decode cX2_hasWord 2 = .ok (.invokevirtual 25, 3) := by decide +kernel
theorem dX2_hasWord_5 : decode cX2_hasWord 5 = .ok (.ifCond .eq 21, 3) := by decide +kernel
theorem dX2_hasWord_8 : decode cX2_hasWord 8 = .ok (.iload_n 2, 1) := by decide +kernel
theorem dX2_hasWord_9 : decode cX2_hasWord 9 = .ok (.ifCond .lt 17, 3) := by decide +kernel
theorem dX2_hasWord_12 : decode cX2_hasWord 12 = .ok (.iload_n 2, 1) := by decide +kernel
theorem dX2_hasWord_13 : decode cX2_hasWord 13 = .ok (.aload_n 0, 1) := by decide +kernel
theorem dX2_hasWord_14 : decode cX2_hasWord 14 = .ok (.getfield 9, 3) := by decide +kernel
theorem dX2_hasWord_17 : decode cX2_hasWord 17 = .ok (.iload_n 1, 1) := by decide +kernel
theorem dX2_hasWord_18 : decode cX2_hasWord 18 = .ok (.iaload, 1) := by decide +kernel
theorem dX2_hasWord_19 : decode cX2_hasWord 19 = .ok (.if_icmp .ge 7, 3) := by decide +kernel
theorem dX2_hasWord_22 : decode cX2_hasWord 22 = .ok (.iconst 1, 1) := by decide +kernel
theorem dX2_hasWord_23 : decode cX2_hasWord 23 = .ok (.goto 4, 3) := by decide +kernel
theorem dX2_hasWord_26 : decode cX2_hasWord 26 = .ok (.iconst 0, 1) := by decide +kernel
theorem dX2_hasWord_27 : decode cX2_hasWord 27 = .ok (.ireturn, 1) := by decide +kernel
theorem dX2_startOf_0 : decode cX2_startOf 0 = .ok (.aload_n 0, 1) := by decide +kernel
theorem dX2_startOf_1 : decode cX2_startOf 1 = .ok (.iload_n 1, 1) := by decide +kernel
theorem dX2_startOf_2 : decode cX2_startOf 2 = .ok (.invokevirtual 25, 3) := by decide +kernel
theorem dX2_startOf_5 : decode cX2_startOf 5 = .ok (.ifCond .eq 12, 3) := by decide +kernel
theorem dX2_startOf_8 : decode cX2_startOf 8 = .ok (.aload_n 0, 1) := by decide +kernel
theorem dX2_startOf_9 : decode cX2_startOf 9 = .ok (.getfield 15, 3) := by decide +kernel
theorem dX2_startOf_12 : decode cX2_startOf 12 = .ok (.iload_n 1, 1) := by decide +kernel
theorem dX2_startOf_13 : decode cX2_startOf 13 = .ok (.iaload, 1) := by decide +kernel
theorem dX2_startOf_14 : decode cX2_startOf 14 = .ok (.goto 4, 3) := by decide +kernel
theorem dX2_startOf_17 : decode cX2_startOf 17 = .ok (.iconst (-1), 1) := by decide +kernel
theorem dX2_startOf_18 : decode cX2_startOf 18 = .ok (.ireturn, 1) := by decide +kernel
theorem dX2_setStart_0 : decode cX2_setStart 0 = .ok (.aload_n 0, 1) := by decide +kernel
theorem dX2_setStart_1 : decode cX2_setStart 1 = .ok (.iload_n 1, 1) := by decide +kernel
theorem dX2_setStart_2 : decode cX2_setStart 2 = .ok (.invokevirtual 25, 3) := by decide +kernel
theorem dX2_setStart_5 : decode cX2_setStart 5 = .ok (.ifCond .eq 10, 3) := by decide +kernel
theorem dX2_setStart_8 : decode cX2_setStart 8 = .ok (.aload_n 0, 1) := by decide +kernel
theorem dX2_setStart_9 : decode cX2_setStart 9 = .ok (.getfield 15, 3) := by decide +kernel
theorem dX2_setStart_12 : decode cX2_setStart 12 = .ok (.iload_n 1, 1) := by decide +kernel
theorem dX2_setStart_13 : decode cX2_setStart 13 = .ok (.iload_n 2, 1) := by decide +kernel
theorem dX2_setStart_14 : decode cX2_setStart 14 = .ok (.iastore, 1) := by decide +kernel
theorem dX2_setStart_15 : decode cX2_setStart 15 = .ok (.return_, 1) := by decide +kernel
theorem dX2_addUnplaced_0 : decode cX2_addUnplaced 0 = .ok (.aload_n 0, 1) := by decide +kernel
theorem dX2_addUnplaced_1 : decode cX2_addUnplaced 1 = .ok (.invokevirtual 29, 3) := by decide +kernel
theorem dX2_addUnplaced_4 : decode cX2_addUnplaced 4 = .ok (.ifCond .eq 5, 3) := by decide +kernel
theorem dX2_addUnplaced_7 : decode cX2_addUnplaced 7 = .ok (.iconst (-1), 1) := by decide +kernel
theorem dX2_addUnplaced_8 : decode cX2_addUnplaced 8 = .ok (.ireturn, 1) := by decide +kernel
theorem dX2_addUnplaced_9 : decode cX2_addUnplaced 9 = .ok (.aload_n 0, 1) := by decide +kernel
theorem dX2_addUnplaced_10 : decode cX2_addUnplaced 10 = .ok (.getfield 9, 3) := by decide +kernel
theorem dX2_addUnplaced_13 : decode cX2_addUnplaced 13 = .ok (.aload_n 0, 1) := by decide +kernel
theorem dX2_addUnplaced_14 : decode cX2_addUnplaced 14 = .ok (.getfield 21, 3) := by decide +kernel
theorem dX2_addUnplaced_17 : decode cX2_addUnplaced 17 = .ok (.iload_n 1, 1) := by decide +kernel
theorem dX2_addUnplaced_18 : decode cX2_addUnplaced 18 = .ok (.iastore, 1) := by decide +kernel
theorem dX2_addUnplaced_19 : decode cX2_addUnplaced 19 = .ok (.aload_n 0, 1) := by decide +kernel
theorem dX2_addUnplaced_20 : decode cX2_addUnplaced 20 = .ok (.getfield 15, 3) := by decide +kernel
theorem dX2_addUnplaced_23 : decode cX2_addUnplaced 23 = .ok (.aload_n 0, 1) := by decide +kernel
theorem dX2_addUnplaced_24 : decode cX2_addUnplaced 24 = .ok (.getfield 21, 3) := by decide +kernel
theorem dX2_addUnplaced_27 : decode cX2_addUnplaced 27 = .ok (.iconst (-1), 1) := by decide +kernel
theorem dX2_addUnplaced_28 : decode cX2_addUnplaced 28 = .ok (.iastore, 1) := by decide +kernel
theorem dX2_addUnplaced_29 : decode cX2_addUnplaced 29 = .ok (.aload_n 0, 1) := by decide +kernel
theorem dX2_addUnplaced_30 : decode cX2_addUnplaced 30 = .ok (.dup, 1) := by decide +kernel
theorem dX2_addUnplaced_31 : decode cX2_addUnplaced 31 = .ok (.getfield 21, 3) := by decide +kernel
theorem dX2_addUnplaced_34 : decode cX2_addUnplaced 34 = .ok (.iconst 1, 1) := by decide +kernel
theorem dX2_addUnplaced_35 : decode cX2_addUnplaced 35 = .ok (.iadd, 1) := by decide +kernel
theorem dX2_addUnplaced_36 : decode cX2_addUnplaced 36 = .ok (.putfield 21, 3) := by decide +kernel
theorem dX2_addUnplaced_39 : decode cX2_addUnplaced 39 = .ok (.aload_n 0, 1) := by decide +kernel
theorem dX2_addUnplaced_40 : decode cX2_addUnplaced 40 = .ok (.getfield 21, 3) := by decide +kernel
theorem dX2_addUnplaced_43 : decode cX2_addUnplaced 43 = .ok (.iconst 1, 1) := by decide +kernel
theorem dX2_addUnplaced_44 : decode cX2_addUnplaced 44 = .ok (.isub, 1) := by decide +kernel
theorem dX2_addUnplaced_45 : decode cX2_addUnplaced 45 = .ok (.ireturn, 1) := by decide +kernel
theorem dX2_isInMemory_0 : decode cX2_isInMemory 0 = .ok (.aload_n 0, 1) := by decide +kernel
theorem dX2_isInMemory_1 : decode cX2_isInMemory 1 = .ok (.iload_n 1, 1) := by decide +kernel
theorem dX2_isInMemory_2 : decode cX2_isInMemory 2 = .ok (.invokevirtual 25, 3) := by decide +kernel
theorem dX2_isInMemory_5 : decode cX2_isInMemory 5 = .ok (.ifCond .eq 25, 3) := by decide +kernel
theorem dX2_isInMemory_8 : decode cX2_isInMemory 8 = .ok (.iload_n 2, 1) := by decide +kernel
theorem dX2_isInMemory_9 : decode cX2_isInMemory 9 = .ok (.ifCond .lt 21, 3) := by decide +kernel
theorem dX2_isInMemory_12 : decode cX2_isInMemory 12 = .ok (.iload_n 2, 1) := by decide +kernel
theorem dX2_isInMemory_13 : decode cX2_isInMemory 13 = .ok (.sipush 512, 3) := by decide +kernel
theorem dX2_isInMemory_16 : decode cX2_isInMemory 16 = .ok (.aload_n 0, 1) := by decide +kernel
theorem dX2_isInMemory_17 : decode cX2_isInMemory 17 = .ok (.getfield 9, 3) := by decide +kernel
theorem dX2_isInMemory_20 : decode cX2_isInMemory 20 = .ok (.iload_n 1, 1) := by decide +kernel
theorem dX2_isInMemory_21 : decode cX2_isInMemory 21 = .ok (.iaload, 1) := by decide +kernel
theorem dX2_isInMemory_22 : decode cX2_isInMemory 22 = .ok (.isub, 1) := by decide +kernel
theorem dX2_isInMemory_23 : decode cX2_isInMemory 23 = .ok (.if_icmp .gt 7, 3) := by decide +kernel
theorem dX2_isInMemory_26 : decode cX2_isInMemory 26 = .ok (.iconst 1, 1) := by decide +kernel
theorem dX2_isInMemory_27 : decode cX2_isInMemory 27 = .ok (.goto 4, 3) := by decide +kernel
theorem dX2_isInMemory_30 : decode cX2_isInMemory 30 = .ok (.iconst 0, 1) := by decide +kernel
theorem dX2_isInMemory_31 : decode cX2_isInMemory 31 = .ok (.ireturn, 1) := by decide +kernel
theorem dX2_isFree_0 : decode cX2_isFree 0 = .ok (.aload_n 0, 1) := by decide +kernel
theorem dX2_isFree_1 : decode cX2_isFree 1 = .ok (.iload_n 1, 1) := by decide +kernel
theorem dX2_isFree_2 : decode cX2_isFree 2 = .ok (.invokevirtual 25, 3) := by decide +kernel
theorem dX2_isFree_5 : decode cX2_isFree 5 = .ok (.ifCond .ne 5, 3) := by decide +kernel
theorem dX2_isFree_8 : decode cX2_isFree 8 = .ok (.iconst 0, 1) := by decide +kernel
theorem dX2_isFree_9 : decode cX2_isFree 9 = .ok (.ireturn, 1) := by decide +kernel
theorem dX2_isFree_10 : decode cX2_isFree 10 = .ok (.iconst 0, 1) := by decide +kernel
theorem dX2_isFree_11 : decode cX2_isFree 11 = .ok (.istore_n 3, 1) := by decide +kernel
theorem dX2_isFree_12 : decode cX2_isFree 12 = .ok (.iload_n 3, 1) := by decide +kernel
theorem dX2_isFree_13 : decode cX2_isFree 13 = .ok (.aload_n 0, 1) := by decide +kernel
theorem dX2_isFree_14 : decode cX2_isFree 14 = .ok (.getfield 21, 3) := by decide +kernel
theorem dX2_isFree_17 : decode cX2_isFree 17 = .ok (.if_icmp .ge 56, 3) := by decide +kernel
theorem dX2_isFree_20 : decode cX2_isFree 20 = .ok (.aload_n 0, 1) := by decide +kernel
theorem dX2_isFree_21 : decode cX2_isFree 21 = .ok (.getfield 15, 3) := by decide +kernel
theorem dX2_isFree_24 : decode cX2_isFree 24 = .ok (.iload_n 3, 1) := by decide +kernel
theorem dX2_isFree_25 : decode cX2_isFree 25 = .ok (.iaload, 1) := by decide +kernel
theorem dX2_isFree_26 : decode cX2_isFree 26 = .ok (.istore 4, 2) := by decide +kernel
theorem dX2_isFree_28 : decode cX2_isFree 28 = .ok (.iload_n 3, 1) := by decide +kernel
theorem dX2_isFree_29 : decode cX2_isFree 29 = .ok (.iload_n 1, 1) := by decide +kernel
theorem dX2_isFree_30 : decode cX2_isFree 30 = .ok (.if_icmp .eq 37, 3) := by decide +kernel
theorem dX2_isFree_33 : decode cX2_isFree 33 = .ok (.iload 4, 2) := by decide +kernel
theorem dX2_isFree_35 : decode cX2_isFree 35 = .ok (.iconst (-1), 1) := by decide +kernel
theorem dX2_isFree_36 : decode cX2_isFree 36 = .ok (.if_icmp .eq 31, 3) := by decide +kernel
theorem dX2_isFree_39 : decode cX2_isFree 39 = .ok (.iload 4, 2) := by decide +kernel
theorem dX2_isFree_41 : decode cX2_isFree 41 = .ok (.iload_n 2, 1) := by decide +kernel
theorem dX2_isFree_42 : decode cX2_isFree 42 = .ok (.aload_n 0, 1) := by decide +kernel
theorem dX2_isFree_43 : decode cX2_isFree 43 = .ok (.getfield 9, 3) := by decide +kernel
theorem dX2_isFree_46 : decode cX2_isFree 46 = .ok (.iload_n 1, 1) := by decide +kernel
theorem dX2_isFree_47 : decode cX2_isFree 47 = .ok (.iaload, 1) := by decide +kernel
theorem dX2_isFree_48 : decode cX2_isFree 48 = .ok (.iadd, 1) := by decide +kernel
theorem dX2_isFree_49 : decode cX2_isFree 49 = .ok (.if_icmp .ge 18, 3) := by decide +kernel
theorem dX2_isFree_52 : decode cX2_isFree 52 = .ok (.iload_n 2, 1) := by decide +kernel
theorem dX2_isFree_53 : decode cX2_isFree 53 = .ok (.iload 4, 2) := by decide +kernel
theorem dX2_isFree_55 : decode cX2_isFree 55 = .ok (.aload_n 0, 1) := by decide +kernel
theorem dX2_isFree_56 : decode cX2_isFree 56 = .ok (.getfield 9, 3) := by decide +kernel
theorem dX2_isFree_59 : decode cX2_isFree 59 = .ok (.iload_n 3, 1) := by decide +kernel
theorem dX2_isFree_60 : decode cX2_isFree 60 = .ok (.iaload, 1) := by decide +kernel
theorem dX2_isFree_61 : decode cX2_isFree 61 = .ok (.iadd, 1) := by decide +kernel
theorem dX2_isFree_62 : decode cX2_isFree 62 = .ok (.if_icmp .ge 5, 3) := by decide +kernel
theorem dX2_isFree_65 : decode cX2_isFree 65 = .ok (.iconst 0, 1) := by decide +kernel
theorem dX2_isFree_66 : decode cX2_isFree 66 = .ok (.ireturn, 1) := by decide +kernel
theorem dX2_isFree_67 : decode cX2_isFree 67 = .ok (.iinc 3 1, 3) := by decide +kernel
theorem dX2_isFree_70 : decode cX2_isFree 70 = .ok (.goto (-58), 3) := by decide +kernel
theorem dX2_isFree_73 : decode cX2_isFree 73 = .ok (.iconst 1, 1) := by decide +kernel
theorem dX2_isFree_74 : decode cX2_isFree 74 = .ok (.ireturn, 1) := by decide +kernel
theorem dX2_findAt_0 : decode cX2_findAt 0 = .ok (.iconst 0, 1) := by decide +kernel
theorem dX2_findAt_1 : decode cX2_findAt 1 = .ok (.istore_n 2, 1) := by decide +kernel
theorem dX2_findAt_2 : decode cX2_findAt 2 = .ok (.iload_n 2, 1) := by decide +kernel
theorem dX2_findAt_3 : decode cX2_findAt 3 = .ok (.aload_n 0, 1) := by decide +kernel
theorem dX2_findAt_4 : decode cX2_findAt 4 = .ok (.getfield 21, 3) := by decide +kernel
theorem dX2_findAt_7 : decode cX2_findAt 7 = .ok (.if_icmp .ge 40, 3) := by decide +kernel
theorem dX2_findAt_10 : decode cX2_findAt 10 = .ok (.aload_n 0, 1) := by decide +kernel
theorem dX2_findAt_11 : decode cX2_findAt 11 = .ok (.getfield 15, 3) := by decide +kernel
theorem dX2_findAt_14 : decode cX2_findAt 14 = .ok (.iload_n 2, 1) := by decide +kernel
theorem dX2_findAt_15 : decode cX2_findAt 15 = .ok (.iaload, 1) := by decide +kernel
theorem dX2_findAt_16 : decode cX2_findAt 16 = .ok (.istore_n 3, 1) := by decide +kernel
theorem dX2_findAt_17 : decode cX2_findAt 17 = .ok (.iload_n 3, 1) := by decide +kernel
theorem dX2_findAt_18 : decode cX2_findAt 18 = .ok (.iconst (-1), 1) := by decide +kernel
theorem dX2_findAt_19 : decode cX2_findAt 19 = .ok (.if_icmp .eq 22, 3) := by decide +kernel
theorem dX2_findAt_22 : decode cX2_findAt 22 = .ok (.iload_n 3, 1) := by decide +kernel
theorem dX2_findAt_23 : decode cX2_findAt 23 = .ok (.iload_n 1, 1) := by decide +kernel
theorem dX2_findAt_24 : decode cX2_findAt 24 = .ok (.if_icmp .gt 17, 3) := by decide +kernel
theorem dX2_findAt_27 : decode cX2_findAt 27 = .ok (.iload_n 1, 1) := by decide +kernel
theorem dX2_findAt_28 : decode cX2_findAt 28 = .ok (.iload_n 3, 1) := by decide +kernel
theorem dX2_findAt_29 : decode cX2_findAt 29 = .ok (.aload_n 0, 1) := by decide +kernel
theorem dX2_findAt_30 : decode cX2_findAt 30 = .ok (.getfield 9, 3) := by decide +kernel
theorem dX2_findAt_33 : decode cX2_findAt 33 = .ok (.iload_n 2, 1) := by decide +kernel
theorem dX2_findAt_34 : decode cX2_findAt 34 = .ok (.iaload, 1) := by decide +kernel
theorem dX2_findAt_35 : decode cX2_findAt 35 = .ok (.iadd, 1) := by decide +kernel
theorem dX2_findAt_36 : decode cX2_findAt 36 = .ok (.if_icmp .ge 5, 3) := by decide +kernel
theorem dX2_findAt_39 : decode cX2_findAt 39 = .ok (.iload_n 2, 1) := by decide +kernel
theorem dX2_findAt_40 : decode cX2_findAt 40 = .ok (.ireturn, 1) := by decide +kernel
theorem dX2_findAt_41 : decode cX2_findAt 41 = .ok (.iinc 2 1, 3) := by decide +kernel
theorem dX2_findAt_44 : decode cX2_findAt 44 = .ok (.goto (-42), 3) := by decide +kernel
theorem dX2_findAt_47 : decode cX2_findAt 47 = .ok (.iconst (-1), 1) := by decide +kernel
theorem dX2_findAt_48 : decode cX2_findAt 48 = .ok (.ireturn, 1) := by decide +kernel
theorem dX2_isOnOneLine_0 : decode cX2_isOnOneLine 0 = .ok (.aload_n 0, 1) := by decide +kernel
theorem dX2_isOnOneLine_1 : decode cX2_isOnOneLine 1 = .ok (.iload_n 1, 1) := by decide +kernel
theorem dX2_isOnOneLine_2 : decode cX2_isOnOneLine 2 = .ok (.invokevirtual 33, 3) := by decide +kernel
theorem dX2_isOnOneLine_5 : decode cX2_isOnOneLine 5 = .ok (.ifCond .eq 11, 3) := by decide +kernel
theorem dX2_isOnOneLine_8 : decode cX2_isOnOneLine 8 = .ok (.aload_n 0, 1) := by decide +kernel
theorem dX2_isOnOneLine_9 : decode cX2_isOnOneLine 9 = .ok (.iload_n 2, 1) := by decide +kernel
theorem dX2_isOnOneLine_10 : decode cX2_isOnOneLine 10 = .ok (.invokevirtual 33, 3) := by decide +kernel
theorem dX2_isOnOneLine_13 : decode cX2_isOnOneLine 13 = .ok (.ifCond .ne 5, 3) := by decide +kernel
theorem dX2_isOnOneLine_16 : decode cX2_isOnOneLine 16 = .ok (.iconst 0, 1) := by decide +kernel
theorem dX2_isOnOneLine_17 : decode cX2_isOnOneLine 17 = .ok (.ireturn, 1) := by decide +kernel
theorem dX2_isOnOneLine_18 : decode cX2_isOnOneLine 18 = .ok (.aload_n 0, 1) := by decide +kernel
theorem dX2_isOnOneLine_19 : decode cX2_isOnOneLine 19 = .ok (.getfield 15, 3) := by decide +kernel
theorem dX2_isOnOneLine_22 : decode cX2_isOnOneLine 22 = .ok (.iload_n 1, 1) := by decide +kernel
theorem dX2_isOnOneLine_23 : decode cX2_isOnOneLine 23 = .ok (.iaload, 1) := by decide +kernel
theorem dX2_isOnOneLine_24 : decode cX2_isOnOneLine 24 = .ok (.bipush 8, 2) := by decide +kernel
theorem dX2_isOnOneLine_26 : decode cX2_isOnOneLine 26 = .ok (.idiv, 1) := by decide +kernel
theorem dX2_isOnOneLine_27 : decode cX2_isOnOneLine 27 = .ok (.aload_n 0, 1) := by decide +kernel
theorem dX2_isOnOneLine_28 : decode cX2_isOnOneLine 28 = .ok (.iload_n 2, 1) := by decide +kernel
theorem dX2_isOnOneLine_29 : decode cX2_isOnOneLine 29 = .ok (.invokevirtual 36, 3) := by decide +kernel
theorem dX2_isOnOneLine_32 : decode cX2_isOnOneLine 32 = .ok (.if_icmp .gt 24, 3) := by decide +kernel
theorem dX2_isOnOneLine_35 : decode cX2_isOnOneLine 35 = .ok (.aload_n 0, 1) := by decide +kernel
theorem dX2_isOnOneLine_36 : decode cX2_isOnOneLine 36 = .ok (.getfield 15, 3) := by decide +kernel
theorem dX2_isOnOneLine_39 : decode cX2_isOnOneLine 39 = .ok (.iload_n 2, 1) := by decide +kernel
theorem dX2_isOnOneLine_40 : decode cX2_isOnOneLine 40 = .ok (.iaload, 1) := by decide +kernel
theorem dX2_isOnOneLine_41 : decode cX2_isOnOneLine 41 = .ok (.bipush 8, 2) := by decide +kernel
theorem dX2_isOnOneLine_43 : decode cX2_isOnOneLine 43 = .ok (.idiv, 1) := by decide +kernel
theorem dX2_isOnOneLine_44 : decode cX2_isOnOneLine 44 = .ok (.aload_n 0, 1) := by decide +kernel
theorem dX2_isOnOneLine_45 : decode cX2_isOnOneLine 45 = .ok (.iload_n 1, 1) := by decide +kernel
theorem dX2_isOnOneLine_46 : decode cX2_isOnOneLine 46 = .ok (.invokevirtual 36, 3) := by decide +kernel
theorem dX2_isOnOneLine_49 : decode cX2_isOnOneLine 49 = .ok (.if_icmp .gt 7, 3) := by decide +kernel
theorem dX2_isOnOneLine_52 : decode cX2_isOnOneLine 52 = .ok (.iconst 1, 1) := by decide +kernel
theorem dX2_isOnOneLine_53 : decode cX2_isOnOneLine 53 = .ok (.goto 4, 3) := by decide +kernel
theorem dX2_isOnOneLine_56 : decode cX2_isOnOneLine 56 = .ok (.iconst 0, 1) := by decide +kernel
theorem dX2_isOnOneLine_57 : decode cX2_isOnOneLine 57 = .ok (.ireturn, 1) := by decide +kernel
theorem dX2_lastLineOf_0 : decode cX2_lastLineOf 0 = .ok (.aload_n 0, 1) := by decide +kernel
theorem dX2_lastLineOf_1 : decode cX2_lastLineOf 1 = .ok (.iload_n 1, 1) := by decide +kernel
theorem dX2_lastLineOf_2 : decode cX2_lastLineOf 2 = .ok (.invokevirtual 33, 3) := by decide +kernel
theorem dX2_lastLineOf_5 : decode cX2_lastLineOf 5 = .ok (.ifCond .eq 24, 3) := by decide +kernel
theorem dX2_lastLineOf_8 : decode cX2_lastLineOf 8 = .ok (.aload_n 0, 1) := by decide +kernel
theorem dX2_lastLineOf_9 : decode cX2_lastLineOf 9 = .ok (.getfield 15, 3) := by decide +kernel
theorem dX2_lastLineOf_12 : decode cX2_lastLineOf 12 = .ok (.iload_n 1, 1) := by decide +kernel
theorem dX2_lastLineOf_13 : decode cX2_lastLineOf 13 = .ok (.iaload, 1) := by decide +kernel
theorem dX2_lastLineOf_14 : decode cX2_lastLineOf 14 = .ok (.aload_n 0, 1) := by decide +kernel
theorem dX2_lastLineOf_15 : decode cX2_lastLineOf 15 = .ok (.getfield 9, 3) := by decide +kernel
theorem dX2_lastLineOf_18 : decode cX2_lastLineOf 18 = .ok (.iload_n 1, 1) := by decide +kernel
theorem dX2_lastLineOf_19 : decode cX2_lastLineOf 19 = .ok (.iaload, 1) := by decide +kernel
theorem dX2_lastLineOf_20 : decode cX2_lastLineOf 20 = .ok (.iadd, 1) := by decide +kernel
theorem dX2_lastLineOf_21 : decode cX2_lastLineOf 21 = .ok (.iconst 1, 1) := by decide +kernel
theorem dX2_lastLineOf_22 : decode cX2_lastLineOf 22 = .ok (.isub, 1) := by decide +kernel
theorem dX2_lastLineOf_23 : decode cX2_lastLineOf 23 = .ok (.bipush 8, 2) := by decide +kernel
theorem dX2_lastLineOf_25 : decode cX2_lastLineOf 25 = .ok (.idiv, 1) := by decide +kernel
theorem dX2_lastLineOf_26 : decode cX2_lastLineOf 26 = .ok (.goto 4, 3) := by decide +kernel
theorem dX2_lastLineOf_29 : decode cX2_lastLineOf 29 = .ok (.iconst (-1), 1) := by decide +kernel
theorem dX2_lastLineOf_30 : decode cX2_lastLineOf 30 = .ok (.ireturn, 1) := by decide +kernel
theorem dX2_placeAll_0 : decode cX2_placeAll 0 = .ok (.aload_n 0, 1) := by decide +kernel
theorem dX2_placeAll_1 : decode cX2_placeAll 1 = .ok (.getfield 15, 3) := by decide +kernel
theorem dX2_placeAll_4 : decode cX2_placeAll 4 = .ok (.iconst 0, 1) := by decide +kernel
theorem dX2_placeAll_5 : decode cX2_placeAll 5 = .ok (.aload_n 0, 1) := by decide +kernel
theorem dX2_placeAll_6 : decode cX2_placeAll 6 = .ok (.getfield 18, 3) := by decide +kernel
theorem dX2_placeAll_9 : decode cX2_placeAll 9 = .ok (.iconst 0, 1) := by decide +kernel
theorem dX2_placeAll_10 : decode cX2_placeAll 10 = .ok (.bipush 12, 2) := by decide +kernel
theorem dX2_placeAll_12 : decode cX2_placeAll 12 = .ok (.invokestatic 40, 3) := by decide +kernel
theorem dX2_placeAll_15 : decode cX2_placeAll 15 = .ok (.iconst 0, 1) := by decide +kernel
theorem dX2_placeAll_16 : decode cX2_placeAll 16 = .ok (.istore_n 2, 1) := by decide +kernel
theorem dX2_placeAll_17 : decode cX2_placeAll 17 = .ok (.iconst 0, 1) := by decide +kernel
theorem dX2_placeAll_18 : decode cX2_placeAll 18 = .ok (.istore_n 3, 1) := by decide +kernel
theorem dX2_placeAll_19 : decode cX2_placeAll 19 = .ok (.iload_n 3, 1) := by decide +kernel
theorem dX2_placeAll_20 : decode cX2_placeAll 20 = .ok (.aload_n 0, 1) := by decide +kernel
theorem dX2_placeAll_21 : decode cX2_placeAll 21 = .ok (.getfield 21, 3) := by decide +kernel
theorem dX2_placeAll_24 : decode cX2_placeAll 24 = .ok (.if_icmp .ge 61, 3) := by decide +kernel
theorem dX2_placeAll_27 : decode cX2_placeAll 27 = .ok (.aload_n 0, 1) := by decide +kernel
theorem dX2_placeAll_28 : decode cX2_placeAll 28 = .ok (.getfield 15, 3) := by decide +kernel
theorem dX2_placeAll_31 : decode cX2_placeAll 31 = .ok (.iload_n 3, 1) := by decide +kernel
theorem dX2_placeAll_32 : decode cX2_placeAll 32 = .ok (.iaload, 1) := by decide +kernel
theorem dX2_placeAll_33 : decode cX2_placeAll 33 = .ok (.iconst (-1), 1) := by decide +kernel
theorem dX2_placeAll_34 : decode cX2_placeAll 34 = .ok (.if_icmp .ne 45, 3) := by decide +kernel
theorem dX2_placeAll_37 : decode cX2_placeAll 37 = .ok (.aload_n 0, 1) := by decide +kernel
theorem dX2_placeAll_38 : decode cX2_placeAll 38 = .ok (.iload_n 3, 1) := by decide +kernel
theorem dX2_placeAll_39 : decode cX2_placeAll 39 = .ok (.iload_n 1, 1) := by decide +kernel
theorem dX2_placeAll_40 : decode cX2_placeAll 40 = .ok (.invokevirtual 46, 3) := by decide +kernel
theorem dX2_placeAll_43 : decode cX2_placeAll 43 = .ok (.istore 4, 2) := by decide +kernel
theorem dX2_placeAll_45 : decode cX2_placeAll 45 = .ok (.iload 4, 2) := by decide +kernel
theorem dX2_placeAll_47 : decode cX2_placeAll 47 = .ok (.iconst (-1), 1) := by decide +kernel
theorem dX2_placeAll_48 : decode cX2_placeAll 48 = .ok (.if_icmp .ne 20, 3) := by decide +kernel
theorem dX2_placeAll_51 : decode cX2_placeAll 51 = .ok (.aload_n 0, 1) := by decide +kernel
theorem dX2_placeAll_52 : decode cX2_placeAll 52 = .ok (.getfield 18, 3) := by decide +kernel
theorem dX2_placeAll_55 : decode cX2_placeAll 55 = .ok (.iconst 0, 1) := by decide +kernel
theorem dX2_placeAll_56 : decode cX2_placeAll 56 = .ok (.aload_n 0, 1) := by decide +kernel
theorem dX2_placeAll_57 : decode cX2_placeAll 57 = .ok (.getfield 15, 3) := by decide +kernel
theorem dX2_placeAll_60 : decode cX2_placeAll 60 = .ok (.iconst 0, 1) := by decide +kernel
theorem dX2_placeAll_61 : decode cX2_placeAll 61 = .ok (.bipush 12, 2) := by decide +kernel
theorem dX2_placeAll_63 : decode cX2_placeAll 63 = .ok (.invokestatic 40, 3) := by decide +kernel
theorem dX2_placeAll_66 : decode cX2_placeAll 66 = .ok (.iconst (-1), 1) := by decide +kernel
theorem dX2_placeAll_67 : decode cX2_placeAll 67 = .ok (.ireturn, 1) := by decide +kernel
theorem dX2_placeAll_68 : decode cX2_placeAll 68 = .ok (.aload_n 0, 1) := by decide +kernel
theorem dX2_placeAll_69 : decode cX2_placeAll 69 = .ok (.getfield 15, 3) := by decide +kernel
theorem dX2_placeAll_72 : decode cX2_placeAll 72 = .ok (.iload_n 3, 1) := by decide +kernel
theorem dX2_placeAll_73 : decode cX2_placeAll 73 = .ok (.iload 4, 2) := by decide +kernel
theorem dX2_placeAll_75 : decode cX2_placeAll 75 = .ok (.iastore, 1) := by decide +kernel
theorem dX2_placeAll_76 : decode cX2_placeAll 76 = .ok (.iinc 2 1, 3) := by decide +kernel
theorem dX2_placeAll_79 : decode cX2_placeAll 79 = .ok (.iinc 3 1, 3) := by decide +kernel
theorem dX2_placeAll_82 : decode cX2_placeAll 82 = .ok (.goto (-63), 3) := by decide +kernel
theorem dX2_placeAll_85 : decode cX2_placeAll 85 = .ok (.iload_n 2, 1) := by decide +kernel
theorem dX2_placeAll_86 : decode cX2_placeAll 86 = .ok (.ireturn, 1) := by decide +kernel
theorem dX2_lowestFor_0 : decode cX2_lowestFor 0 = .ok (.iload_n 2, 1) := by decide +kernel
theorem dX2_lowestFor_1 : decode cX2_lowestFor 1 = .ok (.iconst 1, 1) := by decide +kernel
theorem dX2_lowestFor_2 : decode cX2_lowestFor 2 = .ok (.invokestatic 50, 3) := by decide +kernel
theorem dX2_lowestFor_5 : decode cX2_lowestFor 5 = .ok (.istore_n 3, 1) := by decide +kernel
theorem dX2_lowestFor_6 : decode cX2_lowestFor 6 = .ok (.iconst 0, 1) := by decide +kernel
theorem dX2_lowestFor_7 : decode cX2_lowestFor 7 = .ok (.istore 4, 2) := by decide +kernel
theorem dX2_lowestFor_9 : decode cX2_lowestFor 9 = .ok (.iload 4, 2) := by decide +kernel
theorem dX2_lowestFor_11 : decode cX2_lowestFor 11 = .ok (.sipush 512, 3) := by decide +kernel
theorem dX2_lowestFor_14 : decode cX2_lowestFor 14 = .ok (.if_icmp .ge 35, 3) := by decide +kernel
theorem dX2_lowestFor_17 : decode cX2_lowestFor 17 = .ok (.aload_n 0, 1) := by decide +kernel
theorem dX2_lowestFor_18 : decode cX2_lowestFor 18 = .ok (.iload_n 1, 1) := by decide +kernel
theorem dX2_lowestFor_19 : decode cX2_lowestFor 19 = .ok (.iload 4, 2) := by decide +kernel
theorem dX2_lowestFor_21 : decode cX2_lowestFor 21 = .ok (.invokevirtual 55, 3) := by decide +kernel
theorem dX2_lowestFor_24 : decode cX2_lowestFor 24 = .ok (.ifCond .eq 16, 3) := by decide +kernel
theorem dX2_lowestFor_27 : decode cX2_lowestFor 27 = .ok (.aload_n 0, 1) := by decide +kernel
theorem dX2_lowestFor_28 : decode cX2_lowestFor 28 = .ok (.iload_n 1, 1) := by decide +kernel
theorem dX2_lowestFor_29 : decode cX2_lowestFor 29 = .ok (.iload 4, 2) := by decide +kernel
theorem dX2_lowestFor_31 : decode cX2_lowestFor 31 = .ok (.invokevirtual 59, 3) := by decide +kernel
theorem dX2_lowestFor_34 : decode cX2_lowestFor 34 = .ok (.ifCond .eq 6, 3) := by decide +kernel
theorem dX2_lowestFor_37 : decode cX2_lowestFor 37 = .ok (.iload 4, 2) := by decide +kernel
theorem dX2_lowestFor_39 : decode cX2_lowestFor 39 = .ok (.ireturn, 1) := by decide +kernel
theorem dX2_lowestFor_40 : decode cX2_lowestFor 40 = .ok (.iload 4, 2) := by decide +kernel
theorem dX2_lowestFor_42 : decode cX2_lowestFor 42 = .ok (.iload_n 3, 1) := by decide +kernel
theorem dX2_lowestFor_43 : decode cX2_lowestFor 43 = .ok (.iadd, 1) := by decide +kernel
theorem dX2_lowestFor_44 : decode cX2_lowestFor 44 = .ok (.istore 4, 2) := by decide +kernel
theorem dX2_lowestFor_46 : decode cX2_lowestFor 46 = .ok (.goto (-37), 3) := by decide +kernel
theorem dX2_lowestFor_49 : decode cX2_lowestFor 49 = .ok (.iconst (-1), 1) := by decide +kernel
theorem dX2_lowestFor_50 : decode cX2_lowestFor 50 = .ok (.ireturn, 1) := by decide +kernel
theorem dX3_init_0 : decode cX3_init 0 = .ok (.aload_n 0, 1) := by decide +kernel
theorem dX3_init_1 : decode cX3_init 1 = .ok (.invokespecial 1, 3) := by decide +kernel
theorem dX3_init_4 : decode cX3_init 4 = .ok (.aload_n 0, 1) := by decide +kernel
theorem dX3_init_5 : decode cX3_init 5 = .ok (.new 7, 3) := by decide +kernel
theorem dX3_init_8 : decode cX3_init 8 = .ok (.dup, 1) := by decide +kernel
theorem dX3_init_9 : decode cX3_init 9 = .ok (.invokespecial 9, 3) := by decide +kernel
theorem dX3_init_12 : decode cX3_init 12 = .ok (.putfield 10, 3) := by decide +kernel
theorem dX3_init_15 : decode cX3_init 15 = .ok (.aload_n 0, 1) := by decide +kernel
theorem dX3_init_16 : decode cX3_init 16 = .ok (.new 16, 3) := by decide +kernel
theorem dX3_init_19 : decode cX3_init 19 = .ok (.dup, 1) := by decide +kernel
theorem dX3_init_20 : decode cX3_init 20 = .ok (.invokespecial 18, 3) := by decide +kernel
theorem dX3_init_23 : decode cX3_init 23 = .ok (.putfield 19, 3) := by decide +kernel
theorem dX3_init_26 : decode cX3_init 26 = .ok (.aload_n 0, 1) := by decide +kernel
theorem dX3_init_27 : decode cX3_init 27 = .ok (.new 16, 3) := by decide +kernel
theorem dX3_init_30 : decode cX3_init 30 = .ok (.dup, 1) := by decide +kernel
theorem dX3_init_31 : decode cX3_init 31 = .ok (.invokespecial 18, 3) := by decide +kernel
theorem dX3_init_34 : decode cX3_init 34 = .ok (.putfield 23, 3) := by decide +kernel
theorem dX3_init_37 : decode cX3_init 37 = .ok (.aload_n 0, 1) := by decide +kernel
theorem dX3_init_38 : decode cX3_init 38 = .ok (.new 26, 3) := by decide +kernel
theorem dX3_init_41 : decode cX3_init 41 = .ok (.dup, 1) := by decide +kernel
theorem dX3_init_42 : decode cX3_init 42 = .ok (.invokespecial 28, 3) := by decide +kernel
theorem dX3_init_45 : decode cX3_init 45 = .ok (.putfield 29, 3) := by decide +kernel
theorem dX3_init_48 : decode cX3_init 48 = .ok (.aload_n 0, 1) := by decide +kernel
theorem dX3_init_49 : decode cX3_init 49 = .ok (.new 26, 3) := by decide +kernel
theorem dX3_init_52 : decode cX3_init 52 = .ok (.dup, 1) := by decide +kernel
theorem dX3_init_53 : decode cX3_init 53 = .ok (.invokespecial 28, 3) := by decide +kernel
theorem dX3_init_56 : decode cX3_init 56 = .ok (.putfield 33, 3) := by decide +kernel
theorem dX3_init_59 : decode cX3_init 59 = .ok (.return_, 1) := by decide +kernel
theorem dX3_addName_0 : decode cX3_addName 0 = .ok (.iload_n 1, 1) := by decide +kernel
theorem dX3_addName_1 : decode cX3_addName 1 = .ok (.iconst 1, 1) := by decide +kernel
theorem dX3_addName_2 : decode cX3_addName 2 = .ok (.if_icmp .lt 9, 3) := by decide +kernel
theorem dX3_addName_5 : decode cX3_addName 5 = .ok (.iload_n 1, 1) := by decide +kernel
theorem dX3_addName_6 : decode cX3_addName 6 = .ok (.bipush 32, 2) := by decide +kernel
theorem dX3_addName_8 : decode cX3_addName 8 = .ok (.if_icmp .le 13, 3) := by decide +kernel
theorem dX3_addName_11 : decode cX3_addName 11 = .ok (.new 36, 3) := by decide +kernel
theorem dX3_addName_14 : decode cX3_addName 14 = .ok (.dup, 1) := by decide +kernel
theorem dX3_addName_15 : decode cX3_addName 15 = .ok (.ldc 38, 2) := by decide +kernel
theorem dX3_addName_17 : decode cX3_addName 17 = .ok (.invokespecial 40, 3) := by decide +kernel
theorem dX3_addName_20 : decode cX3_addName 20 = .ok (.athrow, 1) := by decide +kernel
theorem dX3_addName_21 : decode cX3_addName 21 = .ok (.aload_n 0, 1) := by decide +kernel
theorem dX3_addName_22 : decode cX3_addName 22 = .ok (.getfield 10, 3) := by decide +kernel
theorem dX3_addName_25 : decode cX3_addName 25 = .ok (.invokevirtual 43, 3) := by decide +kernel
theorem dX3_addName_28 : decode cX3_addName 28 = .ok (.ifCond .eq 13, 3) := by decide +kernel
theorem dX3_addName_31 : decode cX3_addName 31 = .ok (.new 47, 3) := by decide +kernel
theorem dX3_addName_34 : decode cX3_addName 34 = .ok (.dup, 1) := by decide +kernel
theorem dX3_addName_35 : decode cX3_addName 35 = .ok (.ldc 49, 2) := by decide +kernel
theorem dX3_addName_37 : decode cX3_addName 37 = .ok (.invokespecial 51, 3) := by decide +kernel
theorem dX3_addName_40 : decode cX3_addName 40 = .ok (.athrow, 1) := by decide +kernel
theorem dX3_addName_41 : decode cX3_addName 41 = .ok (.aload_n 0, 1) := by decide +kernel
theorem dX3_addName_42 : decode cX3_addName 42 = .ok (.getfield 10, 3) := by decide +kernel
theorem dX3_addName_45 : decode cX3_addName 45 = .ok (.iload_n 1, 1) := by decide +kernel
theorem dX3_addName_46 : decode cX3_addName 46 = .ok (.invokevirtual 52, 3) := by decide +kernel
theorem dX3_addName_49 : decode cX3_addName 49 = .ok (.ireturn, 1) := by decide +kernel
theorem dX3_place_0 : decode cX3_place 0 = .ok (.aload_n 0, 1) := by decide +kernel
theorem dX3_place_1 : decode cX3_place 1 = .ok (.iload_n 1, 1) := by decide +kernel
theorem dX3_place_2 : decode cX3_place 2 = .ok (.invokevirtual 56, 3) := by decide +kernel
theorem dX3_place_5 : decode cX3_place 5 = .ok (.aload_n 0, 1) := by decide +kernel
theorem dX3_place_6 : decode cX3_place 6 = .ok (.getfield 10, 3) := by decide +kernel
theorem dX3_place_9 : decode cX3_place 9 = .ok (.iload_n 1, 1) := by decide +kernel
theorem dX3_place_10 : decode cX3_place 10 = .ok (.iload_n 2, 1) := by decide +kernel
theorem dX3_place_11 : decode cX3_place 11 = .ok (.invokevirtual 60, 3) := by decide +kernel
theorem dX3_place_14 : decode cX3_place 14 = .ok (.ifCond .ne 13, 3) := by decide +kernel
theorem dX3_place_17 : decode cX3_place 17 = .ok (.new 36, 3) := by decide +kernel
theorem dX3_place_20 : decode cX3_place 20 = .ok (.dup, 1) := by decide +kernel
theorem dX3_place_21 : decode cX3_place 21 = .ok (.ldc 64, 2) := by decide +kernel
theorem dX3_place_23 : decode cX3_place 23 = .ok (.invokespecial 40, 3) := by decide +kernel
theorem dX3_place_26 : decode cX3_place 26 = .ok (.athrow, 1) := by decide +kernel
theorem dX3_place_27 : decode cX3_place 27 = .ok (.aload_n 0, 1) := by decide +kernel
theorem dX3_place_28 : decode cX3_place 28 = .ok (.getfield 10, 3) := by decide +kernel
theorem dX3_place_31 : decode cX3_place 31 = .ok (.iload_n 1, 1) := by decide +kernel
theorem dX3_place_32 : decode cX3_place 32 = .ok (.invokevirtual 66, 3) := by decide +kernel
theorem dX3_place_35 : decode cX3_place 35 = .ok (.ifCond .eq 13, 3) := by decide +kernel
theorem dX3_place_38 : decode cX3_place 38 = .ok (.new 47, 3) := by decide +kernel
theorem dX3_place_41 : decode cX3_place 41 = .ok (.dup, 1) := by decide +kernel
theorem dX3_place_42 : decode cX3_place 42 = .ok (.ldc 70, 2) := by decide +kernel
theorem dX3_place_44 : decode cX3_place 44 = .ok (.invokespecial 51, 3) := by decide +kernel
theorem dX3_place_47 : decode cX3_place 47 = .ok (.athrow, 1) := by decide +kernel
theorem dX3_place_48 : decode cX3_place 48 = .ok (.aload_n 0, 1) := by decide +kernel
theorem dX3_place_49 : decode cX3_place 49 = .ok (.getfield 10, 3) := by decide +kernel
theorem dX3_place_52 : decode cX3_place 52 = .ok (.iload_n 1, 1) := by decide +kernel
theorem dX3_place_53 : decode cX3_place 53 = .ok (.iload_n 2, 1) := by decide +kernel
theorem dX3_place_54 : decode cX3_place 54 = .ok (.invokevirtual 72, 3) := by decide +kernel
theorem dX3_place_57 : decode cX3_place 57 = .ok (.ifCond .ne 13, 3) := by decide +kernel
theorem dX3_place_60 : decode cX3_place 60 = .ok (.new 47, 3) := by decide +kernel
theorem dX3_place_63 : decode cX3_place 63 = .ok (.dup, 1) := by decide +kernel
theorem dX3_place_64 : decode cX3_place 64 = .ok (.ldc 75, 2) := by decide +kernel
theorem dX3_place_66 : decode cX3_place 66 = .ok (.invokespecial 51, 3) := by decide +kernel
theorem dX3_place_69 : decode cX3_place 69 = .ok (.athrow, 1) := by decide +kernel
theorem dX3_place_70 : decode cX3_place 70 = .ok (.aload_n 0, 1) := by decide +kernel
theorem dX3_place_71 : decode cX3_place 71 = .ok (.getfield 10, 3) := by decide +kernel
theorem dX3_place_74 : decode cX3_place 74 = .ok (.iload_n 1, 1) := by decide +kernel
theorem dX3_place_75 : decode cX3_place 75 = .ok (.iload_n 2, 1) := by decide +kernel
theorem dX3_place_76 : decode cX3_place 76 = .ok (.invokevirtual 77, 3) := by decide +kernel
theorem dX3_place_79 : decode cX3_place 79 = .ok (.iload_n 2, 1) := by decide +kernel
theorem dX3_place_80 : decode cX3_place 80 = .ok (.bipush 8, 2) := by decide +kernel
theorem dX3_place_82 : decode cX3_place 82 = .ok (.idiv, 1) := by decide +kernel
theorem dX3_place_83 : decode cX3_place 83 = .ok (.ireturn, 1) := by decide +kernel
theorem dX3_link_0 : decode cX3_link 0 = .ok (.iload_n 1, 1) := by decide +kernel
theorem dX3_link_1 : decode cX3_link 1 = .ok (.iconst 1, 1) := by decide +kernel
theorem dX3_link_2 : decode cX3_link 2 = .ok (.if_icmp .lt 9, 3) := by decide +kernel
theorem dX3_link_5 : decode cX3_link 5 = .ok (.iload_n 1, 1) := by decide +kernel
theorem dX3_link_6 : decode cX3_link 6 = .ok (.bipush 64, 2) := by decide +kernel
theorem dX3_link_8 : decode cX3_link 8 = .ok (.if_icmp .le 13, 3) := by decide +kernel
theorem dX3_link_11 : decode cX3_link 11 = .ok (.new 36, 3) := by decide +kernel
theorem dX3_link_14 : decode cX3_link 14 = .ok (.dup, 1) := by decide +kernel
theorem dX3_link_15 : decode cX3_link 15 = .ok (.ldc 81, 2) := by decide +kernel
theorem dX3_link_17 : decode cX3_link 17 = .ok (.invokespecial 40, 3) := by decide +kernel
theorem dX3_link_20 : decode cX3_link 20 = .ok (.athrow, 1) := by decide +kernel
theorem dX3_link_21 : decode cX3_link 21 = .ok (.aload_n 0, 1) := by decide +kernel
theorem dX3_link_22 : decode cX3_link 22 = .ok (.getfield 10, 3) := by decide +kernel
theorem dX3_link_25 : decode cX3_link 25 = .ok (.iload_n 1, 1) := by decide +kernel
theorem dX3_link_26 : decode cX3_link 26 = .ok (.invokevirtual 83, 3) := by decide +kernel
theorem dX3_link_29 : decode cX3_link 29 = .ok (.istore_n 2, 1) := by decide +kernel
theorem dX3_link_30 : decode cX3_link 30 = .ok (.iload_n 2, 1) := by decide +kernel
theorem dX3_link_31 : decode cX3_link 31 = .ok (.iconst (-1), 1) := by decide +kernel
theorem dX3_link_32 : decode cX3_link 32 = .ok (.if_icmp .ne 13, 3) := by decide +kernel
theorem dX3_link_35 : decode cX3_link 35 = .ok (.new 86, 3) := by decide +kernel
theorem dX3_link_38 : decode cX3_link 38 = .ok (.dup, 1) := by decide +kernel
theorem dX3_link_39 : decode cX3_link 39 = .ok (.ldc 88, 2) := by decide +kernel
theorem dX3_link_41 : decode cX3_link 41 = .ok (.invokespecial 90, 3) := by decide +kernel
theorem dX3_link_44 : decode cX3_link 44 = .ok (.athrow, 1) := by decide +kernel
theorem dX3_link_45 : decode cX3_link 45 = .ok (.iload_n 2, 1) := by decide +kernel
theorem dX3_link_46 : decode cX3_link 46 = .ok (.ireturn, 1) := by decide +kernel
theorem dX3_take_0 : decode cX3_take 0 = .ok (.aload_n 0, 1) := by decide +kernel
theorem dX3_take_1 : decode cX3_take 1 = .ok (.iload_n 1, 1) := by decide +kernel
theorem dX3_take_2 : decode cX3_take 2 = .ok (.invokevirtual 91, 3) := by decide +kernel
theorem dX3_take_5 : decode cX3_take 5 = .ok (.aload_n 0, 1) := by decide +kernel
theorem dX3_take_6 : decode cX3_take 6 = .ok (.getfield 10, 3) := by decide +kernel
theorem dX3_take_9 : decode cX3_take 9 = .ok (.iload_n 1, 1) := by decide +kernel
theorem dX3_take_10 : decode cX3_take 10 = .ok (.invokevirtual 94, 3) := by decide +kernel
theorem dX3_take_13 : decode cX3_take 13 = .ok (.istore_n 2, 1) := by decide +kernel
theorem dX3_take_14 : decode cX3_take 14 = .ok (.aload_n 0, 1) := by decide +kernel
theorem dX3_take_15 : decode cX3_take 15 = .ok (.getfield 10, 3) := by decide +kernel
theorem dX3_take_18 : decode cX3_take 18 = .ok (.iload_n 1, 1) := by decide +kernel
theorem dX3_take_19 : decode cX3_take 19 = .ok (.iconst (-1), 1) := by decide +kernel
theorem dX3_take_20 : decode cX3_take 20 = .ok (.invokevirtual 77, 3) := by decide +kernel
theorem dX3_take_23 : decode cX3_take 23 = .ok (.iload_n 2, 1) := by decide +kernel
theorem dX3_take_24 : decode cX3_take 24 = .ok (.ireturn, 1) := by decide +kernel
theorem dX3_addressOf_0 : decode cX3_addressOf 0 = .ok (.aload_n 0, 1) := by decide +kernel
theorem dX3_addressOf_1 : decode cX3_addressOf 1 = .ok (.iload_n 1, 1) := by decide +kernel
theorem dX3_addressOf_2 : decode cX3_addressOf 2 = .ok (.iload_n 2, 1) := by decide +kernel
theorem dX3_addressOf_3 : decode cX3_addressOf 3 = .ok (.invokevirtual 97, 3) := by decide +kernel
theorem dX3_addressOf_6 : decode cX3_addressOf 6 = .ok (.aload_n 0, 1) := by decide +kernel
theorem dX3_addressOf_7 : decode cX3_addressOf 7 = .ok (.getfield 10, 3) := by decide +kernel
theorem dX3_addressOf_10 : decode cX3_addressOf 10 = .ok (.iload_n 1, 1) := by decide +kernel
theorem dX3_addressOf_11 : decode cX3_addressOf 11 = .ok (.invokevirtual 94, 3) := by decide +kernel
theorem dX3_addressOf_14 : decode cX3_addressOf 14 = .ok (.iload_n 2, 1) := by decide +kernel
theorem dX3_addressOf_15 : decode cX3_addressOf 15 = .ok (.iadd, 1) := by decide +kernel
theorem dX3_addressOf_16 : decode cX3_addressOf 16 = .ok (.ireturn, 1) := by decide +kernel
theorem dX3_nameAt_0 : decode cX3_nameAt 0 = .ok (.iload_n 1, 1) := by decide +kernel
theorem dX3_nameAt_1 : decode cX3_nameAt 1 = .ok (.ifCond .lt 10, 3) := by decide +kernel
theorem dX3_nameAt_4 : decode cX3_nameAt 4 = .ok (.iload_n 1, 1) := by decide +kernel
theorem dX3_nameAt_5 : decode cX3_nameAt 5 = .ok (.sipush 512, 3) := by decide +kernel
theorem dX3_nameAt_8 : decode cX3_nameAt 8 = .ok (.if_icmp .lt 13, 3) := by decide +kernel
theorem dX3_nameAt_11 : decode cX3_nameAt 11 = .ok (.new 36, 3) := by decide +kernel
theorem dX3_nameAt_14 : decode cX3_nameAt 14 = .ok (.dup, 1) := by decide +kernel
theorem dX3_nameAt_15 : decode cX3_nameAt 15 = .ok (.ldc 64, 2) := by decide +kernel
theorem dX3_nameAt_17 : decode cX3_nameAt 17 = .ok (.invokespecial 40, 3) := by decide +kernel
theorem dX3_nameAt_20 : decode cX3_nameAt 20 = .ok (.athrow, 1) := by decide +kernel
theorem dX3_nameAt_21 : decode cX3_nameAt 21 = .ok (.aload_n 0, 1) := by decide +kernel
theorem dX3_nameAt_22 : decode cX3_nameAt 22 = .ok (.getfield 10, 3) := by decide +kernel
theorem dX3_nameAt_25 : decode cX3_nameAt 25 = .ok (.iload_n 1, 1) := by decide +kernel
theorem dX3_nameAt_26 : decode cX3_nameAt 26 = .ok (.invokevirtual 100, 3) := by decide +kernel
theorem dX3_nameAt_29 : decode cX3_nameAt 29 = .ok (.istore_n 2, 1) := by decide +kernel
theorem dX3_nameAt_30 : decode cX3_nameAt 30 = .ok (.iload_n 2, 1) := by decide +kernel
theorem dX3_nameAt_31 : decode cX3_nameAt 31 = .ok (.iconst (-1), 1) := by decide +kernel
theorem dX3_nameAt_32 : decode cX3_nameAt 32 = .ok (.if_icmp .ne 13, 3) := by decide +kernel
theorem dX3_nameAt_35 : decode cX3_nameAt 35 = .ok (.new 103, 3) := by decide +kernel
theorem dX3_nameAt_38 : decode cX3_nameAt 38 = .ok (.dup, 1) := by decide +kernel
theorem dX3_nameAt_39 : decode cX3_nameAt 39 = .ok (.ldc 105, 2) := by decide +kernel
theorem dX3_nameAt_41 : decode cX3_nameAt 41 = .ok (.invokespecial 107, 3) := by decide +kernel
theorem dX3_nameAt_44 : decode cX3_nameAt 44 = .ok (.athrow, 1) := by decide +kernel
theorem dX3_nameAt_45 : decode cX3_nameAt 45 = .ok (.iload_n 2, 1) := by decide +kernel
theorem dX3_nameAt_46 : decode cX3_nameAt 46 = .ok (.ireturn, 1) := by decide +kernel
theorem dX3_meet_0 : decode cX3_meet 0 = .ok (.aload_n 0, 1) := by decide +kernel
theorem dX3_meet_1 : decode cX3_meet 1 = .ok (.iload_n 1, 1) := by decide +kernel
theorem dX3_meet_2 : decode cX3_meet 2 = .ok (.invokevirtual 56, 3) := by decide +kernel
theorem dX3_meet_5 : decode cX3_meet 5 = .ok (.aload_n 0, 1) := by decide +kernel
theorem dX3_meet_6 : decode cX3_meet 6 = .ok (.iload_n 2, 1) := by decide +kernel
theorem dX3_meet_7 : decode cX3_meet 7 = .ok (.invokevirtual 56, 3) := by decide +kernel
theorem dX3_meet_10 : decode cX3_meet 10 = .ok (.iload_n 1, 1) := by decide +kernel
theorem dX3_meet_11 : decode cX3_meet 11 = .ok (.iload_n 2, 1) := by decide +kernel
theorem dX3_meet_12 : decode cX3_meet 12 = .ok (.if_icmp .ne 13, 3) := by decide +kernel
theorem dX3_meet_15 : decode cX3_meet 15 = .ok (.new 36, 3) := by decide +kernel
theorem dX3_meet_18 : decode cX3_meet 18 = .ok (.dup, 1) := by decide +kernel
theorem dX3_meet_19 : decode cX3_meet 19 = .ok (.ldc 108, 2) := by decide +kernel
theorem dX3_meet_21 : decode cX3_meet 21 = .ok (.invokespecial 40, 3) := by decide +kernel
theorem dX3_meet_24 : decode cX3_meet 24 = .ok (.athrow, 1) := by decide +kernel
theorem dX3_meet_25 : decode cX3_meet 25 = .ok (.aload_n 0, 1) := by decide +kernel
theorem dX3_meet_26 : decode cX3_meet 26 = .ok (.getfield 10, 3) := by decide +kernel
theorem dX3_meet_29 : decode cX3_meet 29 = .ok (.iload_n 1, 1) := by decide +kernel
theorem dX3_meet_30 : decode cX3_meet 30 = .ok (.iload_n 2, 1) := by decide +kernel
theorem dX3_meet_31 : decode cX3_meet 31 = .ok (.invokevirtual 110, 3) := by decide +kernel
theorem dX3_meet_34 : decode cX3_meet 34 = .ok (.ireturn, 1) := by decide +kernel
theorem dX3_read_0 : decode cX3_read 0 = .ok (.aload_n 0, 1) := by decide +kernel
theorem dX3_read_1 : decode cX3_read 1 = .ok (.iconst 0, 1) := by decide +kernel
theorem dX3_read_2 : decode cX3_read 2 = .ok (.iload_n 1, 1) := by decide +kernel
theorem dX3_read_3 : decode cX3_read 3 = .ok (.iload_n 2, 1) := by decide +kernel
theorem dX3_read_4 : decode cX3_read 4 = .ok (.iload_n 3, 1) := by decide +kernel
theorem dX3_read_5 : decode cX3_read 5 = .ok (.invokevirtual 115, 3) := by decide +kernel
theorem dX3_read_8 : decode cX3_read 8 = .ok (.ireturn, 1) := by decide +kernel
theorem dX3_write_0 : decode cX3_write 0 = .ok (.aload_n 0, 1) := by decide +kernel
theorem dX3_write_1 : decode cX3_write 1 = .ok (.iconst 1, 1) := by decide +kernel
theorem dX3_write_2 : decode cX3_write 2 = .ok (.iload_n 1, 1) := by decide +kernel
theorem dX3_write_3 : decode cX3_write 3 = .ok (.iload_n 2, 1) := by decide +kernel
theorem dX3_write_4 : decode cX3_write 4 = .ok (.iload_n 3, 1) := by decide +kernel
theorem dX3_write_5 : decode cX3_write 5 = .ok (.invokevirtual 115, 3) := by decide +kernel
theorem dX3_write_8 : decode cX3_write 8 = .ok (.ireturn, 1) := by decide +kernel
theorem dX3_empty_0 : decode cX3_empty 0 = .ok (.iload_n 1, 1) := by decide +kernel
theorem dX3_empty_1 : decode cX3_empty 1 = .ok (.invokestatic 119, 3) := by decide +kernel
theorem dX3_empty_4 : decode cX3_empty 4 = .ok (.aload_n 0, 1) := by decide +kernel
theorem dX3_empty_5 : decode cX3_empty 5 = .ok (.invokevirtual 122, 3) := by decide +kernel
theorem dX3_empty_8 : decode cX3_empty 8 = .ok (.ifCond .eq 5, 3) := by decide +kernel
theorem dX3_empty_11 : decode cX3_empty 11 = .ok (.iconst 0, 1) := by decide +kernel
theorem dX3_empty_12 : decode cX3_empty 12 = .ok (.ireturn, 1) := by decide +kernel
theorem dX3_empty_13 : decode cX3_empty 13 = .ok (.aload_n 0, 1) := by decide +kernel
theorem dX3_empty_14 : decode cX3_empty 14 = .ok (.getfield 29, 3) := by decide +kernel
theorem dX3_empty_17 : decode cX3_empty 17 = .ok (.new 113, 3) := by decide +kernel
theorem dX3_empty_20 : decode cX3_empty 20 = .ok (.dup, 1) := by decide +kernel
theorem dX3_empty_21 : decode cX3_empty 21 = .ok (.iconst 2, 1) := by decide +kernel
theorem dX3_empty_22 : decode cX3_empty 22 = .ok (.iload_n 1, 1) := by decide +kernel
theorem dX3_empty_23 : decode cX3_empty 23 = .ok (.invokespecial 123, 3) := by decide +kernel
theorem dX3_empty_26 : decode cX3_empty 26 = .ok (.invokeinterface 125 2, 5) := by decide +kernel
theorem dX3_empty_31 : decode cX3_empty 31 = .ok (.pop, 1) := by decide +kernel
theorem dX3_empty_32 : decode cX3_empty 32 = .ok (.aload_n 0, 1) := by decide +kernel
theorem dX3_empty_33 : decode cX3_empty 33 = .ok (.getfield 19, 3) := by decide +kernel
theorem dX3_empty_36 : decode cX3_empty 36 = .ok (.iload_n 1, 1) := by decide +kernel
theorem dX3_empty_37 : decode cX3_empty 37 = .ok (.invokevirtual 131, 3) := by decide +kernel
theorem dX3_empty_40 : decode cX3_empty 40 = .ok (.ireturn, 1) := by decide +kernel
theorem dX3_setAhead_0 : decode cX3_setAhead 0 = .ok (.iload_n 1, 1) := by decide +kernel
theorem dX3_setAhead_1 : decode cX3_setAhead 1 = .ok (.invokestatic 119, 3) := by decide +kernel
theorem dX3_setAhead_4 : decode cX3_setAhead 4 = .ok (.aload_n 0, 1) := by decide +kernel
theorem dX3_setAhead_5 : decode cX3_setAhead 5 = .ok (.getfield 19, 3) := by decide +kernel
theorem dX3_setAhead_8 : decode cX3_setAhead 8 = .ok (.iload_n 1, 1) := by decide +kernel
theorem dX3_setAhead_9 : decode cX3_setAhead 9 = .ok (.invokevirtual 134, 3) := by decide +kernel
theorem dX3_setAhead_12 : decode cX3_setAhead 12 = .ok (.istore_n 3, 1) := by decide +kernel
theorem dX3_setAhead_13 : decode cX3_setAhead 13 = .ok (.aload_n 0, 1) := by decide +kernel
theorem dX3_setAhead_14 : decode cX3_setAhead 14 = .ok (.invokevirtual 122, 3) := by decide +kernel
theorem dX3_setAhead_17 : decode cX3_setAhead 17 = .ok (.ifCond .eq 5, 3) := by decide +kernel
theorem dX3_setAhead_20 : decode cX3_setAhead 20 = .ok (.iload_n 3, 1) := by decide +kernel
theorem dX3_setAhead_21 : decode cX3_setAhead 21 = .ok (.ireturn, 1) := by decide +kernel
theorem dX3_setAhead_22 : decode cX3_setAhead 22 = .ok (.iload_n 2, 1) := by decide +kernel
theorem dX3_setAhead_23 : decode cX3_setAhead 23 = .ok (.ifCond .eq 7, 3) := by decide +kernel
theorem dX3_setAhead_26 : decode cX3_setAhead 26 = .ok (.iconst 3, 1) := by decide +kernel
theorem dX3_setAhead_27 : decode cX3_setAhead 27 = .ok (.goto 4, 3) := by decide +kernel
theorem dX3_setAhead_30 : decode cX3_setAhead 30 = .ok (.iconst 4, 1) := by decide +kernel
theorem dX3_setAhead_31 : decode cX3_setAhead 31 = .ok (.istore 4, 2) := by decide +kernel
theorem dX3_setAhead_33 : decode cX3_setAhead 33 = .ok (.aload_n 0, 1) := by decide +kernel
theorem dX3_setAhead_34 : decode cX3_setAhead 34 = .ok (.getfield 29, 3) := by decide +kernel
theorem dX3_setAhead_37 : decode cX3_setAhead 37 = .ok (.new 113, 3) := by decide +kernel
theorem dX3_setAhead_40 : decode cX3_setAhead 40 = .ok (.dup, 1) := by decide +kernel
theorem dX3_setAhead_41 : decode cX3_setAhead 41 = .ok (.iload 4, 2) := by decide +kernel
theorem dX3_setAhead_43 : decode cX3_setAhead 43 = .ok (.iload_n 1, 1) := by decide +kernel
theorem dX3_setAhead_44 : decode cX3_setAhead 44 = .ok (.invokespecial 123, 3) := by decide +kernel
theorem dX3_setAhead_47 : decode cX3_setAhead 47 = .ok (.invokeinterface 125 2, 5) := by decide +kernel
theorem dX3_setAhead_52 : decode cX3_setAhead 52 = .ok (.pop, 1) := by decide +kernel
theorem dX3_setAhead_53 : decode cX3_setAhead 53 = .ok (.aload_n 0, 1) := by decide +kernel
theorem dX3_setAhead_54 : decode cX3_setAhead 54 = .ok (.getfield 19, 3) := by decide +kernel
theorem dX3_setAhead_57 : decode cX3_setAhead 57 = .ok (.iload_n 1, 1) := by decide +kernel
theorem dX3_setAhead_58 : decode cX3_setAhead 58 = .ok (.iload_n 2, 1) := by decide +kernel
theorem dX3_setAhead_59 : decode cX3_setAhead 59 = .ok (.invokevirtual 137, 3) := by decide +kernel
theorem dX3_setAhead_62 : decode cX3_setAhead 62 = .ok (.iload_n 3, 1) := by decide +kernel
theorem dX3_setAhead_63 : decode cX3_setAhead 63 = .ok (.ireturn, 1) := by decide +kernel
theorem dX3_accesses_0 : decode cX3_accesses 0 = .ok (.aload_n 0, 1) := by decide +kernel
theorem dX3_accesses_1 : decode cX3_accesses 1 = .ok (.getfield 33, 3) := by decide +kernel
theorem dX3_accesses_4 : decode cX3_accesses 4 = .ok (.invokeinterface 141 1, 5) := by decide +kernel
theorem dX3_accesses_9 : decode cX3_accesses 9 = .ok (.ireturn, 1) := by decide +kernel
theorem dX3_costOf_0 : decode cX3_costOf 0 = .ok (.aload_n 0, 1) := by decide +kernel
theorem dX3_costOf_1 : decode cX3_costOf 1 = .ok (.iload_n 1, 1) := by decide +kernel
theorem dX3_costOf_2 : decode cX3_costOf 2 = .ok (.invokevirtual 145, 3) := by decide +kernel
theorem dX3_costOf_5 : decode cX3_costOf 5 = .ok (.aload_n 0, 1) := by decide +kernel
theorem dX3_costOf_6 : decode cX3_costOf 6 = .ok (.getfield 33, 3) := by decide +kernel
theorem dX3_costOf_9 : decode cX3_costOf 9 = .ok (.iload_n 1, 1) := by decide +kernel
theorem dX3_costOf_10 : decode cX3_costOf 10 = .ok (.invokeinterface 148 2, 5) := by decide +kernel
theorem dX3_costOf_15 : decode cX3_costOf 15 = .ok (.checkcast 113, 3) := by decide +kernel
theorem dX3_costOf_18 : decode cX3_costOf 18 = .ok (.getfield 152, 3) := by decide +kernel
theorem dX3_costOf_21 : decode cX3_costOf 21 = .ok (.ireturn, 1) := by decide +kernel
theorem dX3_costByReplay_0 : decode cX3_costByReplay 0 = .ok (.aload_n 0, 1) := by decide +kernel
theorem dX3_costByReplay_1 : decode cX3_costByReplay 1 = .ok (.iload_n 1, 1) := by decide +kernel
theorem dX3_costByReplay_2 : decode cX3_costByReplay 2 = .ok (.invokevirtual 145, 3) := by decide +kernel
theorem dX3_costByReplay_5 : decode cX3_costByReplay 5 = .ok (.aload_n 0, 1) := by decide +kernel
theorem dX3_costByReplay_6 : decode cX3_costByReplay 6 = .ok (.iload_n 1, 1) := by decide +kernel
theorem dX3_costByReplay_7 : decode cX3_costByReplay 7 = .ok (.invokevirtual 156, 3) := by decide +kernel
theorem dX3_costByReplay_10 : decode cX3_costByReplay 10 = .ok (.ireturn, 1) := by decide +kernel
theorem dX3_causeOf_0 : decode cX3_causeOf 0 = .ok (.aload_n 0, 1) := by decide +kernel
theorem dX3_causeOf_1 : decode cX3_causeOf 1 = .ok (.iload_n 1, 1) := by decide +kernel
theorem dX3_causeOf_2 : decode cX3_causeOf 2 = .ok (.invokevirtual 145, 3) := by decide +kernel
theorem dX3_causeOf_5 : decode cX3_causeOf 5 = .ok (.aload_n 0, 1) := by decide +kernel
theorem dX3_causeOf_6 : decode cX3_causeOf 6 = .ok (.getfield 33, 3) := by decide +kernel
theorem dX3_causeOf_9 : decode cX3_causeOf 9 = .ok (.iload_n 1, 1) := by decide +kernel
theorem dX3_causeOf_10 : decode cX3_causeOf 10 = .ok (.invokeinterface 148 2, 5) := by decide +kernel
theorem dX3_causeOf_15 : decode cX3_causeOf 15 = .ok (.checkcast 113, 3) := by decide +kernel
theorem dX3_causeOf_18 : decode cX3_causeOf 18 = .ok (.getfield 159, 3) := by decide +kernel
theorem dX3_causeOf_21 : decode cX3_causeOf 21 = .ok (.ireturn, 1) := by decide +kernel
theorem dX3_state_0 : decode cX3_state 0 = .ok (.iload_n 1, 1) := by decide +kernel
theorem dX3_state_1 : decode cX3_state 1 = .ok (.invokestatic 119, 3) := by decide +kernel
theorem dX3_state_4 : decode cX3_state 4 = .ok (.iload_n 2, 1) := by decide +kernel
theorem dX3_state_5 : decode cX3_state 5 = .ok (.invokestatic 163, 3) := by decide +kernel
theorem dX3_state_8 : decode cX3_state 8 = .ok (.aload_n 0, 1) := by decide +kernel
theorem dX3_state_9 : decode cX3_state 9 = .ok (.getfield 19, 3) := by decide +kernel
theorem dX3_state_12 : decode cX3_state 12 = .ok (.iload_n 1, 1) := by decide +kernel
theorem dX3_state_13 : decode cX3_state 13 = .ok (.iload_n 2, 1) := by decide +kernel
theorem dX3_state_14 : decode cX3_state 14 = .ok (.invokevirtual 166, 3) := by decide +kernel
theorem dX3_state_17 : decode cX3_state 17 = .ok (.ireturn, 1) := by decide +kernel
theorem dX3_owner_0 : decode cX3_owner 0 = .ok (.iload_n 1, 1) := by decide +kernel
theorem dX3_owner_1 : decode cX3_owner 1 = .ok (.invokestatic 163, 3) := by decide +kernel
theorem dX3_owner_4 : decode cX3_owner 4 = .ok (.aload_n 0, 1) := by decide +kernel
theorem dX3_owner_5 : decode cX3_owner 5 = .ok (.getfield 19, 3) := by decide +kernel
theorem dX3_owner_8 : decode cX3_owner 8 = .ok (.iload_n 1, 1) := by decide +kernel
theorem dX3_owner_9 : decode cX3_owner 9 = .ok (.invokevirtual 170, 3) := by decide +kernel
theorem dX3_owner_12 : decode cX3_owner 12 = .ok (.istore_n 2, 1) := by decide +kernel
theorem dX3_owner_13 : decode cX3_owner 13 = .ok (.iload_n 2, 1) := by decide +kernel
theorem dX3_owner_14 : decode cX3_owner 14 = .ok (.iconst (-1), 1) := by decide +kernel
theorem dX3_owner_15 : decode cX3_owner 15 = .ok (.if_icmp .ne 13, 3) := by decide +kernel
theorem dX3_owner_18 : decode cX3_owner 18 = .ok (.new 103, 3) := by decide +kernel
theorem dX3_owner_21 : decode cX3_owner 21 = .ok (.dup, 1) := by decide +kernel
theorem dX3_owner_22 : decode cX3_owner 22 = .ok (.ldc 173, 2) := by decide +kernel
theorem dX3_owner_24 : decode cX3_owner 24 = .ok (.invokespecial 107, 3) := by decide +kernel
theorem dX3_owner_27 : decode cX3_owner 27 = .ok (.athrow, 1) := by decide +kernel
theorem dX3_owner_28 : decode cX3_owner 28 = .ok (.iload_n 2, 1) := by decide +kernel
theorem dX3_owner_29 : decode cX3_owner 29 = .ok (.ireturn, 1) := by decide +kernel
theorem dX3_holders_0 : decode cX3_holders 0 = .ok (.iload_n 1, 1) := by decide +kernel
theorem dX3_holders_1 : decode cX3_holders 1 = .ok (.invokestatic 163, 3) := by decide +kernel
theorem dX3_holders_4 : decode cX3_holders 4 = .ok (.aload_n 0, 1) := by decide +kernel
theorem dX3_holders_5 : decode cX3_holders 5 = .ok (.getfield 19, 3) := by decide +kernel
theorem dX3_holders_8 : decode cX3_holders 8 = .ok (.iload_n 1, 1) := by decide +kernel
theorem dX3_holders_9 : decode cX3_holders 9 = .ok (.invokevirtual 175, 3) := by decide +kernel
theorem dX3_holders_12 : decode cX3_holders 12 = .ok (.ireturn, 1) := by decide +kernel
theorem dX3_lines_0 : decode cX3_lines 0 = .ok (.iload_n 1, 1) := by decide +kernel
theorem dX3_lines_1 : decode cX3_lines 1 = .ok (.invokestatic 119, 3) := by decide +kernel
theorem dX3_lines_4 : decode cX3_lines 4 = .ok (.iconst 0, 1) := by decide +kernel
theorem dX3_lines_5 : decode cX3_lines 5 = .ok (.istore_n 2, 1) := by decide +kernel
theorem dX3_lines_6 : decode cX3_lines 6 = .ok (.iconst 0, 1) := by decide +kernel
theorem dX3_lines_7 : decode cX3_lines 7 = .ok (.istore_n 3, 1) := by decide +kernel
end
section
theorem dX3_lines_8 : decode cX3_lines 8 = .ok (.iload_n 3, 1) := by decide +kernel
theorem dX3_lines_9 : decode cX3_lines 9 = .ok (.iconst 4, 1) := by decide +kernel
theorem dX3_lines_10 : decode cX3_lines 10 = .ok (.if_icmp .ge 21, 3) := by decide +kernel
theorem dX3_lines_13 : decode cX3_lines 13 = .ok (.iload_n 2, 1) := by decide +kernel
theorem dX3_lines_14 : decode cX3_lines 14 = .ok (.aload_n 0, 1) := by decide +kernel
theorem dX3_lines_15 : decode cX3_lines 15 = .ok (.getfield 19, 3) := by decide +kernel
theorem dX3_lines_18 : decode cX3_lines 18 = .ok (.iload_n 1, 1) := by decide +kernel
theorem dX3_lines_19 : decode cX3_lines 19 = .ok (.iload_n 3, 1) := by decide +kernel
theorem dX3_lines_20 : decode cX3_lines 20 = .ok (.invokevirtual 178, 3) := by decide +kernel
theorem dX3_lines_23 : decode cX3_lines 23 = .ok (.iadd, 1) := by decide +kernel
theorem dX3_lines_24 : decode cX3_lines 24 = .ok (.istore_n 2, 1) := by decide +kernel
theorem dX3_lines_25 : decode cX3_lines 25 = .ok (.iinc 3 1, 3) := by decide +kernel
theorem dX3_lines_28 : decode cX3_lines 28 = .ok (.goto (-20), 3) := by decide +kernel
theorem dX3_lines_31 : decode cX3_lines 31 = .ok (.iload_n 2, 1) := by decide +kernel
theorem dX3_lines_32 : decode cX3_lines 32 = .ok (.ireturn, 1) := by decide +kernel
theorem dX3_oldest_0 : decode cX3_oldest 0 = .ok (.iload_n 1, 1) := by decide +kernel
theorem dX3_oldest_1 : decode cX3_oldest 1 = .ok (.invokestatic 119, 3) := by decide +kernel
theorem dX3_oldest_4 : decode cX3_oldest 4 = .ok (.iload_n 2, 1) := by decide +kernel
theorem dX3_oldest_5 : decode cX3_oldest 5 = .ok (.ifCond .lt 8, 3) := by decide +kernel
theorem dX3_oldest_8 : decode cX3_oldest 8 = .ok (.iload_n 2, 1) := by decide +kernel
theorem dX3_oldest_9 : decode cX3_oldest 9 = .ok (.iconst 4, 1) := by decide +kernel
theorem dX3_oldest_10 : decode cX3_oldest 10 = .ok (.if_icmp .lt 13, 3) := by decide +kernel
theorem dX3_oldest_13 : decode cX3_oldest 13 = .ok (.new 36, 3) := by decide +kernel
theorem dX3_oldest_16 : decode cX3_oldest 16 = .ok (.dup, 1) := by decide +kernel
theorem dX3_oldest_17 : decode cX3_oldest 17 = .ok (.ldc 182, 2) := by decide +kernel
theorem dX3_oldest_19 : decode cX3_oldest 19 = .ok (.invokespecial 40, 3) := by decide +kernel
theorem dX3_oldest_22 : decode cX3_oldest 22 = .ok (.athrow, 1) := by decide +kernel
theorem dX3_oldest_23 : decode cX3_oldest 23 = .ok (.aload_n 0, 1) := by decide +kernel
theorem dX3_oldest_24 : decode cX3_oldest 24 = .ok (.getfield 19, 3) := by decide +kernel
theorem dX3_oldest_27 : decode cX3_oldest 27 = .ok (.iload_n 1, 1) := by decide +kernel
theorem dX3_oldest_28 : decode cX3_oldest 28 = .ok (.iload_n 2, 1) := by decide +kernel
theorem dX3_oldest_29 : decode cX3_oldest 29 = .ok (.invokevirtual 184, 3) := by decide +kernel
theorem dX3_oldest_32 : decode cX3_oldest 32 = .ok (.istore_n 3, 1) := by decide +kernel
theorem dX3_oldest_33 : decode cX3_oldest 33 = .ok (.iload_n 3, 1) := by decide +kernel
theorem dX3_oldest_34 : decode cX3_oldest 34 = .ok (.iconst (-1), 1) := by decide +kernel
theorem dX3_oldest_35 : decode cX3_oldest 35 = .ok (.if_icmp .ne 13, 3) := by decide +kernel
theorem dX3_oldest_38 : decode cX3_oldest 38 = .ok (.new 103, 3) := by decide +kernel
theorem dX3_oldest_41 : decode cX3_oldest 41 = .ok (.dup, 1) := by decide +kernel
theorem dX3_oldest_42 : decode cX3_oldest 42 = .ok (.ldc 187, 2) := by decide +kernel
theorem dX3_oldest_44 : decode cX3_oldest 44 = .ok (.invokespecial 107, 3) := by decide +kernel
theorem dX3_oldest_47 : decode cX3_oldest 47 = .ok (.athrow, 1) := by decide +kernel
theorem dX3_oldest_48 : decode cX3_oldest 48 = .ok (.iload_n 3, 1) := by decide +kernel
theorem dX3_oldest_49 : decode cX3_oldest 49 = .ok (.ireturn, 1) := by decide +kernel
theorem dX3_count_0 : decode cX3_count 0 = .ok (.aload_n 0, 1) := by decide +kernel
theorem dX3_count_1 : decode cX3_count 1 = .ok (.iload_n 1, 1) := by decide +kernel
theorem dX3_count_2 : decode cX3_count 2 = .ok (.invokevirtual 56, 3) := by decide +kernel
theorem dX3_count_5 : decode cX3_count 5 = .ok (.iload_n 2, 1) := by decide +kernel
theorem dX3_count_6 : decode cX3_count 6 = .ok (.invokestatic 189, 3) := by decide +kernel
theorem dX3_count_9 : decode cX3_count 9 = .ok (.ifCond .ne 13, 3) := by decide +kernel
theorem dX3_count_12 : decode cX3_count 12 = .ok (.new 36, 3) := by decide +kernel
theorem dX3_count_15 : decode cX3_count 15 = .ok (.dup, 1) := by decide +kernel
theorem dX3_count_16 : decode cX3_count 16 = .ok (.ldc 193, 2) := by decide +kernel
theorem dX3_count_18 : decode cX3_count 18 = .ok (.invokespecial 40, 3) := by decide +kernel
theorem dX3_count_21 : decode cX3_count 21 = .ok (.athrow, 1) := by decide +kernel
theorem dX3_count_22 : decode cX3_count 22 = .ok (.iconst 0, 1) := by decide +kernel
theorem dX3_count_23 : decode cX3_count 23 = .ok (.istore_n 3, 1) := by decide +kernel
theorem dX3_count_24 : decode cX3_count 24 = .ok (.iconst 0, 1) := by decide +kernel
theorem dX3_count_25 : decode cX3_count 25 = .ok (.istore 4, 2) := by decide +kernel
theorem dX3_count_27 : decode cX3_count 27 = .ok (.iload 4, 2) := by decide +kernel
theorem dX3_count_29 : decode cX3_count 29 = .ok (.aload_n 0, 1) := by decide +kernel
theorem dX3_count_30 : decode cX3_count 30 = .ok (.getfield 33, 3) := by decide +kernel
theorem dX3_count_33 : decode cX3_count 33 = .ok (.invokeinterface 141 1, 5) := by decide +kernel
theorem dX3_count_38 : decode cX3_count 38 = .ok (.if_icmp .ge 46, 3) := by decide +kernel
theorem dX3_count_41 : decode cX3_count 41 = .ok (.aload_n 0, 1) := by decide +kernel
theorem dX3_count_42 : decode cX3_count 42 = .ok (.getfield 33, 3) := by decide +kernel
theorem dX3_count_45 : decode cX3_count 45 = .ok (.iload 4, 2) := by decide +kernel
theorem dX3_count_47 : decode cX3_count 47 = .ok (.invokeinterface 148 2, 5) := by decide +kernel
theorem dX3_count_52 : decode cX3_count 52 = .ok (.checkcast 113, 3) := by decide +kernel
theorem dX3_count_55 : decode cX3_count 55 = .ok (.astore 5, 2) := by decide +kernel
theorem dX3_count_57 : decode cX3_count 57 = .ok (.aload 5, 2) := by decide +kernel
theorem dX3_count_59 : decode cX3_count 59 = .ok (.getfield 195, 3) := by decide +kernel
theorem dX3_count_62 : decode cX3_count 62 = .ok (.iload_n 1, 1) := by decide +kernel
theorem dX3_count_63 : decode cX3_count 63 = .ok (.if_icmp .ne 15, 3) := by decide +kernel
theorem dX3_count_66 : decode cX3_count 66 = .ok (.aload 5, 2) := by decide +kernel
theorem dX3_count_68 : decode cX3_count 68 = .ok (.getfield 159, 3) := by decide +kernel
theorem dX3_count_71 : decode cX3_count 71 = .ok (.iload_n 2, 1) := by decide +kernel
theorem dX3_count_72 : decode cX3_count 72 = .ok (.if_icmp .ne 6, 3) := by decide +kernel
theorem dX3_count_75 : decode cX3_count 75 = .ok (.iinc 3 1, 3) := by decide +kernel
theorem dX3_count_78 : decode cX3_count 78 = .ok (.iinc 4 1, 3) := by decide +kernel
theorem dX3_count_81 : decode cX3_count 81 = .ok (.goto (-54), 3) := by decide +kernel
theorem dX3_count_84 : decode cX3_count 84 = .ok (.iload_n 3, 1) := by decide +kernel
theorem dX3_count_85 : decode cX3_count 85 = .ok (.ireturn, 1) := by decide +kernel
theorem dX3_bill_0 : decode cX3_bill 0 = .ok (.aload_n 0, 1) := by decide +kernel
theorem dX3_bill_1 : decode cX3_bill 1 = .ok (.iload_n 1, 1) := by decide +kernel
theorem dX3_bill_2 : decode cX3_bill 2 = .ok (.invokevirtual 56, 3) := by decide +kernel
theorem dX3_bill_5 : decode cX3_bill 5 = .ok (.aload_n 0, 1) := by decide +kernel
theorem dX3_bill_6 : decode cX3_bill 6 = .ok (.iload_n 1, 1) := by decide +kernel
theorem dX3_bill_7 : decode cX3_bill 7 = .ok (.invokevirtual 198, 3) := by decide +kernel
theorem dX3_bill_10 : decode cX3_bill 10 = .ok (.lreturn, 1) := by decide +kernel
theorem dX3_worst_0 : decode cX3_worst 0 = .ok (.aload_n 0, 1) := by decide +kernel
theorem dX3_worst_1 : decode cX3_worst 1 = .ok (.getfield 10, 3) := by decide +kernel
theorem dX3_worst_4 : decode cX3_worst 4 = .ok (.invokevirtual 202, 3) := by decide +kernel
theorem dX3_worst_7 : decode cX3_worst 7 = .ok (.ifCond .ne 13, 3) := by decide +kernel
theorem dX3_worst_10 : decode cX3_worst 10 = .ok (.new 103, 3) := by decide +kernel
theorem dX3_worst_13 : decode cX3_worst 13 = .ok (.dup, 1) := by decide +kernel
theorem dX3_worst_14 : decode cX3_worst 14 = .ok (.ldc 205, 2) := by decide +kernel
theorem dX3_worst_16 : decode cX3_worst 16 = .ok (.invokespecial 107, 3) := by decide +kernel
theorem dX3_worst_19 : decode cX3_worst 19 = .ok (.athrow, 1) := by decide +kernel
theorem dX3_worst_20 : decode cX3_worst 20 = .ok (.iconst 0, 1) := by decide +kernel
theorem dX3_worst_21 : decode cX3_worst 21 = .ok (.istore_n 1, 1) := by decide +kernel
theorem dX3_worst_22 : decode cX3_worst 22 = .ok (.aload_n 0, 1) := by decide +kernel
theorem dX3_worst_23 : decode cX3_worst 23 = .ok (.iconst 0, 1) := by decide +kernel
theorem dX3_worst_24 : decode cX3_worst 24 = .ok (.invokevirtual 198, 3) := by decide +kernel
theorem dX3_worst_27 : decode cX3_worst 27 = .ok (.lstore_n 2, 1) := by decide +kernel
theorem dX3_worst_28 : decode cX3_worst 28 = .ok (.iconst 1, 1) := by decide +kernel
theorem dX3_worst_29 : decode cX3_worst 29 = .ok (.istore 4, 2) := by decide +kernel
theorem dX3_worst_31 : decode cX3_worst 31 = .ok (.iload 4, 2) := by decide +kernel
theorem dX3_worst_33 : decode cX3_worst 33 = .ok (.aload_n 0, 1) := by decide +kernel
theorem dX3_worst_34 : decode cX3_worst 34 = .ok (.getfield 10, 3) := by decide +kernel
theorem dX3_worst_37 : decode cX3_worst 37 = .ok (.invokevirtual 202, 3) := by decide +kernel
theorem dX3_worst_40 : decode cX3_worst 40 = .ok (.if_icmp .ge 30, 3) := by decide +kernel
theorem dX3_worst_43 : decode cX3_worst 43 = .ok (.aload_n 0, 1) := by decide +kernel
theorem dX3_worst_44 : decode cX3_worst 44 = .ok (.iload 4, 2) := by decide +kernel
theorem dX3_worst_46 : decode cX3_worst 46 = .ok (.invokevirtual 198, 3) := by decide +kernel
theorem dX3_worst_49 : decode cX3_worst 49 = .ok (.lstore 5, 2) := by decide +kernel
theorem dX3_worst_51 : decode cX3_worst 51 = .ok (.lload 5, 2) := by decide +kernel
theorem dX3_worst_53 : decode cX3_worst 53 = .ok (.lload_n 2, 1) := by decide +kernel
theorem dX3_worst_54 : decode cX3_worst 54 = .ok (.lcmp, 1) := by decide +kernel
theorem dX3_worst_55 : decode cX3_worst 55 = .ok (.ifCond .le 9, 3) := by decide +kernel
theorem dX3_worst_58 : decode cX3_worst 58 = .ok (.iload 4, 2) := by decide +kernel
theorem dX3_worst_60 : decode cX3_worst 60 = .ok (.istore_n 1, 1) := by decide +kernel
theorem dX3_worst_61 : decode cX3_worst 61 = .ok (.lload 5, 2) := by decide +kernel
theorem dX3_worst_63 : decode cX3_worst 63 = .ok (.lstore_n 2, 1) := by decide +kernel
theorem dX3_worst_64 : decode cX3_worst 64 = .ok (.iinc 4 1, 3) := by decide +kernel
theorem dX3_worst_67 : decode cX3_worst 67 = .ok (.goto (-36), 3) := by decide +kernel
theorem dX3_worst_70 : decode cX3_worst 70 = .ok (.iload_n 1, 1) := by decide +kernel
theorem dX3_worst_71 : decode cX3_worst 71 = .ok (.ireturn, 1) := by decide +kernel
theorem dX3_cycles_0 : decode cX3_cycles 0 = .ok (.iload_n 1, 1) := by decide +kernel
theorem dX3_cycles_1 : decode cX3_cycles 1 = .ok (.invokestatic 119, 3) := by decide +kernel
theorem dX3_cycles_4 : decode cX3_cycles 4 = .ok (.lconst 0, 1) := by decide +kernel
theorem dX3_cycles_5 : decode cX3_cycles 5 = .ok (.lstore_n 2, 1) := by decide +kernel
theorem dX3_cycles_6 : decode cX3_cycles 6 = .ok (.iconst 0, 1) := by decide +kernel
theorem dX3_cycles_7 : decode cX3_cycles 7 = .ok (.istore 4, 2) := by decide +kernel
theorem dX3_cycles_9 : decode cX3_cycles 9 = .ok (.iload 4, 2) := by decide +kernel
theorem dX3_cycles_11 : decode cX3_cycles 11 = .ok (.aload_n 0, 1) := by decide +kernel
theorem dX3_cycles_12 : decode cX3_cycles 12 = .ok (.getfield 33, 3) := by decide +kernel
theorem dX3_cycles_15 : decode cX3_cycles 15 = .ok (.invokeinterface 141 1, 5) := by decide +kernel
theorem dX3_cycles_20 : decode cX3_cycles 20 = .ok (.if_icmp .ge 43, 3) := by decide +kernel
theorem dX3_cycles_23 : decode cX3_cycles 23 = .ok (.aload_n 0, 1) := by decide +kernel
theorem dX3_cycles_24 : decode cX3_cycles 24 = .ok (.getfield 33, 3) := by decide +kernel
theorem dX3_cycles_27 : decode cX3_cycles 27 = .ok (.iload 4, 2) := by decide +kernel
theorem dX3_cycles_29 : decode cX3_cycles 29 = .ok (.invokeinterface 148 2, 5) := by decide +kernel
theorem dX3_cycles_34 : decode cX3_cycles 34 = .ok (.checkcast 113, 3) := by decide +kernel
theorem dX3_cycles_37 : decode cX3_cycles 37 = .ok (.astore 5, 2) := by decide +kernel
theorem dX3_cycles_39 : decode cX3_cycles 39 = .ok (.aload 5, 2) := by decide +kernel
theorem dX3_cycles_41 : decode cX3_cycles 41 = .ok (.getfield 207, 3) := by decide +kernel
theorem dX3_cycles_44 : decode cX3_cycles 44 = .ok (.iload_n 1, 1) := by decide +kernel
theorem dX3_cycles_45 : decode cX3_cycles 45 = .ok (.if_icmp .ne 12, 3) := by decide +kernel
theorem dX3_cycles_48 : decode cX3_cycles 48 = .ok (.lload_n 2, 1) := by decide +kernel
theorem dX3_cycles_49 : decode cX3_cycles 49 = .ok (.aload 5, 2) := by decide +kernel
theorem dX3_cycles_51 : decode cX3_cycles 51 = .ok (.getfield 152, 3) := by decide +kernel
theorem dX3_cycles_54 : decode cX3_cycles 54 = .ok (.i2l, 1) := by decide +kernel
theorem dX3_cycles_55 : decode cX3_cycles 55 = .ok (.ladd, 1) := by decide +kernel
theorem dX3_cycles_56 : decode cX3_cycles 56 = .ok (.lstore_n 2, 1) := by decide +kernel
theorem dX3_cycles_57 : decode cX3_cycles 57 = .ok (.iinc 4 1, 3) := by decide +kernel
theorem dX3_cycles_60 : decode cX3_cycles 60 = .ok (.goto (-51), 3) := by decide +kernel
theorem dX3_cycles_63 : decode cX3_cycles 63 = .ok (.lload_n 2, 1) := by decide +kernel
theorem dX3_cycles_64 : decode cX3_cycles 64 = .ok (.lreturn, 1) := by decide +kernel
theorem dX3_fetched_0 : decode cX3_fetched 0 = .ok (.iload_n 1, 1) := by decide +kernel
theorem dX3_fetched_1 : decode cX3_fetched 1 = .ok (.invokestatic 119, 3) := by decide +kernel
theorem dX3_fetched_4 : decode cX3_fetched 4 = .ok (.aload_n 0, 1) := by decide +kernel
theorem dX3_fetched_5 : decode cX3_fetched 5 = .ok (.getfield 19, 3) := by decide +kernel
theorem dX3_fetched_8 : decode cX3_fetched 8 = .ok (.iload_n 1, 1) := by decide +kernel
theorem dX3_fetched_9 : decode cX3_fetched 9 = .ok (.invokevirtual 210, 3) := by decide +kernel
theorem dX3_fetched_12 : decode cX3_fetched 12 = .ok (.ireturn, 1) := by decide +kernel
theorem dX3_useful_0 : decode cX3_useful 0 = .ok (.iload_n 1, 1) := by decide +kernel
theorem dX3_useful_1 : decode cX3_useful 1 = .ok (.invokestatic 119, 3) := by decide +kernel
theorem dX3_useful_4 : decode cX3_useful 4 = .ok (.aload_n 0, 1) := by decide +kernel
theorem dX3_useful_5 : decode cX3_useful 5 = .ok (.getfield 19, 3) := by decide +kernel
theorem dX3_useful_8 : decode cX3_useful 8 = .ok (.iload_n 1, 1) := by decide +kernel
theorem dX3_useful_9 : decode cX3_useful 9 = .ok (.invokevirtual 213, 3) := by decide +kernel
theorem dX3_useful_12 : decode cX3_useful 12 = .ok (.ireturn, 1) := by decide +kernel
theorem dX3_wrong_0 : decode cX3_wrong 0 = .ok (.iload_n 1, 1) := by decide +kernel
theorem dX3_wrong_1 : decode cX3_wrong 1 = .ok (.invokestatic 119, 3) := by decide +kernel
theorem dX3_wrong_4 : decode cX3_wrong 4 = .ok (.aload_n 0, 1) := by decide +kernel
theorem dX3_wrong_5 : decode cX3_wrong 5 = .ok (.getfield 19, 3) := by decide +kernel
theorem dX3_wrong_8 : decode cX3_wrong 8 = .ok (.iload_n 1, 1) := by decide +kernel
theorem dX3_wrong_9 : decode cX3_wrong 9 = .ok (.invokevirtual 216, 3) := by decide +kernel
theorem dX3_wrong_12 : decode cX3_wrong 12 = .ok (.ireturn, 1) := by decide +kernel
theorem dX3_missShare_0 : decode cX3_missShare 0 = .ok (.aload_n 0, 1) := by decide +kernel
theorem dX3_missShare_1 : decode cX3_missShare 1 = .ok (.getfield 33, 3) := by decide +kernel
theorem dX3_missShare_4 : decode cX3_missShare 4 = .ok (.invokeinterface 219 1, 5) := by decide +kernel
theorem dX3_missShare_9 : decode cX3_missShare 9 = .ok (.ifCond .eq 13, 3) := by decide +kernel
theorem dX3_missShare_12 : decode cX3_missShare 12 = .ok (.new 222, 3) := by decide +kernel
theorem dX3_missShare_15 : decode cX3_missShare 15 = .ok (.dup, 1) := by decide +kernel
theorem dX3_missShare_16 : decode cX3_missShare 16 = .ok (.ldc 224, 2) := by decide +kernel
theorem dX3_missShare_18 : decode cX3_missShare 18 = .ok (.invokespecial 226, 3) := by decide +kernel
theorem dX3_missShare_21 : decode cX3_missShare 21 = .ok (.athrow, 1) := by decide +kernel
theorem dX3_missShare_22 : decode cX3_missShare 22 = .ok (.iconst 0, 1) := by decide +kernel
theorem dX3_missShare_23 : decode cX3_missShare 23 = .ok (.istore_n 1, 1) := by decide +kernel
theorem dX3_missShare_24 : decode cX3_missShare 24 = .ok (.iconst 0, 1) := by decide +kernel
theorem dX3_missShare_25 : decode cX3_missShare 25 = .ok (.istore_n 2, 1) := by decide +kernel
theorem dX3_missShare_26 : decode cX3_missShare 26 = .ok (.iload_n 2, 1) := by decide +kernel
theorem dX3_missShare_27 : decode cX3_missShare 27 = .ok (.aload_n 0, 1) := by decide +kernel
theorem dX3_missShare_28 : decode cX3_missShare 28 = .ok (.getfield 33, 3) := by decide +kernel
theorem dX3_missShare_31 : decode cX3_missShare 31 = .ok (.invokeinterface 141 1, 5) := by decide +kernel
theorem dX3_missShare_36 : decode cX3_missShare 36 = .ok (.if_icmp .ge 41, 3) := by decide +kernel
theorem dX3_missShare_39 : decode cX3_missShare 39 = .ok (.aload_n 0, 1) := by decide +kernel
theorem dX3_missShare_40 : decode cX3_missShare 40 = .ok (.getfield 33, 3) := by decide +kernel
theorem dX3_missShare_43 : decode cX3_missShare 43 = .ok (.iload_n 2, 1) := by decide +kernel
theorem dX3_missShare_44 : decode cX3_missShare 44 = .ok (.invokeinterface 148 2, 5) := by decide +kernel
theorem dX3_missShare_49 : decode cX3_missShare 49 = .ok (.checkcast 113, 3) := by decide +kernel
theorem dX3_missShare_52 : decode cX3_missShare 52 = .ok (.getfield 159, 3) := by decide +kernel
theorem dX3_missShare_55 : decode cX3_missShare 55 = .ok (.istore_n 3, 1) := by decide +kernel
theorem dX3_missShare_56 : decode cX3_missShare 56 = .ok (.iload_n 3, 1) := by decide +kernel
theorem dX3_missShare_57 : decode cX3_missShare 57 = .ok (.bipush 104, 2) := by decide +kernel
theorem dX3_missShare_59 : decode cX3_missShare 59 = .ok (.if_icmp .eq 12, 3) := by decide +kernel
theorem dX3_missShare_62 : decode cX3_missShare 62 = .ok (.iload_n 3, 1) := by decide +kernel
theorem dX3_missShare_63 : decode cX3_missShare 63 = .ok (.bipush 117, 2) := by decide +kernel
theorem dX3_missShare_65 : decode cX3_missShare 65 = .ok (.if_icmp .eq 6, 3) := by decide +kernel
theorem dX3_missShare_68 : decode cX3_missShare 68 = .ok (.iinc 1 1, 3) := by decide +kernel
theorem dX3_missShare_71 : decode cX3_missShare 71 = .ok (.iinc 2 1, 3) := by decide +kernel
theorem dX3_missShare_74 : decode cX3_missShare 74 = .ok (.goto (-48), 3) := by decide +kernel
theorem dX3_missShare_77 : decode cX3_missShare 77 = .ok (.iload_n 1, 1) := by decide +kernel
theorem dX3_missShare_78 : decode cX3_missShare 78 = .ok (.i2f, 1) := by decide +kernel
theorem dX3_missShare_79 : decode cX3_missShare 79 = .ok (.aload_n 0, 1) := by decide +kernel
theorem dX3_missShare_80 : decode cX3_missShare 80 = .ok (.getfield 33, 3) := by decide +kernel
theorem dX3_missShare_83 : decode cX3_missShare 83 = .ok (.invokeinterface 141 1, 5) := by decide +kernel
theorem dX3_missShare_88 : decode cX3_missShare 88 = .ok (.i2f, 1) := by decide +kernel
theorem dX3_missShare_89 : decode cX3_missShare 89 = .ok (.fdiv, 1) := by decide +kernel
theorem dX3_missShare_90 : decode cX3_missShare 90 = .ok (.freturn, 1) := by decide +kernel
theorem dX3_meanCost_0 : decode cX3_meanCost 0 = .ok (.aload_n 0, 1) := by decide +kernel
theorem dX3_meanCost_1 : decode cX3_meanCost 1 = .ok (.getfield 33, 3) := by decide +kernel
theorem dX3_meanCost_4 : decode cX3_meanCost 4 = .ok (.invokeinterface 219 1, 5) := by decide +kernel
theorem dX3_meanCost_9 : decode cX3_meanCost 9 = .ok (.ifCond .eq 13, 3) := by decide +kernel
theorem dX3_meanCost_12 : decode cX3_meanCost 12 = .ok (.new 222, 3) := by decide +kernel
theorem dX3_meanCost_15 : decode cX3_meanCost 15 = .ok (.dup, 1) := by decide +kernel
theorem dX3_meanCost_16 : decode cX3_meanCost 16 = .ok (.ldc 224, 2) := by decide +kernel
theorem dX3_meanCost_18 : decode cX3_meanCost 18 = .ok (.invokespecial 226, 3) := by decide +kernel
theorem dX3_meanCost_21 : decode cX3_meanCost 21 = .ok (.athrow, 1) := by decide +kernel
theorem dX3_meanCost_22 : decode cX3_meanCost 22 = .ok (.lconst 0, 1) := by decide +kernel
theorem dX3_meanCost_23 : decode cX3_meanCost 23 = .ok (.lstore_n 1, 1) := by decide +kernel
theorem dX3_meanCost_24 : decode cX3_meanCost 24 = .ok (.iconst 0, 1) := by decide +kernel
theorem dX3_meanCost_25 : decode cX3_meanCost 25 = .ok (.istore_n 3, 1) := by decide +kernel
theorem dX3_meanCost_26 : decode cX3_meanCost 26 = .ok (.iload_n 3, 1) := by decide +kernel
theorem dX3_meanCost_27 : decode cX3_meanCost 27 = .ok (.aload_n 0, 1) := by decide +kernel
theorem dX3_meanCost_28 : decode cX3_meanCost 28 = .ok (.getfield 33, 3) := by decide +kernel
theorem dX3_meanCost_31 : decode cX3_meanCost 31 = .ok (.invokeinterface 141 1, 5) := by decide +kernel
theorem dX3_meanCost_36 : decode cX3_meanCost 36 = .ok (.if_icmp .ge 29, 3) := by decide +kernel
theorem dX3_meanCost_39 : decode cX3_meanCost 39 = .ok (.lload_n 1, 1) := by decide +kernel
theorem dX3_meanCost_40 : decode cX3_meanCost 40 = .ok (.aload_n 0, 1) := by decide +kernel
theorem dX3_meanCost_41 : decode cX3_meanCost 41 = .ok (.getfield 33, 3) := by decide +kernel
theorem dX3_meanCost_44 : decode cX3_meanCost 44 = .ok (.iload_n 3, 1) := by decide +kernel
theorem dX3_meanCost_45 : decode cX3_meanCost 45 = .ok (.invokeinterface 148 2, 5) := by decide +kernel
theorem dX3_meanCost_50 : decode cX3_meanCost 50 = .ok (.checkcast 113, 3) := by decide +kernel
theorem dX3_meanCost_53 : decode cX3_meanCost 53 = .ok (.getfield 152, 3) := by decide +kernel
theorem dX3_meanCost_56 : decode cX3_meanCost 56 = .ok (.i2l, 1) := by decide +kernel
theorem dX3_meanCost_57 : decode cX3_meanCost 57 = .ok (.ladd, 1) := by decide +kernel
theorem dX3_meanCost_58 : decode cX3_meanCost 58 = .ok (.lstore_n 1, 1) := by decide +kernel
theorem dX3_meanCost_59 : decode cX3_meanCost 59 = .ok (.iinc 3 1, 3) := by decide +kernel
theorem dX3_meanCost_62 : decode cX3_meanCost 62 = .ok (.goto (-36), 3) := by decide +kernel
theorem dX3_meanCost_65 : decode cX3_meanCost 65 = .ok (.lload_n 1, 1) := by decide +kernel
theorem dX3_meanCost_66 : decode cX3_meanCost 66 = .ok (.l2d, 1) := by decide +kernel
theorem dX3_meanCost_67 : decode cX3_meanCost 67 = .ok (.aload_n 0, 1) := by decide +kernel
theorem dX3_meanCost_68 : decode cX3_meanCost 68 = .ok (.getfield 33, 3) := by decide +kernel
theorem dX3_meanCost_71 : decode cX3_meanCost 71 = .ok (.invokeinterface 141 1, 5) := by decide +kernel
theorem dX3_meanCost_76 : decode cX3_meanCost 76 = .ok (.i2d, 1) := by decide +kernel
theorem dX3_meanCost_77 : decode cX3_meanCost 77 = .ok (.ddiv, 1) := by decide +kernel
theorem dX3_meanCost_78 : decode cX3_meanCost 78 = .ok (.dreturn, 1) := by decide +kernel
theorem dX3_isCoherent_0 : decode cX3_isCoherent 0 = .ok (.aload_n 0, 1) := by decide +kernel
theorem dX3_isCoherent_1 : decode cX3_isCoherent 1 = .ok (.getfield 19, 3) := by decide +kernel
theorem dX3_isCoherent_4 : decode cX3_isCoherent 4 = .ok (.invokevirtual 227, 3) := by decide +kernel
theorem dX3_isCoherent_7 : decode cX3_isCoherent 7 = .ok (.ifCond .eq 14, 3) := by decide +kernel
theorem dX3_isCoherent_10 : decode cX3_isCoherent 10 = .ok (.aload_n 0, 1) := by decide +kernel
theorem dX3_isCoherent_11 : decode cX3_isCoherent 11 = .ok (.invokevirtual 230, 3) := by decide +kernel
theorem dX3_isCoherent_14 : decode cX3_isCoherent 14 = .ok (.ifCond .eq 7, 3) := by decide +kernel
theorem dX3_isCoherent_17 : decode cX3_isCoherent 17 = .ok (.iconst 1, 1) := by decide +kernel
theorem dX3_isCoherent_18 : decode cX3_isCoherent 18 = .ok (.goto 4, 3) := by decide +kernel
theorem dX3_isCoherent_21 : decode cX3_isCoherent 21 = .ok (.iconst 0, 1) := by decide +kernel
theorem dX3_isCoherent_22 : decode cX3_isCoherent 22 = .ok (.ireturn, 1) := by decide +kernel
theorem dX3_checkCore_0 : decode cX3_checkCore 0 = .ok (.iload_n 0, 1) := by decide +kernel
theorem dX3_checkCore_1 : decode cX3_checkCore 1 = .ok (.ifCond .lt 8, 3) := by decide +kernel
theorem dX3_checkCore_4 : decode cX3_checkCore 4 = .ok (.iload_n 0, 1) := by decide +kernel
theorem dX3_checkCore_5 : decode cX3_checkCore 5 = .ok (.iconst 4, 1) := by decide +kernel
theorem dX3_checkCore_6 : decode cX3_checkCore 6 = .ok (.if_icmp .lt 13, 3) := by decide +kernel
theorem dX3_checkCore_9 : decode cX3_checkCore 9 = .ok (.new 233, 3) := by decide +kernel
theorem dX3_checkCore_12 : decode cX3_checkCore 12 = .ok (.dup, 1) := by decide +kernel
theorem dX3_checkCore_13 : decode cX3_checkCore 13 = .ok (.ldc 235, 2) := by decide +kernel
theorem dX3_checkCore_15 : decode cX3_checkCore 15 = .ok (.invokespecial 237, 3) := by decide +kernel
theorem dX3_checkCore_18 : decode cX3_checkCore 18 = .ok (.athrow, 1) := by decide +kernel
theorem dX3_checkCore_19 : decode cX3_checkCore 19 = .ok (.return_, 1) := by decide +kernel
theorem dX3_checkLine_0 : decode cX3_checkLine 0 = .ok (.iload_n 0, 1) := by decide +kernel
theorem dX3_checkLine_1 : decode cX3_checkLine 1 = .ok (.ifCond .lt 9, 3) := by decide +kernel
theorem dX3_checkLine_4 : decode cX3_checkLine 4 = .ok (.iload_n 0, 1) := by decide +kernel
theorem dX3_checkLine_5 : decode cX3_checkLine 5 = .ok (.bipush 64, 2) := by decide +kernel
theorem dX3_checkLine_7 : decode cX3_checkLine 7 = .ok (.if_icmp .lt 13, 3) := by decide +kernel
theorem dX3_checkLine_10 : decode cX3_checkLine 10 = .ok (.new 36, 3) := by decide +kernel
theorem dX3_checkLine_13 : decode cX3_checkLine 13 = .ok (.dup, 1) := by decide +kernel
theorem dX3_checkLine_14 : decode cX3_checkLine 14 = .ok (.ldc 238, 2) := by decide +kernel
theorem dX3_checkLine_16 : decode cX3_checkLine 16 = .ok (.invokespecial 40, 3) := by decide +kernel
theorem dX3_checkLine_19 : decode cX3_checkLine 19 = .ok (.athrow, 1) := by decide +kernel
theorem dX3_checkLine_20 : decode cX3_checkLine 20 = .ok (.return_, 1) := by decide +kernel
theorem dX3_checkName_0 : decode cX3_checkName 0 = .ok (.aload_n 0, 1) := by decide +kernel
theorem dX3_checkName_1 : decode cX3_checkName 1 = .ok (.getfield 10, 3) := by decide +kernel
theorem dX3_checkName_4 : decode cX3_checkName 4 = .ok (.iload_n 1, 1) := by decide +kernel
theorem dX3_checkName_5 : decode cX3_checkName 5 = .ok (.invokevirtual 240, 3) := by decide +kernel
theorem dX3_checkName_8 : decode cX3_checkName 8 = .ok (.ifCond .ne 13, 3) := by decide +kernel
theorem dX3_checkName_11 : decode cX3_checkName 11 = .ok (.new 103, 3) := by decide +kernel
theorem dX3_checkName_14 : decode cX3_checkName 14 = .ok (.dup, 1) := by decide +kernel
theorem dX3_checkName_15 : decode cX3_checkName 15 = .ok (.ldc 243, 2) := by decide +kernel
theorem dX3_checkName_17 : decode cX3_checkName 17 = .ok (.invokespecial 107, 3) := by decide +kernel
theorem dX3_checkName_20 : decode cX3_checkName 20 = .ok (.athrow, 1) := by decide +kernel
theorem dX3_checkName_21 : decode cX3_checkName 21 = .ok (.return_, 1) := by decide +kernel
theorem dX3_checkPlacedName_0 : decode cX3_checkPlacedName 0 = .ok (.aload_n 0, 1) := by decide +kernel
theorem dX3_checkPlacedName_1 : decode cX3_checkPlacedName 1 = .ok (.iload_n 1, 1) := by decide +kernel
theorem dX3_checkPlacedName_2 : decode cX3_checkPlacedName 2 = .ok (.invokevirtual 56, 3) := by decide +kernel
theorem dX3_checkPlacedName_5 : decode cX3_checkPlacedName 5 = .ok (.aload_n 0, 1) := by decide +kernel
theorem dX3_checkPlacedName_6 : decode cX3_checkPlacedName 6 = .ok (.getfield 10, 3) := by decide +kernel
theorem dX3_checkPlacedName_9 : decode cX3_checkPlacedName 9 = .ok (.iload_n 1, 1) := by decide +kernel
theorem dX3_checkPlacedName_10 : decode cX3_checkPlacedName 10 = .ok (.invokevirtual 66, 3) := by decide +kernel
theorem dX3_checkPlacedName_13 : decode cX3_checkPlacedName 13 = .ok (.ifCond .ne 13, 3) := by decide +kernel
theorem dX3_checkPlacedName_16 : decode cX3_checkPlacedName 16 = .ok (.new 47, 3) := by decide +kernel
theorem dX3_checkPlacedName_19 : decode cX3_checkPlacedName 19 = .ok (.dup, 1) := by decide +kernel
theorem dX3_checkPlacedName_20 : decode cX3_checkPlacedName 20 = .ok (.ldc 245, 2) := by decide +kernel
theorem dX3_checkPlacedName_22 : decode cX3_checkPlacedName 22 = .ok (.invokespecial 51, 3) := by decide +kernel
theorem dX3_checkPlacedName_25 : decode cX3_checkPlacedName 25 = .ok (.athrow, 1) := by decide +kernel
theorem dX3_checkPlacedName_26 : decode cX3_checkPlacedName 26 = .ok (.return_, 1) := by decide +kernel
theorem dX3_checkWord_0 : decode cX3_checkWord 0 = .ok (.aload_n 0, 1) := by decide +kernel
theorem dX3_checkWord_1 : decode cX3_checkWord 1 = .ok (.iload_n 1, 1) := by decide +kernel
theorem dX3_checkWord_2 : decode cX3_checkWord 2 = .ok (.invokevirtual 91, 3) := by decide +kernel
theorem dX3_checkWord_5 : decode cX3_checkWord 5 = .ok (.aload_n 0, 1) := by decide +kernel
theorem dX3_checkWord_6 : decode cX3_checkWord 6 = .ok (.getfield 10, 3) := by decide +kernel
theorem dX3_checkWord_9 : decode cX3_checkWord 9 = .ok (.iload_n 1, 1) := by decide +kernel
theorem dX3_checkWord_10 : decode cX3_checkWord 10 = .ok (.iload_n 2, 1) := by decide +kernel
theorem dX3_checkWord_11 : decode cX3_checkWord 11 = .ok (.invokevirtual 247, 3) := by decide +kernel
theorem dX3_checkWord_14 : decode cX3_checkWord 14 = .ok (.ifCond .ne 13, 3) := by decide +kernel
theorem dX3_checkWord_17 : decode cX3_checkWord 17 = .ok (.new 36, 3) := by decide +kernel
theorem dX3_checkWord_20 : decode cX3_checkWord 20 = .ok (.dup, 1) := by decide +kernel
theorem dX3_checkWord_21 : decode cX3_checkWord 21 = .ok (.ldc 250, 2) := by decide +kernel
theorem dX3_checkWord_23 : decode cX3_checkWord 23 = .ok (.invokespecial 40, 3) := by decide +kernel
theorem dX3_checkWord_26 : decode cX3_checkWord 26 = .ok (.athrow, 1) := by decide +kernel
theorem dX3_checkWord_27 : decode cX3_checkWord 27 = .ok (.return_, 1) := by decide +kernel
theorem dX3_checkIndex_0 : decode cX3_checkIndex 0 = .ok (.iload_n 1, 1) := by decide +kernel
theorem dX3_checkIndex_1 : decode cX3_checkIndex 1 = .ok (.ifCond .lt 16, 3) := by decide +kernel
theorem dX3_checkIndex_4 : decode cX3_checkIndex 4 = .ok (.iload_n 1, 1) := by decide +kernel
theorem dX3_checkIndex_5 : decode cX3_checkIndex 5 = .ok (.aload_n 0, 1) := by decide +kernel
theorem dX3_checkIndex_6 : decode cX3_checkIndex 6 = .ok (.getfield 33, 3) := by decide +kernel
theorem dX3_checkIndex_9 : decode cX3_checkIndex 9 = .ok (.invokeinterface 141 1, 5) := by decide +kernel
theorem dX3_checkIndex_14 : decode cX3_checkIndex 14 = .ok (.if_icmp .lt 13, 3) := by decide +kernel
theorem dX3_checkIndex_17 : decode cX3_checkIndex 17 = .ok (.new 103, 3) := by decide +kernel
theorem dX3_checkIndex_20 : decode cX3_checkIndex 20 = .ok (.dup, 1) := by decide +kernel
theorem dX3_checkIndex_21 : decode cX3_checkIndex 21 = .ok (.ldc 252, 2) := by decide +kernel
theorem dX3_checkIndex_23 : decode cX3_checkIndex 23 = .ok (.invokespecial 107, 3) := by decide +kernel
theorem dX3_checkIndex_26 : decode cX3_checkIndex 26 = .ok (.athrow, 1) := by decide +kernel
theorem dX3_checkIndex_27 : decode cX3_checkIndex 27 = .ok (.return_, 1) := by decide +kernel
theorem dX3_isCause_0 : decode cX3_isCause 0 = .ok (.iload_n 0, 1) := by decide +kernel
theorem dX3_isCause_1 : decode cX3_isCause 1 = .ok (.bipush 104, 2) := by decide +kernel
theorem dX3_isCause_3 : decode cX3_isCause 3 = .ok (.if_icmp .eq 33, 3) := by decide +kernel
theorem dX3_isCause_6 : decode cX3_isCause 6 = .ok (.iload_n 0, 1) := by decide +kernel
theorem dX3_isCause_7 : decode cX3_isCause 7 = .ok (.bipush 117, 2) := by decide +kernel
theorem dX3_isCause_9 : decode cX3_isCause 9 = .ok (.if_icmp .eq 27, 3) := by decide +kernel
theorem dX3_isCause_12 : decode cX3_isCause 12 = .ok (.iload_n 0, 1) := by decide +kernel
theorem dX3_isCause_13 : decode cX3_isCause 13 = .ok (.bipush 99, 2) := by decide +kernel
theorem dX3_isCause_15 : decode cX3_isCause 15 = .ok (.if_icmp .eq 21, 3) := by decide +kernel
theorem dX3_isCause_18 : decode cX3_isCause 18 = .ok (.iload_n 0, 1) := by decide +kernel
theorem dX3_isCause_19 : decode cX3_isCause 19 = .ok (.bipush 101, 2) := by decide +kernel
theorem dX3_isCause_21 : decode cX3_isCause 21 = .ok (.if_icmp .eq 15, 3) := by decide +kernel
theorem dX3_isCause_24 : decode cX3_isCause 24 = .ok (.iload_n 0, 1) := by decide +kernel
theorem dX3_isCause_25 : decode cX3_isCause 25 = .ok (.bipush 116, 2) := by decide +kernel
theorem dX3_isCause_27 : decode cX3_isCause 27 = .ok (.if_icmp .eq 9, 3) := by decide +kernel
theorem dX3_isCause_30 : decode cX3_isCause 30 = .ok (.iload_n 0, 1) := by decide +kernel
theorem dX3_isCause_31 : decode cX3_isCause 31 = .ok (.bipush 102, 2) := by decide +kernel
theorem dX3_isCause_33 : decode cX3_isCause 33 = .ok (.if_icmp .ne 7, 3) := by decide +kernel
theorem dX3_isCause_36 : decode cX3_isCause 36 = .ok (.iconst 1, 1) := by decide +kernel
theorem dX3_isCause_37 : decode cX3_isCause 37 = .ok (.goto 4, 3) := by decide +kernel
theorem dX3_isCause_40 : decode cX3_isCause 40 = .ok (.iconst 0, 1) := by decide +kernel
theorem dX3_isCause_41 : decode cX3_isCause 41 = .ok (.ireturn, 1) := by decide +kernel
theorem dX3_isFull_0 : decode cX3_isFull 0 = .ok (.aload_n 0, 1) := by decide +kernel
theorem dX3_isFull_1 : decode cX3_isFull 1 = .ok (.getfield 29, 3) := by decide +kernel
theorem dX3_isFull_4 : decode cX3_isFull 4 = .ok (.invokeinterface 141 1, 5) := by decide +kernel
theorem dX3_isFull_9 : decode cX3_isFull 9 = .ok (.sipush 512, 3) := by decide +kernel
theorem dX3_isFull_12 : decode cX3_isFull 12 = .ok (.if_icmp .lt 7, 3) := by decide +kernel
theorem dX3_isFull_15 : decode cX3_isFull 15 = .ok (.iconst 1, 1) := by decide +kernel
theorem dX3_isFull_16 : decode cX3_isFull 16 = .ok (.goto 4, 3) := by decide +kernel
theorem dX3_isFull_19 : decode cX3_isFull 19 = .ok (.iconst 0, 1) := by decide +kernel
theorem dX3_isFull_20 : decode cX3_isFull 20 = .ok (.ireturn, 1) := by decide +kernel
theorem dX3_access_0 : decode cX3_access 0 = .ok (.iload_n 2, 1) := by decide +kernel
theorem dX3_access_1 : decode cX3_access 1 = .ok (.invokestatic 119, 3) := by decide +kernel
theorem dX3_access_4 : decode cX3_access 4 = .ok (.aload_n 0, 1) := by decide +kernel
theorem dX3_access_5 : decode cX3_access 5 = .ok (.iload_n 3, 1) := by decide +kernel
theorem dX3_access_6 : decode cX3_access 6 = .ok (.iload 4, 2) := by decide +kernel
theorem dX3_access_8 : decode cX3_access 8 = .ok (.invokevirtual 97, 3) := by decide +kernel
theorem dX3_access_11 : decode cX3_access 11 = .ok (.aload_n 0, 1) := by decide +kernel
theorem dX3_access_12 : decode cX3_access 12 = .ok (.invokevirtual 122, 3) := by decide +kernel
theorem dX3_access_15 : decode cX3_access 15 = .ok (.ifCond .eq 13, 3) := by decide +kernel
theorem dX3_access_18 : decode cX3_access 18 = .ok (.new 47, 3) := by decide +kernel
theorem dX3_access_21 : decode cX3_access 21 = .ok (.dup, 1) := by decide +kernel
theorem dX3_access_22 : decode cX3_access 22 = .ok (.ldc 254, 2) := by decide +kernel
theorem dX3_access_24 : decode cX3_access 24 = .ok (.invokespecial 51, 3) := by decide +kernel
theorem dX3_access_27 : decode cX3_access 27 = .ok (.athrow, 1) := by decide +kernel
theorem dX3_access_28 : decode cX3_access 28 = .ok (.aload_n 0, 1) := by decide +kernel
theorem dX3_access_29 : decode cX3_access 29 = .ok (.getfield 10, 3) := by decide +kernel
theorem dX3_access_32 : decode cX3_access 32 = .ok (.iload_n 3, 1) := by decide +kernel
theorem dX3_access_33 : decode cX3_access 33 = .ok (.invokevirtual 94, 3) := by decide +kernel
theorem dX3_access_36 : decode cX3_access 36 = .ok (.iload 4, 2) := by decide +kernel
theorem dX3_access_38 : decode cX3_access 38 = .ok (.iadd, 1) := by decide +kernel
theorem dX3_access_39 : decode cX3_access 39 = .ok (.bipush 8, 2) := by decide +kernel
theorem dX3_access_41 : decode cX3_access 41 = .ok (.idiv, 1) := by decide +kernel
theorem dX3_access_42 : decode cX3_access 42 = .ok (.istore 5, 2) := by decide +kernel
theorem dX3_access_44 : decode cX3_access 44 = .ok (.iload_n 1, 1) := by decide +kernel
theorem dX3_access_45 : decode cX3_access 45 = .ok (.iconst 1, 1) := by decide +kernel
theorem dX3_access_46 : decode cX3_access 46 = .ok (.if_icmp .ne 7, 3) := by decide +kernel
theorem dX3_access_49 : decode cX3_access 49 = .ok (.iconst 1, 1) := by decide +kernel
theorem dX3_access_50 : decode cX3_access 50 = .ok (.goto 4, 3) := by decide +kernel
theorem dX3_access_53 : decode cX3_access 53 = .ok (.iconst 0, 1) := by decide +kernel
theorem dX3_access_54 : decode cX3_access 54 = .ok (.istore 6, 2) := by decide +kernel
theorem dX3_access_56 : decode cX3_access 56 = .ok (.aload_n 0, 1) := by decide +kernel
theorem dX3_access_57 : decode cX3_access 57 = .ok (.getfield 19, 3) := by decide +kernel
theorem dX3_access_60 : decode cX3_access 60 = .ok (.iload_n 2, 1) := by decide +kernel
theorem dX3_access_61 : decode cX3_access 61 = .ok (.iload_n 3, 1) := by decide +kernel
theorem dX3_access_62 : decode cX3_access 62 = .ok (.iload 5, 2) := by decide +kernel
theorem dX3_access_64 : decode cX3_access 64 = .ok (.iload 6, 2) := by decide +kernel
theorem dX3_access_66 : decode cX3_access 66 = .ok (.invokevirtual 256, 3) := by decide +kernel
theorem dX3_access_69 : decode cX3_access 69 = .ok (.istore 7, 2) := by decide +kernel
theorem dX3_access_71 : decode cX3_access 71 = .ok (.aload_n 0, 1) := by decide +kernel
theorem dX3_access_72 : decode cX3_access 72 = .ok (.getfield 19, 3) := by decide +kernel
theorem dX3_access_75 : decode cX3_access 75 = .ok (.iload_n 2, 1) := by decide +kernel
theorem dX3_access_76 : decode cX3_access 76 = .ok (.iload_n 3, 1) := by decide +kernel
theorem dX3_access_77 : decode cX3_access 77 = .ok (.iload 5, 2) := by decide +kernel
theorem dX3_access_79 : decode cX3_access 79 = .ok (.iload 6, 2) := by decide +kernel
theorem dX3_access_81 : decode cX3_access 81 = .ok (.invokevirtual 260, 3) := by decide +kernel
theorem dX3_access_84 : decode cX3_access 84 = .ok (.istore 8, 2) := by decide +kernel
theorem dX3_access_86 : decode cX3_access 86 = .ok (.new 113, 3) := by decide +kernel
theorem dX3_access_89 : decode cX3_access 89 = .ok (.dup, 1) := by decide +kernel
theorem dX3_access_90 : decode cX3_access 90 = .ok (.iload_n 1, 1) := by decide +kernel
theorem dX3_access_91 : decode cX3_access 91 = .ok (.iload_n 2, 1) := by decide +kernel
theorem dX3_access_92 : decode cX3_access 92 = .ok (.iload_n 3, 1) := by decide +kernel
theorem dX3_access_93 : decode cX3_access 93 = .ok (.iload 5, 2) := by decide +kernel
theorem dX3_access_95 : decode cX3_access 95 = .ok (.iload 8, 2) := by decide +kernel
theorem dX3_access_97 : decode cX3_access 97 = .ok (.iload 7, 2) := by decide +kernel
theorem dX3_access_99 : decode cX3_access 99 = .ok (.invokespecial 264, 3) := by decide +kernel
theorem dX3_access_102 : decode cX3_access 102 = .ok (.astore 9, 2) := by decide +kernel
theorem dX3_access_104 : decode cX3_access 104 = .ok (.aload_n 0, 1) := by decide +kernel
theorem dX3_access_105 : decode cX3_access 105 = .ok (.getfield 29, 3) := by decide +kernel
theorem dX3_access_108 : decode cX3_access 108 = .ok (.aload 9, 2) := by decide +kernel
theorem dX3_access_110 : decode cX3_access 110 = .ok (.invokeinterface 125 2, 5) := by decide +kernel
theorem dX3_access_115 : decode cX3_access 115 = .ok (.pop, 1) := by decide +kernel
theorem dX3_access_116 : decode cX3_access 116 = .ok (.aload_n 0, 1) := by decide +kernel
theorem dX3_access_117 : decode cX3_access 117 = .ok (.getfield 33, 3) := by decide +kernel
theorem dX3_access_120 : decode cX3_access 120 = .ok (.aload 9, 2) := by decide +kernel
theorem dX3_access_122 : decode cX3_access 122 = .ok (.invokeinterface 125 2, 5) := by decide +kernel
theorem dX3_access_127 : decode cX3_access 127 = .ok (.pop, 1) := by decide +kernel
theorem dX3_access_128 : decode cX3_access 128 = .ok (.iload 8, 2) := by decide +kernel
theorem dX3_access_130 : decode cX3_access 130 = .ok (.ireturn, 1) := by decide +kernel
theorem dX3_sumOfName_0 : decode cX3_sumOfName 0 = .ok (.lconst 0, 1) := by decide +kernel
theorem dX3_sumOfName_1 : decode cX3_sumOfName 1 = .ok (.lstore_n 2, 1) := by decide +kernel
theorem dX3_sumOfName_2 : decode cX3_sumOfName 2 = .ok (.iconst 0, 1) := by decide +kernel
theorem dX3_sumOfName_3 : decode cX3_sumOfName 3 = .ok (.istore 4, 2) := by decide +kernel
theorem dX3_sumOfName_5 : decode cX3_sumOfName 5 = .ok (.iload 4, 2) := by decide +kernel
theorem dX3_sumOfName_7 : decode cX3_sumOfName 7 = .ok (.aload_n 0, 1) := by decide +kernel
theorem dX3_sumOfName_8 : decode cX3_sumOfName 8 = .ok (.getfield 33, 3) := by decide +kernel
theorem dX3_sumOfName_11 : decode cX3_sumOfName 11 = .ok (.invokeinterface 141 1, 5) := by decide +kernel
theorem dX3_sumOfName_16 : decode cX3_sumOfName 16 = .ok (.if_icmp .ge 43, 3) := by decide +kernel
theorem dX3_sumOfName_19 : decode cX3_sumOfName 19 = .ok (.aload_n 0, 1) := by decide +kernel
theorem dX3_sumOfName_20 : decode cX3_sumOfName 20 = .ok (.getfield 33, 3) := by decide +kernel
theorem dX3_sumOfName_23 : decode cX3_sumOfName 23 = .ok (.iload 4, 2) := by decide +kernel
theorem dX3_sumOfName_25 : decode cX3_sumOfName 25 = .ok (.invokeinterface 148 2, 5) := by decide +kernel
theorem dX3_sumOfName_30 : decode cX3_sumOfName 30 = .ok (.checkcast 113, 3) := by decide +kernel
theorem dX3_sumOfName_33 : decode cX3_sumOfName 33 = .ok (.astore 5, 2) := by decide +kernel
theorem dX3_sumOfName_35 : decode cX3_sumOfName 35 = .ok (.aload 5, 2) := by decide +kernel
theorem dX3_sumOfName_37 : decode cX3_sumOfName 37 = .ok (.getfield 195, 3) := by decide +kernel
theorem dX3_sumOfName_40 : decode cX3_sumOfName 40 = .ok (.iload_n 1, 1) := by decide +kernel
theorem dX3_sumOfName_41 : decode cX3_sumOfName 41 = .ok (.if_icmp .ne 12, 3) := by decide +kernel
theorem dX3_sumOfName_44 : decode cX3_sumOfName 44 = .ok (.lload_n 2, 1) := by decide +kernel
theorem dX3_sumOfName_45 : decode cX3_sumOfName 45 = .ok (.aload 5, 2) := by decide +kernel
theorem dX3_sumOfName_47 : decode cX3_sumOfName 47 = .ok (.getfield 152, 3) := by decide +kernel
theorem dX3_sumOfName_50 : decode cX3_sumOfName 50 = .ok (.i2l, 1) := by decide +kernel
theorem dX3_sumOfName_51 : decode cX3_sumOfName 51 = .ok (.ladd, 1) := by decide +kernel
theorem dX3_sumOfName_52 : decode cX3_sumOfName 52 = .ok (.lstore_n 2, 1) := by decide +kernel
theorem dX3_sumOfName_53 : decode cX3_sumOfName 53 = .ok (.iinc 4 1, 3) := by decide +kernel
theorem dX3_sumOfName_56 : decode cX3_sumOfName 56 = .ok (.goto (-51), 3) := by decide +kernel
theorem dX3_sumOfName_59 : decode cX3_sumOfName 59 = .ok (.lload_n 2, 1) := by decide +kernel
theorem dX3_sumOfName_60 : decode cX3_sumOfName 60 = .ok (.lreturn, 1) := by decide +kernel
theorem dX3_replayUpTo_0 : decode cX3_replayUpTo 0 = .ok (.aload_n 0, 1) := by decide +kernel
theorem dX3_replayUpTo_1 : decode cX3_replayUpTo 1 = .ok (.getfield 23, 3) := by decide +kernel
theorem dX3_replayUpTo_4 : decode cX3_replayUpTo 4 = .ok (.invokevirtual 267, 3) := by decide +kernel
theorem dX3_replayUpTo_7 : decode cX3_replayUpTo 7 = .ok (.iconst 0, 1) := by decide +kernel
theorem dX3_replayUpTo_8 : decode cX3_replayUpTo 8 = .ok (.istore_n 2, 1) := by decide +kernel
theorem dX3_replayUpTo_9 : decode cX3_replayUpTo 9 = .ok (.iconst 0, 1) := by decide +kernel
theorem dX3_replayUpTo_10 : decode cX3_replayUpTo 10 = .ok (.istore_n 3, 1) := by decide +kernel
theorem dX3_replayUpTo_11 : decode cX3_replayUpTo 11 = .ok (.iconst 0, 1) := by decide +kernel
theorem dX3_replayUpTo_12 : decode cX3_replayUpTo 12 = .ok (.istore 4, 2) := by decide +kernel
theorem dX3_replayUpTo_14 : decode cX3_replayUpTo 14 = .ok (.iload 4, 2) := by decide +kernel
theorem dX3_replayUpTo_16 : decode cX3_replayUpTo 16 = .ok (.aload_n 0, 1) := by decide +kernel
theorem dX3_replayUpTo_17 : decode cX3_replayUpTo 17 = .ok (.getfield 29, 3) := by decide +kernel
theorem dX3_replayUpTo_20 : decode cX3_replayUpTo 20 = .ok (.invokeinterface 141 1, 5) := by decide +kernel
theorem dX3_replayUpTo_25 : decode cX3_replayUpTo 25 = .ok (.if_icmp .ge 52, 3) := by decide +kernel
theorem dX3_replayUpTo_28 : decode cX3_replayUpTo 28 = .ok (.iload_n 3, 1) := by decide +kernel
theorem dX3_replayUpTo_29 : decode cX3_replayUpTo 29 = .ok (.iload_n 1, 1) := by decide +kernel
theorem dX3_replayUpTo_30 : decode cX3_replayUpTo 30 = .ok (.if_icmp .gt 47, 3) := by decide +kernel
theorem dX3_replayUpTo_33 : decode cX3_replayUpTo 33 = .ok (.aload_n 0, 1) := by decide +kernel
theorem dX3_replayUpTo_34 : decode cX3_replayUpTo 34 = .ok (.getfield 29, 3) := by decide +kernel
theorem dX3_replayUpTo_37 : decode cX3_replayUpTo 37 = .ok (.iload 4, 2) := by decide +kernel
theorem dX3_replayUpTo_39 : decode cX3_replayUpTo 39 = .ok (.invokeinterface 148 2, 5) := by decide +kernel
theorem dX3_replayUpTo_44 : decode cX3_replayUpTo 44 = .ok (.checkcast 113, 3) := by decide +kernel
theorem dX3_replayUpTo_47 : decode cX3_replayUpTo 47 = .ok (.astore 5, 2) := by decide +kernel
theorem dX3_replayUpTo_49 : decode cX3_replayUpTo 49 = .ok (.aload_n 0, 1) := by decide +kernel
theorem dX3_replayUpTo_50 : decode cX3_replayUpTo 50 = .ok (.aload 5, 2) := by decide +kernel
theorem dX3_replayUpTo_52 : decode cX3_replayUpTo 52 = .ok (.invokevirtual 270, 3) := by decide +kernel
theorem dX3_replayUpTo_55 : decode cX3_replayUpTo 55 = .ok (.istore 6, 2) := by decide +kernel
theorem dX3_replayUpTo_57 : decode cX3_replayUpTo 57 = .ok (.aload 5, 2) := by decide +kernel
theorem dX3_replayUpTo_59 : decode cX3_replayUpTo 59 = .ok (.invokevirtual 274, 3) := by decide +kernel
theorem dX3_replayUpTo_62 : decode cX3_replayUpTo 62 = .ok (.ifCond .eq 9, 3) := by decide +kernel
theorem dX3_replayUpTo_65 : decode cX3_replayUpTo 65 = .ok (.iload 6, 2) := by decide +kernel
theorem dX3_replayUpTo_67 : decode cX3_replayUpTo 67 = .ok (.istore_n 2, 1) := by decide +kernel
theorem dX3_replayUpTo_68 : decode cX3_replayUpTo 68 = .ok (.iinc 3 1, 3) := by decide +kernel
theorem dX3_replayUpTo_71 : decode cX3_replayUpTo 71 = .ok (.iinc 4 1, 3) := by decide +kernel
theorem dX3_replayUpTo_74 : decode cX3_replayUpTo 74 = .ok (.goto (-60), 3) := by decide +kernel
theorem dX3_replayUpTo_77 : decode cX3_replayUpTo 77 = .ok (.iload_n 2, 1) := by decide +kernel
theorem dX3_replayUpTo_78 : decode cX3_replayUpTo 78 = .ok (.ireturn, 1) := by decide +kernel
theorem dX3_isSameByReplay_0 : decode cX3_isSameByReplay 0 = .ok (.aload_n 0, 1) := by decide +kernel
theorem dX3_isSameByReplay_1 : decode cX3_isSameByReplay 1 = .ok (.getfield 23, 3) := by decide +kernel
theorem dX3_isSameByReplay_4 : decode cX3_isSameByReplay 4 = .ok (.invokevirtual 267, 3) := by decide +kernel
theorem dX3_isSameByReplay_7 : decode cX3_isSameByReplay 7 = .ok (.iconst 0, 1) := by decide +kernel
theorem dX3_isSameByReplay_8 : decode cX3_isSameByReplay 8 = .ok (.istore_n 1, 1) := by decide +kernel
theorem dX3_isSameByReplay_9 : decode cX3_isSameByReplay 9 = .ok (.iload_n 1, 1) := by decide +kernel
theorem dX3_isSameByReplay_10 : decode cX3_isSameByReplay 10 = .ok (.aload_n 0, 1) := by decide +kernel
theorem dX3_isSameByReplay_11 : decode cX3_isSameByReplay 11 = .ok (.getfield 29, 3) := by decide +kernel
theorem dX3_isSameByReplay_14 : decode cX3_isSameByReplay 14 = .ok (.invokeinterface 141 1, 5) := by decide +kernel
theorem dX3_isSameByReplay_19 : decode cX3_isSameByReplay 19 = .ok (.if_icmp .ge 76, 3) := by decide +kernel
theorem dX3_isSameByReplay_22 : decode cX3_isSameByReplay 22 = .ok (.aload_n 0, 1) := by decide +kernel
theorem dX3_isSameByReplay_23 : decode cX3_isSameByReplay 23 = .ok (.getfield 29, 3) := by decide +kernel
theorem dX3_isSameByReplay_26 : decode cX3_isSameByReplay 26 = .ok (.iload_n 1, 1) := by decide +kernel
theorem dX3_isSameByReplay_27 : decode cX3_isSameByReplay 27 = .ok (.invokeinterface 148 2, 5) := by decide +kernel
theorem dX3_isSameByReplay_32 : decode cX3_isSameByReplay 32 = .ok (.checkcast 113, 3) := by decide +kernel
theorem dX3_isSameByReplay_35 : decode cX3_isSameByReplay 35 = .ok (.astore_n 2, 1) := by decide +kernel
theorem dX3_isSameByReplay_36 : decode cX3_isSameByReplay 36 = .ok (.aload_n 2, 1) := by decide +kernel
theorem dX3_isSameByReplay_37 : decode cX3_isSameByReplay 37 = .ok (.invokevirtual 274, 3) := by decide +kernel
theorem dX3_isSameByReplay_40 : decode cX3_isSameByReplay 40 = .ok (.ifCond .eq 35, 3) := by decide +kernel
theorem dX3_isSameByReplay_43 : decode cX3_isSameByReplay 43 = .ok (.aload_n 2, 1) := by decide +kernel
theorem dX3_isSameByReplay_44 : decode cX3_isSameByReplay 44 = .ok (.getfield 159, 3) := by decide +kernel
theorem dX3_isSameByReplay_47 : decode cX3_isSameByReplay 47 = .ok (.aload_n 0, 1) := by decide +kernel
theorem dX3_isSameByReplay_48 : decode cX3_isSameByReplay 48 = .ok (.getfield 23, 3) := by decide +kernel
theorem dX3_isSameByReplay_51 : decode cX3_isSameByReplay 51 = .ok (.aload_n 2, 1) := by decide +kernel
theorem dX3_isSameByReplay_52 : decode cX3_isSameByReplay 52 = .ok (.getfield 207, 3) := by decide +kernel
theorem dX3_isSameByReplay_55 : decode cX3_isSameByReplay 55 = .ok (.aload_n 2, 1) := by decide +kernel
theorem dX3_isSameByReplay_56 : decode cX3_isSameByReplay 56 = .ok (.getfield 195, 3) := by decide +kernel
theorem dX3_isSameByReplay_59 : decode cX3_isSameByReplay 59 = .ok (.aload_n 2, 1) := by decide +kernel
theorem dX3_isSameByReplay_60 : decode cX3_isSameByReplay 60 = .ok (.getfield 277, 3) := by decide +kernel
theorem dX3_isSameByReplay_63 : decode cX3_isSameByReplay 63 = .ok (.aload_n 2, 1) := by decide +kernel
theorem dX3_isSameByReplay_64 : decode cX3_isSameByReplay 64 = .ok (.invokevirtual 280, 3) := by decide +kernel
theorem dX3_isSameByReplay_67 : decode cX3_isSameByReplay 67 = .ok (.invokevirtual 256, 3) := by decide +kernel
theorem dX3_isSameByReplay_70 : decode cX3_isSameByReplay 70 = .ok (.if_icmp .eq 5, 3) := by decide +kernel
theorem dX3_isSameByReplay_73 : decode cX3_isSameByReplay 73 = .ok (.iconst 0, 1) := by decide +kernel
theorem dX3_isSameByReplay_74 : decode cX3_isSameByReplay 74 = .ok (.ireturn, 1) := by decide +kernel
theorem dX3_isSameByReplay_75 : decode cX3_isSameByReplay 75 = .ok (.aload_n 2, 1) := by decide +kernel
theorem dX3_isSameByReplay_76 : decode cX3_isSameByReplay 76 = .ok (.getfield 152, 3) := by decide +kernel
theorem dX3_isSameByReplay_79 : decode cX3_isSameByReplay 79 = .ok (.aload_n 0, 1) := by decide +kernel
theorem dX3_isSameByReplay_80 : decode cX3_isSameByReplay 80 = .ok (.aload_n 2, 1) := by decide +kernel
theorem dX3_isSameByReplay_81 : decode cX3_isSameByReplay 81 = .ok (.invokevirtual 270, 3) := by decide +kernel
theorem dX3_isSameByReplay_84 : decode cX3_isSameByReplay 84 = .ok (.if_icmp .eq 5, 3) := by decide +kernel
theorem dX3_isSameByReplay_87 : decode cX3_isSameByReplay 87 = .ok (.iconst 0, 1) := by decide +kernel
theorem dX3_isSameByReplay_88 : decode cX3_isSameByReplay 88 = .ok (.ireturn, 1) := by decide +kernel
theorem dX3_isSameByReplay_89 : decode cX3_isSameByReplay 89 = .ok (.iinc 1 1, 3) := by decide +kernel
theorem dX3_isSameByReplay_92 : decode cX3_isSameByReplay 92 = .ok (.goto (-83), 3) := by decide +kernel
theorem dX3_isSameByReplay_95 : decode cX3_isSameByReplay 95 = .ok (.aload_n 0, 1) := by decide +kernel
theorem dX3_isSameByReplay_96 : decode cX3_isSameByReplay 96 = .ok (.getfield 23, 3) := by decide +kernel
theorem dX3_isSameByReplay_99 : decode cX3_isSameByReplay 99 = .ok (.aload_n 0, 1) := by decide +kernel
theorem dX3_isSameByReplay_100 : decode cX3_isSameByReplay 100 = .ok (.getfield 19, 3) := by decide +kernel
theorem dX3_isSameByReplay_103 : decode cX3_isSameByReplay 103 = .ok (.invokevirtual 283, 3) := by decide +kernel
theorem dX3_isSameByReplay_106 : decode cX3_isSameByReplay 106 = .ok (.ireturn, 1) := by decide +kernel
theorem dX3_replay_0 : decode cX3_replay 0 = .ok (.aload_n 1, 1) := by decide +kernel
theorem dX3_replay_1 : decode cX3_replay 1 = .ok (.invokevirtual 274, 3) := by decide +kernel
theorem dX3_replay_4 : decode cX3_replay 4 = .ok (.ifCond .eq 27, 3) := by decide +kernel
theorem dX3_replay_7 : decode cX3_replay 7 = .ok (.aload_n 0, 1) := by decide +kernel
theorem dX3_replay_8 : decode cX3_replay 8 = .ok (.getfield 23, 3) := by decide +kernel
theorem dX3_replay_11 : decode cX3_replay 11 = .ok (.aload_n 1, 1) := by decide +kernel
theorem dX3_replay_12 : decode cX3_replay 12 = .ok (.getfield 207, 3) := by decide +kernel
theorem dX3_replay_15 : decode cX3_replay 15 = .ok (.aload_n 1, 1) := by decide +kernel
theorem dX3_replay_16 : decode cX3_replay 16 = .ok (.getfield 195, 3) := by decide +kernel
theorem dX3_replay_19 : decode cX3_replay 19 = .ok (.aload_n 1, 1) := by decide +kernel
theorem dX3_replay_20 : decode cX3_replay 20 = .ok (.getfield 277, 3) := by decide +kernel
theorem dX3_replay_23 : decode cX3_replay 23 = .ok (.aload_n 1, 1) := by decide +kernel
theorem dX3_replay_24 : decode cX3_replay 24 = .ok (.invokevirtual 280, 3) := by decide +kernel
theorem dX3_replay_27 : decode cX3_replay 27 = .ok (.invokevirtual 260, 3) := by decide +kernel
theorem dX3_replay_30 : decode cX3_replay 30 = .ok (.ireturn, 1) := by decide +kernel
theorem dX3_replay_31 : decode cX3_replay 31 = .ok (.aload_n 1, 1) := by decide +kernel
theorem dX3_replay_32 : decode cX3_replay 32 = .ok (.getfield 287, 3) := by decide +kernel
theorem dX3_replay_35 : decode cX3_replay 35 = .ok (.iconst 2, 1) := by decide +kernel
theorem dX3_replay_36 : decode cX3_replay 36 = .ok (.if_icmp .ne 18, 3) := by decide +kernel
theorem dX3_replay_39 : decode cX3_replay 39 = .ok (.aload_n 0, 1) := by decide +kernel
theorem dX3_replay_40 : decode cX3_replay 40 = .ok (.getfield 23, 3) := by decide +kernel
theorem dX3_replay_43 : decode cX3_replay 43 = .ok (.aload_n 1, 1) := by decide +kernel
theorem dX3_replay_44 : decode cX3_replay 44 = .ok (.getfield 207, 3) := by decide +kernel
theorem dX3_replay_47 : decode cX3_replay 47 = .ok (.invokevirtual 131, 3) := by decide +kernel
theorem dX3_replay_50 : decode cX3_replay 50 = .ok (.pop, 1) := by decide +kernel
theorem dX3_replay_51 : decode cX3_replay 51 = .ok (.goto 27, 3) := by decide +kernel
theorem dX3_replay_54 : decode cX3_replay 54 = .ok (.aload_n 0, 1) := by decide +kernel
theorem dX3_replay_55 : decode cX3_replay 55 = .ok (.getfield 23, 3) := by decide +kernel
theorem dX3_replay_58 : decode cX3_replay 58 = .ok (.aload_n 1, 1) := by decide +kernel
theorem dX3_replay_59 : decode cX3_replay 59 = .ok (.getfield 207, 3) := by decide +kernel
theorem dX3_replay_62 : decode cX3_replay 62 = .ok (.aload_n 1, 1) := by decide +kernel
theorem dX3_replay_63 : decode cX3_replay 63 = .ok (.getfield 287, 3) := by decide +kernel
theorem dX3_replay_66 : decode cX3_replay 66 = .ok (.iconst 3, 1) := by decide +kernel
theorem dX3_replay_67 : decode cX3_replay 67 = .ok (.if_icmp .ne 7, 3) := by decide +kernel
theorem dX3_replay_70 : decode cX3_replay 70 = .ok (.iconst 1, 1) := by decide +kernel
theorem dX3_replay_71 : decode cX3_replay 71 = .ok (.goto 4, 3) := by decide +kernel
theorem dX3_replay_74 : decode cX3_replay 74 = .ok (.iconst 0, 1) := by decide +kernel
theorem dX3_replay_75 : decode cX3_replay 75 = .ok (.invokevirtual 137, 3) := by decide +kernel
theorem dX3_replay_78 : decode cX3_replay 78 = .ok (.iconst 0, 1) := by decide +kernel
theorem dX3_replay_79 : decode cX3_replay 79 = .ok (.ireturn, 1) := by decide +kernel
theorem dX4_init_0 : decode cX4_init 0 = .ok (.aload_n 0, 1) := by decide +kernel
theorem dX4_init_1 : decode cX4_init 1 = .ok (.invokespecial 1, 3) := by decide +kernel
theorem dX4_init_4 : decode cX4_init 4 = .ok (.aload_n 0, 1) := by decide +kernel
theorem dX4_init_5 : decode cX4_init 5 = .ok (.bipush 12, 2) := by decide +kernel
theorem dX4_init_7 : decode cX4_init 7 = .ok (.newarray .int, 2) := by decide +kernel
theorem dX4_init_9 : decode cX4_init 9 = .ok (.putfield 7, 3) := by decide +kernel
theorem dX4_init_12 : decode cX4_init 12 = .ok (.aload_n 0, 1) := by decide +kernel
theorem dX4_init_13 : decode cX4_init 13 = .ok (.bipush 12, 2) := by decide +kernel
theorem dX4_init_15 : decode cX4_init 15 = .ok (.newarray .int, 2) := by decide +kernel
theorem dX4_init_17 : decode cX4_init 17 = .ok (.putfield 13, 3) := by decide +kernel
theorem dX4_init_20 : decode cX4_init 20 = .ok (.aload_n 0, 1) := by decide +kernel
theorem dX4_init_21 : decode cX4_init 21 = .ok (.sipush 256, 3) := by decide +kernel
theorem dX4_init_24 : decode cX4_init 24 = .ok (.newarray .char, 2) := by decide +kernel
theorem dX4_init_26 : decode cX4_init 26 = .ok (.putfield 16, 3) := by decide +kernel
theorem dX4_init_29 : decode cX4_init 29 = .ok (.aload_n 0, 1) := by decide +kernel
theorem dX4_init_30 : decode cX4_init 30 = .ok (.sipush 256, 3) := by decide +kernel
theorem dX4_init_33 : decode cX4_init 33 = .ok (.newarray .int, 2) := by decide +kernel
theorem dX4_init_35 : decode cX4_init 35 = .ok (.putfield 20, 3) := by decide +kernel
theorem dX4_init_38 : decode cX4_init 38 = .ok (.aload_n 0, 1) := by decide +kernel
theorem dX4_init_39 : decode cX4_init 39 = .ok (.sipush 256, 3) := by decide +kernel
theorem dX4_init_42 : decode cX4_init 42 = .ok (.newarray .int, 2) := by decide +kernel
theorem dX4_init_44 : decode cX4_init 44 = .ok (.putfield 23, 3) := by decide +kernel
theorem dX4_init_47 : decode cX4_init 47 = .ok (.aload_n 0, 1) := by decide +kernel
theorem dX4_init_48 : decode cX4_init 48 = .ok (.sipush 256, 3) := by decide +kernel
theorem dX4_init_51 : decode cX4_init 51 = .ok (.newarray .boolean, 2) := by decide +kernel
theorem dX4_init_53 : decode cX4_init 53 = .ok (.putfield 26, 3) := by decide +kernel
theorem dX4_init_56 : decode cX4_init 56 = .ok (.aload_n 0, 1) := by decide +kernel
theorem dX4_init_57 : decode cX4_init 57 = .ok (.iconst 4, 1) := by decide +kernel
theorem dX4_init_58 : decode cX4_init 58 = .ok (.newarray .boolean, 2) := by decide +kernel
theorem dX4_init_60 : decode cX4_init 60 = .ok (.putfield 30, 3) := by decide +kernel
theorem dX4_init_63 : decode cX4_init 63 = .ok (.aload_n 0, 1) := by decide +kernel
theorem dX4_init_64 : decode cX4_init 64 = .ok (.iconst 4, 1) := by decide +kernel
theorem dX4_init_65 : decode cX4_init 65 = .ok (.newarray .int, 2) := by decide +kernel
theorem dX4_init_67 : decode cX4_init 67 = .ok (.putfield 33, 3) := by decide +kernel
theorem dX4_init_70 : decode cX4_init 70 = .ok (.aload_n 0, 1) := by decide +kernel
theorem dX4_init_71 : decode cX4_init 71 = .ok (.iconst 4, 1) := by decide +kernel
theorem dX4_init_72 : decode cX4_init 72 = .ok (.newarray .int, 2) := by decide +kernel
theorem dX4_init_74 : decode cX4_init 74 = .ok (.putfield 36, 3) := by decide +kernel
theorem dX4_init_77 : decode cX4_init 77 = .ok (.aload_n 0, 1) := by decide +kernel
theorem dX4_init_78 : decode cX4_init 78 = .ok (.iconst 4, 1) := by decide +kernel
theorem dX4_init_79 : decode cX4_init 79 = .ok (.newarray .int, 2) := by decide +kernel
theorem dX4_init_81 : decode cX4_init 81 = .ok (.putfield 39, 3) := by decide +kernel
theorem dX4_init_84 : decode cX4_init 84 = .ok (.aload_n 0, 1) := by decide +kernel
theorem dX4_init_85 : decode cX4_init 85 = .ok (.iconst 4, 1) := by decide +kernel
theorem dX4_init_86 : decode cX4_init 86 = .ok (.newarray .int, 2) := by decide +kernel
theorem dX4_init_88 : decode cX4_init 88 = .ok (.putfield 42, 3) := by decide +kernel
theorem dX4_init_91 : decode cX4_init 91 = .ok (.aload_n 0, 1) := by decide +kernel
theorem dX4_init_92 : decode cX4_init 92 = .ok (.iconst 4, 1) := by decide +kernel
theorem dX4_init_93 : decode cX4_init 93 = .ok (.newarray .int, 2) := by decide +kernel
theorem dX4_init_95 : decode cX4_init 95 = .ok (.putfield 45, 3) := by decide +kernel
theorem dX4_init_98 : decode cX4_init 98 = .ok (.aload_n 0, 1) := by decide +kernel
theorem dX4_init_99 : decode cX4_init 99 = .ok (.iconst 4, 1) := by decide +kernel
theorem dX4_init_100 : decode cX4_init 100 = .ok (.newarray .int, 2) := by decide +kernel
theorem dX4_init_102 : decode cX4_init 102 = .ok (.putfield 48, 3) := by decide +kernel
theorem dX4_init_105 : decode cX4_init 105 = .ok (.aload_n 0, 1) := by decide +kernel
theorem dX4_init_106 : decode cX4_init 106 = .ok (.bipush 64, 2) := by decide +kernel
theorem dX4_init_108 : decode cX4_init 108 = .ok (.newarray .int, 2) := by decide +kernel
theorem dX4_init_110 : decode cX4_init 110 = .ok (.putfield 51, 3) := by decide +kernel
theorem dX4_init_113 : decode cX4_init 113 = .ok (.aload_n 0, 1) := by decide +kernel
theorem dX4_init_114 : decode cX4_init 114 = .ok (.bipush 64, 2) := by decide +kernel
theorem dX4_init_116 : decode cX4_init 116 = .ok (.newarray .int, 2) := by decide +kernel
theorem dX4_init_118 : decode cX4_init 118 = .ok (.putfield 54, 3) := by decide +kernel
theorem dX4_init_121 : decode cX4_init 121 = .ok (.aload_n 0, 1) := by decide +kernel
theorem dX4_init_122 : decode cX4_init 122 = .ok (.bipush 64, 2) := by decide +kernel
theorem dX4_init_124 : decode cX4_init 124 = .ok (.newarray .int, 2) := by decide +kernel
theorem dX4_init_126 : decode cX4_init 126 = .ok (.putfield 57, 3) := by decide +kernel
theorem dX4_init_129 : decode cX4_init 129 = .ok (.aload_n 0, 1) := by decide +kernel
theorem dX4_init_130 : decode cX4_init 130 = .ok (.bipush 64, 2) := by decide +kernel
theorem dX4_init_132 : decode cX4_init 132 = .ok (.newarray .char, 2) := by decide +kernel
theorem dX4_init_134 : decode cX4_init 134 = .ok (.putfield 60, 3) := by decide +kernel
theorem dX4_init_137 : decode cX4_init 137 = .ok (.aload_n 0, 1) := by decide +kernel
theorem dX4_init_138 : decode cX4_init 138 = .ok (.iconst 0, 1) := by decide +kernel
theorem dX4_init_139 : decode cX4_init 139 = .ok (.putfield 63, 3) := by decide +kernel
theorem dX4_init_142 : decode cX4_init 142 = .ok (.aload_n 0, 1) := by decide +kernel
theorem dX4_init_143 : decode cX4_init 143 = .ok (.iconst 0, 1) := by decide +kernel
theorem dX4_init_144 : decode cX4_init 144 = .ok (.putfield 67, 3) := by decide +kernel
theorem dX4_init_147 : decode cX4_init 147 = .ok (.aload_n 0, 1) := by decide +kernel
theorem dX4_init_148 : decode cX4_init 148 = .ok (.iconst 0, 1) := by decide +kernel
theorem dX4_init_149 : decode cX4_init 149 = .ok (.putfield 70, 3) := by decide +kernel
theorem dX4_init_152 : decode cX4_init 152 = .ok (.aload_n 0, 1) := by decide +kernel
theorem dX4_init_153 : decode cX4_init 153 = .ok (.iconst 0, 1) := by decide +kernel
theorem dX4_init_154 : decode cX4_init 154 = .ok (.putfield 73, 3) := by decide +kernel
theorem dX4_init_157 : decode cX4_init 157 = .ok (.iconst 0, 1) := by decide +kernel
theorem dX4_init_158 : decode cX4_init 158 = .ok (.istore_n 1, 1) := by decide +kernel
theorem dX4_init_159 : decode cX4_init 159 = .ok (.iload_n 1, 1) := by decide +kernel
theorem dX4_init_160 : decode cX4_init 160 = .ok (.bipush 12, 2) := by decide +kernel
theorem dX4_init_162 : decode cX4_init 162 = .ok (.if_icmp .ge 16, 3) := by decide +kernel
theorem dX4_init_165 : decode cX4_init 165 = .ok (.aload_n 0, 1) := by decide +kernel
theorem dX4_init_166 : decode cX4_init 166 = .ok (.getfield 13, 3) := by decide +kernel
theorem dX4_init_169 : decode cX4_init 169 = .ok (.iload_n 1, 1) := by decide +kernel
theorem dX4_init_170 : decode cX4_init 170 = .ok (.iconst (-1), 1) := by decide +kernel
theorem dX4_init_171 : decode cX4_init 171 = .ok (.iastore, 1) := by decide +kernel
theorem dX4_init_172 : decode cX4_init 172 = .ok (.iinc 1 1, 3) := by decide +kernel
theorem dX4_init_175 : decode cX4_init 175 = .ok (.goto (-16), 3) := by decide +kernel
theorem dX4_init_178 : decode cX4_init 178 = .ok (.iconst 0, 1) := by decide +kernel
theorem dX4_init_179 : decode cX4_init 179 = .ok (.istore_n 1, 1) := by decide +kernel
theorem dX4_init_180 : decode cX4_init 180 = .ok (.iload_n 1, 1) := by decide +kernel
theorem dX4_init_181 : decode cX4_init 181 = .ok (.sipush 256, 3) := by decide +kernel
theorem dX4_init_184 : decode cX4_init 184 = .ok (.if_icmp .ge 24, 3) := by decide +kernel
theorem dX4_init_187 : decode cX4_init 187 = .ok (.aload_n 0, 1) := by decide +kernel
theorem dX4_init_188 : decode cX4_init 188 = .ok (.getfield 16, 3) := by decide +kernel
theorem dX4_init_191 : decode cX4_init 191 = .ok (.iload_n 1, 1) := by decide +kernel
theorem dX4_init_192 : decode cX4_init 192 = .ok (.bipush 45, 2) := by decide +kernel
theorem dX4_init_194 : decode cX4_init 194 = .ok (.castore, 1) := by decide +kernel
theorem dX4_init_195 : decode cX4_init 195 = .ok (.aload_n 0, 1) := by decide +kernel
theorem dX4_init_196 : decode cX4_init 196 = .ok (.getfield 23, 3) := by decide +kernel
theorem dX4_init_199 : decode cX4_init 199 = .ok (.iload_n 1, 1) := by decide +kernel
theorem dX4_init_200 : decode cX4_init 200 = .ok (.iconst (-1), 1) := by decide +kernel
theorem dX4_init_201 : decode cX4_init 201 = .ok (.iastore, 1) := by decide +kernel
theorem dX4_init_202 : decode cX4_init 202 = .ok (.iinc 1 1, 3) := by decide +kernel
theorem dX4_init_205 : decode cX4_init 205 = .ok (.goto (-25), 3) := by decide +kernel
theorem dX4_init_208 : decode cX4_init 208 = .ok (.return_, 1) := by decide +kernel
theorem dX4_thrown_0 : decode cX4_thrown 0 = .ok (.aload_n 0, 1) := by decide +kernel
theorem dX4_thrown_1 : decode cX4_thrown 1 = .ok (.getfield 63, 3) := by decide +kernel
theorem dX4_thrown_4 : decode cX4_thrown 4 = .ok (.ireturn, 1) := by decide +kernel
theorem dX4_in_0 : decode cX4_in 0 = .ok (.iload_n 0, 1) := by decide +kernel
theorem dX4_in_1 : decode cX4_in 1 = .ok (.iload_n 1, 1) := by decide +kernel
theorem dX4_in_2 : decode cX4_in 2 = .ok (.if_icmp .lt 12, 3) := by decide +kernel
theorem dX4_in_5 : decode cX4_in 5 = .ok (.iload_n 0, 1) := by decide +kernel
theorem dX4_in_6 : decode cX4_in 6 = .ok (.iload_n 2, 1) := by decide +kernel
theorem dX4_in_7 : decode cX4_in 7 = .ok (.if_icmp .gt 7, 3) := by decide +kernel
theorem dX4_in_10 : decode cX4_in 10 = .ok (.iconst 1, 1) := by decide +kernel
theorem dX4_in_11 : decode cX4_in 11 = .ok (.goto 4, 3) := by decide +kernel
theorem dX4_in_14 : decode cX4_in 14 = .ok (.iconst 0, 1) := by decide +kernel
theorem dX4_in_15 : decode cX4_in 15 = .ok (.ireturn, 1) := by decide +kernel
theorem dX4_checked_0 : decode cX4_checked 0 = .ok (.aload_n 0, 1) := by decide +kernel
theorem dX4_checked_1 : decode cX4_checked 1 = .ok (.iload_n 1, 1) := by decide +kernel
theorem dX4_checked_2 : decode cX4_checked 2 = .ok (.ifCond .eq 7, 3) := by decide +kernel
theorem dX4_checked_5 : decode cX4_checked 5 = .ok (.iconst 0, 1) := by decide +kernel
theorem dX4_checked_6 : decode cX4_checked 6 = .ok (.goto 4, 3) := by decide +kernel
theorem dX4_checked_9 : decode cX4_checked 9 = .ok (.iconst 1, 1) := by decide +kernel
theorem dX4_checked_10 : decode cX4_checked 10 = .ok (.putfield 63, 3) := by decide +kernel
theorem dX4_checked_13 : decode cX4_checked 13 = .ok (.aload_n 0, 1) := by decide +kernel
theorem dX4_checked_14 : decode cX4_checked 14 = .ok (.getfield 63, 3) := by decide +kernel
theorem dX4_checked_17 : decode cX4_checked 17 = .ok (.ireturn, 1) := by decide +kernel
theorem dX4_isName_0 : decode cX4_isName 0 = .ok (.iload_n 1, 1) := by decide +kernel
theorem dX4_isName_1 : decode cX4_isName 1 = .ok (.iconst 0, 1) := by decide +kernel
theorem dX4_isName_2 : decode cX4_isName 2 = .ok (.aload_n 0, 1) := by decide +kernel
theorem dX4_isName_3 : decode cX4_isName 3 = .ok (.getfield 67, 3) := by decide +kernel
theorem dX4_isName_6 : decode cX4_isName 6 = .ok (.iconst 1, 1) := by decide +kernel
theorem dX4_isName_7 : decode cX4_isName 7 = .ok (.isub, 1) := by decide +kernel
theorem dX4_isName_8 : decode cX4_isName 8 = .ok (.invokestatic 76, 3) := by decide +kernel
theorem dX4_isName_11 : decode cX4_isName 11 = .ok (.ireturn, 1) := by decide +kernel
theorem dX4_isCore_0 : decode cX4_isCore 0 = .ok (.iload_n 0, 1) := by decide +kernel
theorem dX4_isCore_1 : decode cX4_isCore 1 = .ok (.iconst 0, 1) := by decide +kernel
theorem dX4_isCore_2 : decode cX4_isCore 2 = .ok (.iconst 3, 1) := by decide +kernel
theorem dX4_isCore_3 : decode cX4_isCore 3 = .ok (.invokestatic 76, 3) := by decide +kernel
theorem dX4_isCore_6 : decode cX4_isCore 6 = .ok (.ireturn, 1) := by decide +kernel
theorem dX4_at_0 : decode cX4_at 0 = .ok (.bipush 64, 2) := by decide +kernel
theorem dX4_at_2 : decode cX4_at 2 = .ok (.iload_n 0, 1) := by decide +kernel
theorem dX4_at_3 : decode cX4_at 3 = .ok (.imul, 1) := by decide +kernel
theorem dX4_at_4 : decode cX4_at 4 = .ok (.iload_n 1, 1) := by decide +kernel
theorem dX4_at_5 : decode cX4_at 5 = .ok (.iadd, 1) := by decide +kernel
theorem dX4_at_6 : decode cX4_at 6 = .ok (.ireturn, 1) := by decide +kernel
theorem dX4_addName_0 : decode cX4_addName 0 = .ok (.aload_n 0, 1) := by decide +kernel
theorem dX4_addName_1 : decode cX4_addName 1 = .ok (.iload_n 1, 1) := by decide +kernel
theorem dX4_addName_2 : decode cX4_addName 2 = .ok (.iconst 1, 1) := by decide +kernel
theorem dX4_addName_3 : decode cX4_addName 3 = .ok (.bipush 32, 2) := by decide +kernel
theorem dX4_addName_5 : decode cX4_addName 5 = .ok (.invokestatic 76, 3) := by decide +kernel
theorem dX4_addName_8 : decode cX4_addName 8 = .ok (.ifCond .ne 7, 3) := by decide +kernel
theorem dX4_addName_11 : decode cX4_addName 11 = .ok (.iconst 1, 1) := by decide +kernel
theorem dX4_addName_12 : decode cX4_addName 12 = .ok (.goto 17, 3) := by decide +kernel
theorem dX4_addName_15 : decode cX4_addName 15 = .ok (.aload_n 0, 1) := by decide +kernel
theorem dX4_addName_16 : decode cX4_addName 16 = .ok (.getfield 67, 3) := by decide +kernel
theorem dX4_addName_19 : decode cX4_addName 19 = .ok (.bipush 12, 2) := by decide +kernel
theorem dX4_addName_21 : decode cX4_addName 21 = .ok (.if_icmp .ne 7, 3) := by decide +kernel
theorem dX4_addName_24 : decode cX4_addName 24 = .ok (.iconst 2, 1) := by decide +kernel
theorem dX4_addName_25 : decode cX4_addName 25 = .ok (.goto 4, 3) := by decide +kernel
theorem dX4_addName_28 : decode cX4_addName 28 = .ok (.iconst 0, 1) := by decide +kernel
theorem dX4_addName_29 : decode cX4_addName 29 = .ok (.putfield 63, 3) := by decide +kernel
theorem dX4_addName_32 : decode cX4_addName 32 = .ok (.aload_n 0, 1) := by decide +kernel
theorem dX4_addName_33 : decode cX4_addName 33 = .ok (.getfield 63, 3) := by decide +kernel
theorem dX4_addName_36 : decode cX4_addName 36 = .ok (.ifCond .le 5, 3) := by decide +kernel
theorem dX4_addName_39 : decode cX4_addName 39 = .ok (.iconst 0, 1) := by decide +kernel
theorem dX4_addName_40 : decode cX4_addName 40 = .ok (.ireturn, 1) := by decide +kernel
theorem dX4_addName_41 : decode cX4_addName 41 = .ok (.aload_n 0, 1) := by decide +kernel
theorem dX4_addName_42 : decode cX4_addName 42 = .ok (.getfield 7, 3) := by decide +kernel
theorem dX4_addName_45 : decode cX4_addName 45 = .ok (.aload_n 0, 1) := by decide +kernel
theorem dX4_addName_46 : decode cX4_addName 46 = .ok (.getfield 67, 3) := by decide +kernel
theorem dX4_addName_49 : decode cX4_addName 49 = .ok (.iload_n 1, 1) := by decide +kernel
theorem dX4_addName_50 : decode cX4_addName 50 = .ok (.iastore, 1) := by decide +kernel
theorem dX4_addName_51 : decode cX4_addName 51 = .ok (.aload_n 0, 1) := by decide +kernel
theorem dX4_addName_52 : decode cX4_addName 52 = .ok (.dup, 1) := by decide +kernel
theorem dX4_addName_53 : decode cX4_addName 53 = .ok (.getfield 67, 3) := by decide +kernel
theorem dX4_addName_56 : decode cX4_addName 56 = .ok (.iconst 1, 1) := by decide +kernel
theorem dX4_addName_57 : decode cX4_addName 57 = .ok (.iadd, 1) := by decide +kernel
theorem dX4_addName_58 : decode cX4_addName 58 = .ok (.putfield 67, 3) := by decide +kernel
theorem dX4_addName_61 : decode cX4_addName 61 = .ok (.aload_n 0, 1) := by decide +kernel
theorem dX4_addName_62 : decode cX4_addName 62 = .ok (.getfield 67, 3) := by decide +kernel
theorem dX4_addName_65 : decode cX4_addName 65 = .ok (.iconst 1, 1) := by decide +kernel
theorem dX4_addName_66 : decode cX4_addName 66 = .ok (.isub, 1) := by decide +kernel
theorem dX4_addName_67 : decode cX4_addName 67 = .ok (.ireturn, 1) := by decide +kernel
theorem dX4_nameOn_0 : decode cX4_nameOn 0 = .ok (.iconst 0, 1) := by decide +kernel
theorem dX4_nameOn_1 : decode cX4_nameOn 1 = .ok (.istore_n 2, 1) := by decide +kernel
theorem dX4_nameOn_2 : decode cX4_nameOn 2 = .ok (.iload_n 2, 1) := by decide +kernel
theorem dX4_nameOn_3 : decode cX4_nameOn 3 = .ok (.aload_n 0, 1) := by decide +kernel
theorem dX4_nameOn_4 : decode cX4_nameOn 4 = .ok (.getfield 67, 3) := by decide +kernel
theorem dX4_nameOn_7 : decode cX4_nameOn 7 = .ok (.if_icmp .ge 48, 3) := by decide +kernel
theorem dX4_nameOn_10 : decode cX4_nameOn 10 = .ok (.aload_n 0, 1) := by decide +kernel
theorem dX4_nameOn_11 : decode cX4_nameOn 11 = .ok (.getfield 13, 3) := by decide +kernel
theorem dX4_nameOn_14 : decode cX4_nameOn 14 = .ok (.iload_n 2, 1) := by decide +kernel
theorem dX4_nameOn_15 : decode cX4_nameOn 15 = .ok (.iaload, 1) := by decide +kernel
theorem dX4_nameOn_16 : decode cX4_nameOn 16 = .ok (.ifCond .lt 33, 3) := by decide +kernel
theorem dX4_nameOn_19 : decode cX4_nameOn 19 = .ok (.iload_n 1, 1) := by decide +kernel
theorem dX4_nameOn_20 : decode cX4_nameOn 20 = .ok (.aload_n 0, 1) := by decide +kernel
theorem dX4_nameOn_21 : decode cX4_nameOn 21 = .ok (.getfield 13, 3) := by decide +kernel
theorem dX4_nameOn_24 : decode cX4_nameOn 24 = .ok (.iload_n 2, 1) := by decide +kernel
theorem dX4_nameOn_25 : decode cX4_nameOn 25 = .ok (.iaload, 1) := by decide +kernel
theorem dX4_nameOn_26 : decode cX4_nameOn 26 = .ok (.aload_n 0, 1) := by decide +kernel
theorem dX4_nameOn_27 : decode cX4_nameOn 27 = .ok (.getfield 13, 3) := by decide +kernel
theorem dX4_nameOn_30 : decode cX4_nameOn 30 = .ok (.iload_n 2, 1) := by decide +kernel
theorem dX4_nameOn_31 : decode cX4_nameOn 31 = .ok (.iaload, 1) := by decide +kernel
theorem dX4_nameOn_32 : decode cX4_nameOn 32 = .ok (.aload_n 0, 1) := by decide +kernel
theorem dX4_nameOn_33 : decode cX4_nameOn 33 = .ok (.getfield 7, 3) := by decide +kernel
theorem dX4_nameOn_36 : decode cX4_nameOn 36 = .ok (.iload_n 2, 1) := by decide +kernel
theorem dX4_nameOn_37 : decode cX4_nameOn 37 = .ok (.iaload, 1) := by decide +kernel
theorem dX4_nameOn_38 : decode cX4_nameOn 38 = .ok (.iadd, 1) := by decide +kernel
theorem dX4_nameOn_39 : decode cX4_nameOn 39 = .ok (.iconst 1, 1) := by decide +kernel
theorem dX4_nameOn_40 : decode cX4_nameOn 40 = .ok (.isub, 1) := by decide +kernel
theorem dX4_nameOn_41 : decode cX4_nameOn 41 = .ok (.invokestatic 76, 3) := by decide +kernel
theorem dX4_nameOn_44 : decode cX4_nameOn 44 = .ok (.ifCond .eq 5, 3) := by decide +kernel
theorem dX4_nameOn_47 : decode cX4_nameOn 47 = .ok (.iload_n 2, 1) := by decide +kernel
theorem dX4_nameOn_48 : decode cX4_nameOn 48 = .ok (.ireturn, 1) := by decide +kernel
theorem dX4_nameOn_49 : decode cX4_nameOn 49 = .ok (.iinc 2 1, 3) := by decide +kernel
theorem dX4_nameOn_52 : decode cX4_nameOn 52 = .ok (.goto (-50), 3) := by decide +kernel
theorem dX4_nameOn_55 : decode cX4_nameOn 55 = .ok (.iconst (-1), 1) := by decide +kernel
theorem dX4_nameOn_56 : decode cX4_nameOn 56 = .ok (.ireturn, 1) := by decide +kernel
theorem dX4_fits_0 : decode cX4_fits 0 = .ok (.iload_n 2, 1) := by decide +kernel
theorem dX4_fits_1 : decode cX4_fits 1 = .ok (.aload_n 0, 1) := by decide +kernel
theorem dX4_fits_2 : decode cX4_fits 2 = .ok (.getfield 7, 3) := by decide +kernel
theorem dX4_fits_5 : decode cX4_fits 5 = .ok (.iload_n 1, 1) := by decide +kernel
theorem dX4_fits_6 : decode cX4_fits 6 = .ok (.iaload, 1) := by decide +kernel
theorem dX4_fits_7 : decode cX4_fits 7 = .ok (.iadd, 1) := by decide +kernel
theorem dX4_fits_8 : decode cX4_fits 8 = .ok (.sipush 512, 3) := by decide +kernel
theorem dX4_fits_11 : decode cX4_fits 11 = .ok (.if_icmp .le 5, 3) := by decide +kernel
theorem dX4_fits_14 : decode cX4_fits 14 = .ok (.iconst 0, 1) := by decide +kernel
theorem dX4_fits_15 : decode cX4_fits 15 = .ok (.ireturn, 1) := by decide +kernel
theorem dX4_fits_16 : decode cX4_fits 16 = .ok (.iconst 0, 1) := by decide +kernel
theorem dX4_fits_17 : decode cX4_fits 17 = .ok (.istore_n 3, 1) := by decide +kernel
theorem dX4_fits_18 : decode cX4_fits 18 = .ok (.iload_n 3, 1) := by decide +kernel
theorem dX4_fits_19 : decode cX4_fits 19 = .ok (.aload_n 0, 1) := by decide +kernel
theorem dX4_fits_20 : decode cX4_fits 20 = .ok (.getfield 7, 3) := by decide +kernel
theorem dX4_fits_23 : decode cX4_fits 23 = .ok (.iload_n 1, 1) := by decide +kernel
theorem dX4_fits_24 : decode cX4_fits 24 = .ok (.iaload, 1) := by decide +kernel
theorem dX4_fits_25 : decode cX4_fits 25 = .ok (.if_icmp .ge 21, 3) := by decide +kernel
theorem dX4_fits_28 : decode cX4_fits 28 = .ok (.aload_n 0, 1) := by decide +kernel
theorem dX4_fits_29 : decode cX4_fits 29 = .ok (.iload_n 2, 1) := by decide +kernel
theorem dX4_fits_30 : decode cX4_fits 30 = .ok (.iload_n 3, 1) := by decide +kernel
theorem dX4_fits_31 : decode cX4_fits 31 = .ok (.iadd, 1) := by decide +kernel
theorem dX4_fits_32 : decode cX4_fits 32 = .ok (.invokevirtual 80, 3) := by decide +kernel
theorem dX4_fits_35 : decode cX4_fits 35 = .ok (.ifCond .lt 5, 3) := by decide +kernel
theorem dX4_fits_38 : decode cX4_fits 38 = .ok (.iconst 0, 1) := by decide +kernel
theorem dX4_fits_39 : decode cX4_fits 39 = .ok (.ireturn, 1) := by decide +kernel
theorem dX4_fits_40 : decode cX4_fits 40 = .ok (.iinc 3 1, 3) := by decide +kernel
theorem dX4_fits_43 : decode cX4_fits 43 = .ok (.goto (-25), 3) := by decide +kernel
theorem dX4_fits_46 : decode cX4_fits 46 = .ok (.iconst 1, 1) := by decide +kernel
theorem dX4_fits_47 : decode cX4_fits 47 = .ok (.ireturn, 1) := by decide +kernel
theorem dX4_place_0 : decode cX4_place 0 = .ok (.aload_n 0, 1) := by decide +kernel
theorem dX4_place_1 : decode cX4_place 1 = .ok (.aload_n 0, 1) := by decide +kernel
theorem dX4_place_2 : decode cX4_place 2 = .ok (.iload_n 1, 1) := by decide +kernel
theorem dX4_place_3 : decode cX4_place 3 = .ok (.invokevirtual 84, 3) := by decide +kernel
theorem dX4_place_6 : decode cX4_place 6 = .ok (.ifCond .ne 7, 3) := by decide +kernel
theorem dX4_place_9 : decode cX4_place 9 = .ok (.iconst 1, 1) := by decide +kernel
theorem dX4_place_10 : decode cX4_place 10 = .ok (.goto 48, 3) := by decide +kernel
theorem dX4_place_13 : decode cX4_place 13 = .ok (.iload_n 2, 1) := by decide +kernel
theorem dX4_place_14 : decode cX4_place 14 = .ok (.iconst 0, 1) := by decide +kernel
theorem dX4_place_15 : decode cX4_place 15 = .ok (.sipush 512, 3) := by decide +kernel
theorem dX4_place_18 : decode cX4_place 18 = .ok (.aload_n 0, 1) := by decide +kernel
theorem dX4_place_19 : decode cX4_place 19 = .ok (.getfield 7, 3) := by decide +kernel
theorem dX4_place_22 : decode cX4_place 22 = .ok (.iload_n 1, 1) := by decide +kernel
theorem dX4_place_23 : decode cX4_place 23 = .ok (.iaload, 1) := by decide +kernel
theorem dX4_place_24 : decode cX4_place 24 = .ok (.isub, 1) := by decide +kernel
theorem dX4_place_25 : decode cX4_place 25 = .ok (.invokestatic 76, 3) := by decide +kernel
theorem dX4_place_28 : decode cX4_place 28 = .ok (.ifCond .ne 7, 3) := by decide +kernel
theorem dX4_place_31 : decode cX4_place 31 = .ok (.iconst 2, 1) := by decide +kernel
theorem dX4_place_32 : decode cX4_place 32 = .ok (.goto 26, 3) := by decide +kernel
theorem dX4_place_35 : decode cX4_place 35 = .ok (.aload_n 0, 1) := by decide +kernel
theorem dX4_place_36 : decode cX4_place 36 = .ok (.getfield 13, 3) := by decide +kernel
theorem dX4_place_39 : decode cX4_place 39 = .ok (.iload_n 1, 1) := by decide +kernel
theorem dX4_place_40 : decode cX4_place 40 = .ok (.iaload, 1) := by decide +kernel
theorem dX4_place_41 : decode cX4_place 41 = .ok (.ifCond .ge 12, 3) := by decide +kernel
theorem dX4_place_44 : decode cX4_place 44 = .ok (.aload_n 0, 1) := by decide +kernel
theorem dX4_place_45 : decode cX4_place 45 = .ok (.iload_n 1, 1) := by decide +kernel
theorem dX4_place_46 : decode cX4_place 46 = .ok (.iload_n 2, 1) := by decide +kernel
theorem dX4_place_47 : decode cX4_place 47 = .ok (.invokevirtual 88, 3) := by decide +kernel
theorem dX4_place_50 : decode cX4_place 50 = .ok (.ifCond .ne 7, 3) := by decide +kernel
theorem dX4_place_53 : decode cX4_place 53 = .ok (.iconst 3, 1) := by decide +kernel
theorem dX4_place_54 : decode cX4_place 54 = .ok (.goto 4, 3) := by decide +kernel
theorem dX4_place_57 : decode cX4_place 57 = .ok (.iconst 0, 1) := by decide +kernel
theorem dX4_place_58 : decode cX4_place 58 = .ok (.putfield 63, 3) := by decide +kernel
theorem dX4_place_61 : decode cX4_place 61 = .ok (.aload_n 0, 1) := by decide +kernel
theorem dX4_place_62 : decode cX4_place 62 = .ok (.getfield 63, 3) := by decide +kernel
theorem dX4_place_65 : decode cX4_place 65 = .ok (.ifCond .le 5, 3) := by decide +kernel
theorem dX4_place_68 : decode cX4_place 68 = .ok (.iconst 0, 1) := by decide +kernel
theorem dX4_place_69 : decode cX4_place 69 = .ok (.ireturn, 1) := by decide +kernel
theorem dX4_place_70 : decode cX4_place 70 = .ok (.aload_n 0, 1) := by decide +kernel
theorem dX4_place_71 : decode cX4_place 71 = .ok (.getfield 13, 3) := by decide +kernel
theorem dX4_place_74 : decode cX4_place 74 = .ok (.iload_n 1, 1) := by decide +kernel
theorem dX4_place_75 : decode cX4_place 75 = .ok (.iload_n 2, 1) := by decide +kernel
theorem dX4_place_76 : decode cX4_place 76 = .ok (.iastore, 1) := by decide +kernel
theorem dX4_place_77 : decode cX4_place 77 = .ok (.iload_n 2, 1) := by decide +kernel
theorem dX4_place_78 : decode cX4_place 78 = .ok (.bipush 8, 2) := by decide +kernel
theorem dX4_place_80 : decode cX4_place 80 = .ok (.idiv, 1) := by decide +kernel
theorem dX4_place_81 : decode cX4_place 81 = .ok (.ireturn, 1) := by decide +kernel
theorem dX4_lowest_0 : decode cX4_lowest 0 = .ok (.iconst 0, 1) := by decide +kernel
theorem dX4_lowest_1 : decode cX4_lowest 1 = .ok (.istore_n 3, 1) := by decide +kernel
theorem dX4_lowest_2 : decode cX4_lowest 2 = .ok (.iload_n 3, 1) := by decide +kernel
theorem dX4_lowest_3 : decode cX4_lowest 3 = .ok (.sipush 512, 3) := by decide +kernel
theorem dX4_lowest_6 : decode cX4_lowest 6 = .ok (.if_icmp .ge 21, 3) := by decide +kernel
theorem dX4_lowest_9 : decode cX4_lowest 9 = .ok (.aload_n 0, 1) := by decide +kernel
theorem dX4_lowest_10 : decode cX4_lowest 10 = .ok (.iload_n 1, 1) := by decide +kernel
theorem dX4_lowest_11 : decode cX4_lowest 11 = .ok (.iload_n 3, 1) := by decide +kernel
theorem dX4_lowest_12 : decode cX4_lowest 12 = .ok (.invokevirtual 88, 3) := by decide +kernel
theorem dX4_lowest_15 : decode cX4_lowest 15 = .ok (.ifCond .eq 5, 3) := by decide +kernel
theorem dX4_lowest_18 : decode cX4_lowest 18 = .ok (.iload_n 3, 1) := by decide +kernel
theorem dX4_lowest_19 : decode cX4_lowest 19 = .ok (.ireturn, 1) := by decide +kernel
theorem dX4_lowest_20 : decode cX4_lowest 20 = .ok (.iload_n 3, 1) := by decide +kernel
theorem dX4_lowest_21 : decode cX4_lowest 21 = .ok (.iload_n 2, 1) := by decide +kernel
theorem dX4_lowest_22 : decode cX4_lowest 22 = .ok (.iadd, 1) := by decide +kernel
theorem dX4_lowest_23 : decode cX4_lowest 23 = .ok (.istore_n 3, 1) := by decide +kernel
theorem dX4_lowest_24 : decode cX4_lowest 24 = .ok (.goto (-22), 3) := by decide +kernel
theorem dX4_lowest_27 : decode cX4_lowest 27 = .ok (.iconst (-1), 1) := by decide +kernel
theorem dX4_lowest_28 : decode cX4_lowest 28 = .ok (.ireturn, 1) := by decide +kernel
theorem dX4_link_0 : decode cX4_link 0 = .ok (.aload_n 0, 1) := by decide +kernel
theorem dX4_link_1 : decode cX4_link 1 = .ok (.iload_n 1, 1) := by decide +kernel
theorem dX4_link_2 : decode cX4_link 2 = .ok (.iconst 1, 1) := by decide +kernel
theorem dX4_link_3 : decode cX4_link 3 = .ok (.bipush 64, 2) := by decide +kernel
theorem dX4_link_5 : decode cX4_link 5 = .ok (.invokestatic 76, 3) := by decide +kernel
theorem dX4_link_8 : decode cX4_link 8 = .ok (.invokevirtual 92, 3) := by decide +kernel
theorem dX4_link_11 : decode cX4_link 11 = .ok (.ifCond .le 5, 3) := by decide +kernel
theorem dX4_link_14 : decode cX4_link 14 = .ok (.iconst 0, 1) := by decide +kernel
theorem dX4_link_15 : decode cX4_link 15 = .ok (.ireturn, 1) := by decide +kernel
theorem dX4_link_16 : decode cX4_link 16 = .ok (.bipush 12, 2) := by decide +kernel
theorem dX4_link_18 : decode cX4_link 18 = .ok (.newarray .int, 2) := by decide +kernel
theorem dX4_link_20 : decode cX4_link 20 = .ok (.astore_n 2, 1) := by decide +kernel
theorem dX4_link_21 : decode cX4_link 21 = .ok (.iconst 0, 1) := by decide +kernel
theorem dX4_link_22 : decode cX4_link 22 = .ok (.istore_n 3, 1) := by decide +kernel
theorem dX4_link_23 : decode cX4_link 23 = .ok (.iconst 0, 1) := by decide +kernel
theorem dX4_link_24 : decode cX4_link 24 = .ok (.istore 4, 2) := by decide +kernel
theorem dX4_link_26 : decode cX4_link 26 = .ok (.iload 4, 2) := by decide +kernel
theorem dX4_link_28 : decode cX4_link 28 = .ok (.bipush 12, 2) := by decide +kernel
theorem dX4_link_30 : decode cX4_link 30 = .ok (.if_icmp .ge 20, 3) := by decide +kernel
theorem dX4_link_33 : decode cX4_link 33 = .ok (.aload_n 2, 1) := by decide +kernel
theorem dX4_link_34 : decode cX4_link 34 = .ok (.iload 4, 2) := by decide +kernel
theorem dX4_link_36 : decode cX4_link 36 = .ok (.aload_n 0, 1) := by decide +kernel
theorem dX4_link_37 : decode cX4_link 37 = .ok (.getfield 13, 3) := by decide +kernel
theorem dX4_link_40 : decode cX4_link 40 = .ok (.iload 4, 2) := by decide +kernel
theorem dX4_link_42 : decode cX4_link 42 = .ok (.iaload, 1) := by decide +kernel
theorem dX4_link_43 : decode cX4_link 43 = .ok (.iastore, 1) := by decide +kernel
theorem dX4_link_44 : decode cX4_link 44 = .ok (.iinc 4 1, 3) := by decide +kernel
theorem dX4_link_47 : decode cX4_link 47 = .ok (.goto (-21), 3) := by decide +kernel
theorem dX4_link_50 : decode cX4_link 50 = .ok (.iconst 0, 1) := by decide +kernel
theorem dX4_link_51 : decode cX4_link 51 = .ok (.istore 4, 2) := by decide +kernel
theorem dX4_link_53 : decode cX4_link 53 = .ok (.iload 4, 2) := by decide +kernel
theorem dX4_link_55 : decode cX4_link 55 = .ok (.aload_n 0, 1) := by decide +kernel
theorem dX4_link_56 : decode cX4_link 56 = .ok (.getfield 67, 3) := by decide +kernel
theorem dX4_link_59 : decode cX4_link 59 = .ok (.if_icmp .ge 61, 3) := by decide +kernel
theorem dX4_link_62 : decode cX4_link 62 = .ok (.aload_n 0, 1) := by decide +kernel
theorem dX4_link_63 : decode cX4_link 63 = .ok (.getfield 63, 3) := by decide +kernel
theorem dX4_link_66 : decode cX4_link 66 = .ok (.ifCond .ne 54, 3) := by decide +kernel
theorem dX4_link_69 : decode cX4_link 69 = .ok (.aload_n 0, 1) := by decide +kernel
theorem dX4_link_70 : decode cX4_link 70 = .ok (.getfield 13, 3) := by decide +kernel
theorem dX4_link_73 : decode cX4_link 73 = .ok (.iload 4, 2) := by decide +kernel
theorem dX4_link_75 : decode cX4_link 75 = .ok (.iaload, 1) := by decide +kernel
theorem dX4_link_76 : decode cX4_link 76 = .ok (.ifCond .lt 6, 3) := by decide +kernel
theorem dX4_link_79 : decode cX4_link 79 = .ok (.goto 35, 3) := by decide +kernel
theorem dX4_link_82 : decode cX4_link 82 = .ok (.aload_n 0, 1) := by decide +kernel
theorem dX4_link_83 : decode cX4_link 83 = .ok (.getfield 13, 3) := by decide +kernel
theorem dX4_link_86 : decode cX4_link 86 = .ok (.iload 4, 2) := by decide +kernel
theorem dX4_link_88 : decode cX4_link 88 = .ok (.aload_n 0, 1) := by decide +kernel
theorem dX4_link_89 : decode cX4_link 89 = .ok (.iload 4, 2) := by decide +kernel
theorem dX4_link_91 : decode cX4_link 91 = .ok (.iload_n 1, 1) := by decide +kernel
theorem dX4_link_92 : decode cX4_link 92 = .ok (.invokevirtual 96, 3) := by decide +kernel
theorem dX4_link_95 : decode cX4_link 95 = .ok (.iastore, 1) := by decide +kernel
theorem dX4_link_96 : decode cX4_link 96 = .ok (.aload_n 0, 1) := by decide +kernel
theorem dX4_link_97 : decode cX4_link 97 = .ok (.getfield 13, 3) := by decide +kernel
theorem dX4_link_100 : decode cX4_link 100 = .ok (.iload 4, 2) := by decide +kernel
theorem dX4_link_102 : decode cX4_link 102 = .ok (.iaload, 1) := by decide +kernel
theorem dX4_link_103 : decode cX4_link 103 = .ok (.ifCond .ge 8, 3) := by decide +kernel
theorem dX4_link_106 : decode cX4_link 106 = .ok (.aload_n 0, 1) := by decide +kernel
theorem dX4_link_107 : decode cX4_link 107 = .ok (.iconst 2, 1) := by decide +kernel
theorem dX4_link_108 : decode cX4_link 108 = .ok (.putfield 63, 3) := by decide +kernel
theorem dX4_link_111 : decode cX4_link 111 = .ok (.iinc 3 1, 3) := by decide +kernel
theorem dX4_link_114 : decode cX4_link 114 = .ok (.iinc 4 1, 3) := by decide +kernel
theorem dX4_link_117 : decode cX4_link 117 = .ok (.goto (-64), 3) := by decide +kernel
theorem dX4_link_120 : decode cX4_link 120 = .ok (.iconst 0, 1) := by decide +kernel
theorem dX4_link_121 : decode cX4_link 121 = .ok (.istore 4, 2) := by decide +kernel
theorem dX4_link_123 : decode cX4_link 123 = .ok (.iload 4, 2) := by decide +kernel
theorem dX4_link_125 : decode cX4_link 125 = .ok (.bipush 12, 2) := by decide +kernel
theorem dX4_link_127 : decode cX4_link 127 = .ok (.if_icmp .ge 27, 3) := by decide +kernel
theorem dX4_link_130 : decode cX4_link 130 = .ok (.aload_n 0, 1) := by decide +kernel
theorem dX4_link_131 : decode cX4_link 131 = .ok (.getfield 63, 3) := by decide +kernel
theorem dX4_link_134 : decode cX4_link 134 = .ok (.ifCond .le 20, 3) := by decide +kernel
theorem dX4_link_137 : decode cX4_link 137 = .ok (.aload_n 0, 1) := by decide +kernel
theorem dX4_link_138 : decode cX4_link 138 = .ok (.getfield 13, 3) := by decide +kernel
theorem dX4_link_141 : decode cX4_link 141 = .ok (.iload 4, 2) := by decide +kernel
theorem dX4_link_143 : decode cX4_link 143 = .ok (.aload_n 2, 1) := by decide +kernel
theorem dX4_link_144 : decode cX4_link 144 = .ok (.iload 4, 2) := by decide +kernel
theorem dX4_link_146 : decode cX4_link 146 = .ok (.iaload, 1) := by decide +kernel
theorem dX4_link_147 : decode cX4_link 147 = .ok (.iastore, 1) := by decide +kernel
theorem dX4_link_148 : decode cX4_link 148 = .ok (.iinc 4 1, 3) := by decide +kernel
theorem dX4_link_151 : decode cX4_link 151 = .ok (.goto (-28), 3) := by decide +kernel
theorem dX4_link_154 : decode cX4_link 154 = .ok (.aload_n 0, 1) := by decide +kernel
theorem dX4_link_155 : decode cX4_link 155 = .ok (.getfield 63, 3) := by decide +kernel
theorem dX4_link_158 : decode cX4_link 158 = .ok (.ifCond .le 7, 3) := by decide +kernel
theorem dX4_link_161 : decode cX4_link 161 = .ok (.iconst 0, 1) := by decide +kernel
theorem dX4_link_162 : decode cX4_link 162 = .ok (.goto 4, 3) := by decide +kernel
theorem dX4_link_165 : decode cX4_link 165 = .ok (.iload_n 3, 1) := by decide +kernel
theorem dX4_link_166 : decode cX4_link 166 = .ok (.ireturn, 1) := by decide +kernel
theorem dX4_take_0 : decode cX4_take 0 = .ok (.aload_n 0, 1) := by decide +kernel
theorem dX4_take_1 : decode cX4_take 1 = .ok (.aload_n 0, 1) := by decide +kernel
theorem dX4_take_2 : decode cX4_take 2 = .ok (.iload_n 1, 1) := by decide +kernel
theorem dX4_take_3 : decode cX4_take 3 = .ok (.invokevirtual 84, 3) := by decide +kernel
theorem dX4_take_6 : decode cX4_take 6 = .ok (.ifCond .ne 7, 3) := by decide +kernel
theorem dX4_take_9 : decode cX4_take 9 = .ok (.iconst 1, 1) := by decide +kernel
theorem dX4_take_10 : decode cX4_take 10 = .ok (.goto 17, 3) := by decide +kernel
theorem dX4_take_13 : decode cX4_take 13 = .ok (.aload_n 0, 1) := by decide +kernel
theorem dX4_take_14 : decode cX4_take 14 = .ok (.getfield 13, 3) := by decide +kernel
theorem dX4_take_17 : decode cX4_take 17 = .ok (.iload_n 1, 1) := by decide +kernel
theorem dX4_take_18 : decode cX4_take 18 = .ok (.iaload, 1) := by decide +kernel
theorem dX4_take_19 : decode cX4_take 19 = .ok (.ifCond .ge 7, 3) := by decide +kernel
theorem dX4_take_22 : decode cX4_take 22 = .ok (.iconst 2, 1) := by decide +kernel
theorem dX4_take_23 : decode cX4_take 23 = .ok (.goto 4, 3) := by decide +kernel
theorem dX4_take_26 : decode cX4_take 26 = .ok (.iconst 0, 1) := by decide +kernel
theorem dX4_take_27 : decode cX4_take 27 = .ok (.putfield 63, 3) := by decide +kernel
theorem dX4_take_30 : decode cX4_take 30 = .ok (.aload_n 0, 1) := by decide +kernel
theorem dX4_take_31 : decode cX4_take 31 = .ok (.getfield 63, 3) := by decide +kernel
theorem dX4_take_34 : decode cX4_take 34 = .ok (.ifCond .le 5, 3) := by decide +kernel
theorem dX4_take_37 : decode cX4_take 37 = .ok (.iconst 0, 1) := by decide +kernel
theorem dX4_take_38 : decode cX4_take 38 = .ok (.ireturn, 1) := by decide +kernel
theorem dX4_take_39 : decode cX4_take 39 = .ok (.aload_n 0, 1) := by decide +kernel
theorem dX4_take_40 : decode cX4_take 40 = .ok (.getfield 13, 3) := by decide +kernel
theorem dX4_take_43 : decode cX4_take 43 = .ok (.iload_n 1, 1) := by decide +kernel
theorem dX4_take_44 : decode cX4_take 44 = .ok (.iaload, 1) := by decide +kernel
theorem dX4_take_45 : decode cX4_take 45 = .ok (.istore_n 2, 1) := by decide +kernel
theorem dX4_take_46 : decode cX4_take 46 = .ok (.aload_n 0, 1) := by decide +kernel
theorem dX4_take_47 : decode cX4_take 47 = .ok (.getfield 13, 3) := by decide +kernel
theorem dX4_take_50 : decode cX4_take 50 = .ok (.iload_n 1, 1) := by decide +kernel
theorem dX4_take_51 : decode cX4_take 51 = .ok (.iconst (-1), 1) := by decide +kernel
theorem dX4_take_52 : decode cX4_take 52 = .ok (.iastore, 1) := by decide +kernel
theorem dX4_take_53 : decode cX4_take 53 = .ok (.iload_n 2, 1) := by decide +kernel
theorem dX4_take_54 : decode cX4_take 54 = .ok (.ireturn, 1) := by decide +kernel
theorem dX4_addressOf_0 : decode cX4_addressOf 0 = .ok (.aload_n 0, 1) := by decide +kernel
theorem dX4_addressOf_1 : decode cX4_addressOf 1 = .ok (.aload_n 0, 1) := by decide +kernel
theorem dX4_addressOf_2 : decode cX4_addressOf 2 = .ok (.iload_n 1, 1) := by decide +kernel
theorem dX4_addressOf_3 : decode cX4_addressOf 3 = .ok (.invokevirtual 84, 3) := by decide +kernel
theorem dX4_addressOf_6 : decode cX4_addressOf 6 = .ok (.ifCond .ne 7, 3) := by decide +kernel
theorem dX4_addressOf_9 : decode cX4_addressOf 9 = .ok (.iconst 1, 1) := by decide +kernel
theorem dX4_addressOf_10 : decode cX4_addressOf 10 = .ok (.goto 37, 3) := by decide +kernel
theorem dX4_addressOf_13 : decode cX4_addressOf 13 = .ok (.aload_n 0, 1) := by decide +kernel
theorem dX4_addressOf_14 : decode cX4_addressOf 14 = .ok (.getfield 13, 3) := by decide +kernel
theorem dX4_addressOf_17 : decode cX4_addressOf 17 = .ok (.iload_n 1, 1) := by decide +kernel
theorem dX4_addressOf_18 : decode cX4_addressOf 18 = .ok (.iaload, 1) := by decide +kernel
theorem dX4_addressOf_19 : decode cX4_addressOf 19 = .ok (.ifCond .ge 7, 3) := by decide +kernel
theorem dX4_addressOf_22 : decode cX4_addressOf 22 = .ok (.iconst 2, 1) := by decide +kernel
theorem dX4_addressOf_23 : decode cX4_addressOf 23 = .ok (.goto 24, 3) := by decide +kernel
theorem dX4_addressOf_26 : decode cX4_addressOf 26 = .ok (.iload_n 2, 1) := by decide +kernel
theorem dX4_addressOf_27 : decode cX4_addressOf 27 = .ok (.iconst 0, 1) := by decide +kernel
theorem dX4_addressOf_28 : decode cX4_addressOf 28 = .ok (.aload_n 0, 1) := by decide +kernel
theorem dX4_addressOf_29 : decode cX4_addressOf 29 = .ok (.getfield 7, 3) := by decide +kernel
theorem dX4_addressOf_32 : decode cX4_addressOf 32 = .ok (.iload_n 1, 1) := by decide +kernel
theorem dX4_addressOf_33 : decode cX4_addressOf 33 = .ok (.iaload, 1) := by decide +kernel
theorem dX4_addressOf_34 : decode cX4_addressOf 34 = .ok (.iconst 1, 1) := by decide +kernel
theorem dX4_addressOf_35 : decode cX4_addressOf 35 = .ok (.isub, 1) := by decide +kernel
theorem dX4_addressOf_36 : decode cX4_addressOf 36 = .ok (.invokestatic 76, 3) := by decide +kernel
theorem dX4_addressOf_39 : decode cX4_addressOf 39 = .ok (.ifCond .ne 7, 3) := by decide +kernel
theorem dX4_addressOf_42 : decode cX4_addressOf 42 = .ok (.iconst 3, 1) := by decide +kernel
theorem dX4_addressOf_43 : decode cX4_addressOf 43 = .ok (.goto 4, 3) := by decide +kernel
theorem dX4_addressOf_46 : decode cX4_addressOf 46 = .ok (.iconst 0, 1) := by decide +kernel
theorem dX4_addressOf_47 : decode cX4_addressOf 47 = .ok (.putfield 63, 3) := by decide +kernel
theorem dX4_addressOf_50 : decode cX4_addressOf 50 = .ok (.aload_n 0, 1) := by decide +kernel
theorem dX4_addressOf_51 : decode cX4_addressOf 51 = .ok (.getfield 63, 3) := by decide +kernel
theorem dX4_addressOf_54 : decode cX4_addressOf 54 = .ok (.ifCond .le 7, 3) := by decide +kernel
theorem dX4_addressOf_57 : decode cX4_addressOf 57 = .ok (.iconst 0, 1) := by decide +kernel
theorem dX4_addressOf_58 : decode cX4_addressOf 58 = .ok (.goto 11, 3) := by decide +kernel
theorem dX4_addressOf_61 : decode cX4_addressOf 61 = .ok (.aload_n 0, 1) := by decide +kernel
theorem dX4_addressOf_62 : decode cX4_addressOf 62 = .ok (.getfield 13, 3) := by decide +kernel
theorem dX4_addressOf_65 : decode cX4_addressOf 65 = .ok (.iload_n 1, 1) := by decide +kernel
theorem dX4_addressOf_66 : decode cX4_addressOf 66 = .ok (.iaload, 1) := by decide +kernel
theorem dX4_addressOf_67 : decode cX4_addressOf 67 = .ok (.iload_n 2, 1) := by decide +kernel
theorem dX4_addressOf_68 : decode cX4_addressOf 68 = .ok (.iadd, 1) := by decide +kernel
theorem dX4_addressOf_69 : decode cX4_addressOf 69 = .ok (.ireturn, 1) := by decide +kernel
theorem dX4_nameAt_0 : decode cX4_nameAt 0 = .ok (.aload_n 0, 1) := by decide +kernel
theorem dX4_nameAt_1 : decode cX4_nameAt 1 = .ok (.iload_n 1, 1) := by decide +kernel
theorem dX4_nameAt_2 : decode cX4_nameAt 2 = .ok (.iconst 0, 1) := by decide +kernel
theorem dX4_nameAt_3 : decode cX4_nameAt 3 = .ok (.sipush 511, 3) := by decide +kernel
theorem dX4_nameAt_6 : decode cX4_nameAt 6 = .ok (.invokestatic 76, 3) := by decide +kernel
theorem dX4_nameAt_9 : decode cX4_nameAt 9 = .ok (.ifCond .ne 7, 3) := by decide +kernel
theorem dX4_nameAt_12 : decode cX4_nameAt 12 = .ok (.iconst 1, 1) := by decide +kernel
theorem dX4_nameAt_13 : decode cX4_nameAt 13 = .ok (.goto 16, 3) := by decide +kernel
theorem dX4_nameAt_16 : decode cX4_nameAt 16 = .ok (.aload_n 0, 1) := by decide +kernel
theorem dX4_nameAt_17 : decode cX4_nameAt 17 = .ok (.iload_n 1, 1) := by decide +kernel
theorem dX4_nameAt_18 : decode cX4_nameAt 18 = .ok (.invokevirtual 80, 3) := by decide +kernel
theorem dX4_nameAt_21 : decode cX4_nameAt 21 = .ok (.ifCond .ge 7, 3) := by decide +kernel
theorem dX4_nameAt_24 : decode cX4_nameAt 24 = .ok (.iconst 2, 1) := by decide +kernel
theorem dX4_nameAt_25 : decode cX4_nameAt 25 = .ok (.goto 4, 3) := by decide +kernel
theorem dX4_nameAt_28 : decode cX4_nameAt 28 = .ok (.iconst 0, 1) := by decide +kernel
theorem dX4_nameAt_29 : decode cX4_nameAt 29 = .ok (.putfield 63, 3) := by decide +kernel
theorem dX4_nameAt_32 : decode cX4_nameAt 32 = .ok (.aload_n 0, 1) := by decide +kernel
theorem dX4_nameAt_33 : decode cX4_nameAt 33 = .ok (.getfield 63, 3) := by decide +kernel
theorem dX4_nameAt_36 : decode cX4_nameAt 36 = .ok (.ifCond .le 7, 3) := by decide +kernel
theorem dX4_nameAt_39 : decode cX4_nameAt 39 = .ok (.iconst 0, 1) := by decide +kernel
theorem dX4_nameAt_40 : decode cX4_nameAt 40 = .ok (.goto 8, 3) := by decide +kernel
theorem dX4_nameAt_43 : decode cX4_nameAt 43 = .ok (.aload_n 0, 1) := by decide +kernel
theorem dX4_nameAt_44 : decode cX4_nameAt 44 = .ok (.iload_n 1, 1) := by decide +kernel
theorem dX4_nameAt_45 : decode cX4_nameAt 45 = .ok (.invokevirtual 80, 3) := by decide +kernel
theorem dX4_nameAt_48 : decode cX4_nameAt 48 = .ok (.ireturn, 1) := by decide +kernel
theorem dX4_meet_0 : decode cX4_meet 0 = .ok (.aload_n 0, 1) := by decide +kernel
theorem dX4_meet_1 : decode cX4_meet 1 = .ok (.aload_n 0, 1) := by decide +kernel
theorem dX4_meet_2 : decode cX4_meet 2 = .ok (.iload_n 1, 1) := by decide +kernel
theorem dX4_meet_3 : decode cX4_meet 3 = .ok (.invokevirtual 84, 3) := by decide +kernel
theorem dX4_meet_6 : decode cX4_meet 6 = .ok (.ifCond .eq 11, 3) := by decide +kernel
theorem dX4_meet_9 : decode cX4_meet 9 = .ok (.aload_n 0, 1) := by decide +kernel
theorem dX4_meet_10 : decode cX4_meet 10 = .ok (.iload_n 2, 1) := by decide +kernel
theorem dX4_meet_11 : decode cX4_meet 11 = .ok (.invokevirtual 84, 3) := by decide +kernel
theorem dX4_meet_14 : decode cX4_meet 14 = .ok (.ifCond .ne 7, 3) := by decide +kernel
theorem dX4_meet_17 : decode cX4_meet 17 = .ok (.iconst 1, 1) := by decide +kernel
theorem dX4_meet_18 : decode cX4_meet 18 = .ok (.goto 13, 3) := by decide +kernel
theorem dX4_meet_21 : decode cX4_meet 21 = .ok (.iload_n 1, 1) := by decide +kernel
theorem dX4_meet_22 : decode cX4_meet 22 = .ok (.iload_n 2, 1) := by decide +kernel
theorem dX4_meet_23 : decode cX4_meet 23 = .ok (.if_icmp .ne 7, 3) := by decide +kernel
theorem dX4_meet_26 : decode cX4_meet 26 = .ok (.iconst 2, 1) := by decide +kernel
theorem dX4_meet_27 : decode cX4_meet 27 = .ok (.goto 4, 3) := by decide +kernel
theorem dX4_meet_30 : decode cX4_meet 30 = .ok (.iconst 0, 1) := by decide +kernel
theorem dX4_meet_31 : decode cX4_meet 31 = .ok (.putfield 63, 3) := by decide +kernel
theorem dX4_meet_34 : decode cX4_meet 34 = .ok (.aload_n 0, 1) := by decide +kernel
theorem dX4_meet_35 : decode cX4_meet 35 = .ok (.getfield 63, 3) := by decide +kernel
theorem dX4_meet_38 : decode cX4_meet 38 = .ok (.ifCond .gt 21, 3) := by decide +kernel
theorem dX4_meet_41 : decode cX4_meet 41 = .ok (.aload_n 0, 1) := by decide +kernel
theorem dX4_meet_42 : decode cX4_meet 42 = .ok (.getfield 13, 3) := by decide +kernel
theorem dX4_meet_45 : decode cX4_meet 45 = .ok (.iload_n 1, 1) := by decide +kernel
theorem dX4_meet_46 : decode cX4_meet 46 = .ok (.iaload, 1) := by decide +kernel
theorem dX4_meet_47 : decode cX4_meet 47 = .ok (.ifCond .lt 12, 3) := by decide +kernel
theorem dX4_meet_50 : decode cX4_meet 50 = .ok (.aload_n 0, 1) := by decide +kernel
theorem dX4_meet_51 : decode cX4_meet 51 = .ok (.getfield 13, 3) := by decide +kernel
theorem dX4_meet_54 : decode cX4_meet 54 = .ok (.iload_n 2, 1) := by decide +kernel
theorem dX4_meet_55 : decode cX4_meet 55 = .ok (.iaload, 1) := by decide +kernel
theorem dX4_meet_56 : decode cX4_meet 56 = .ok (.ifCond .ge 5, 3) := by decide +kernel
theorem dX4_meet_59 : decode cX4_meet 59 = .ok (.iconst 0, 1) := by decide +kernel
theorem dX4_meet_60 : decode cX4_meet 60 = .ok (.ireturn, 1) := by decide +kernel
theorem dX4_meet_61 : decode cX4_meet 61 = .ok (.aload_n 0, 1) := by decide +kernel
theorem dX4_meet_62 : decode cX4_meet 62 = .ok (.getfield 13, 3) := by decide +kernel
theorem dX4_meet_65 : decode cX4_meet 65 = .ok (.iload_n 1, 1) := by decide +kernel
theorem dX4_meet_66 : decode cX4_meet 66 = .ok (.iaload, 1) := by decide +kernel
theorem dX4_meet_67 : decode cX4_meet 67 = .ok (.bipush 8, 2) := by decide +kernel
theorem dX4_meet_69 : decode cX4_meet 69 = .ok (.idiv, 1) := by decide +kernel
theorem dX4_meet_70 : decode cX4_meet 70 = .ok (.istore_n 3, 1) := by decide +kernel
theorem dX4_meet_71 : decode cX4_meet 71 = .ok (.aload_n 0, 1) := by decide +kernel
theorem dX4_meet_72 : decode cX4_meet 72 = .ok (.getfield 13, 3) := by decide +kernel
theorem dX4_meet_75 : decode cX4_meet 75 = .ok (.iload_n 1, 1) := by decide +kernel
theorem dX4_meet_76 : decode cX4_meet 76 = .ok (.iaload, 1) := by decide +kernel
theorem dX4_meet_77 : decode cX4_meet 77 = .ok (.aload_n 0, 1) := by decide +kernel
theorem dX4_meet_78 : decode cX4_meet 78 = .ok (.getfield 7, 3) := by decide +kernel
theorem dX4_meet_81 : decode cX4_meet 81 = .ok (.iload_n 1, 1) := by decide +kernel
theorem dX4_meet_82 : decode cX4_meet 82 = .ok (.iaload, 1) := by decide +kernel
theorem dX4_meet_83 : decode cX4_meet 83 = .ok (.iadd, 1) := by decide +kernel
theorem dX4_meet_84 : decode cX4_meet 84 = .ok (.iconst 1, 1) := by decide +kernel
theorem dX4_meet_85 : decode cX4_meet 85 = .ok (.isub, 1) := by decide +kernel
theorem dX4_meet_86 : decode cX4_meet 86 = .ok (.bipush 8, 2) := by decide +kernel
theorem dX4_meet_88 : decode cX4_meet 88 = .ok (.idiv, 1) := by decide +kernel
theorem dX4_meet_89 : decode cX4_meet 89 = .ok (.istore 4, 2) := by decide +kernel
theorem dX4_meet_91 : decode cX4_meet 91 = .ok (.aload_n 0, 1) := by decide +kernel
theorem dX4_meet_92 : decode cX4_meet 92 = .ok (.getfield 13, 3) := by decide +kernel
theorem dX4_meet_95 : decode cX4_meet 95 = .ok (.iload_n 2, 1) := by decide +kernel
theorem dX4_meet_96 : decode cX4_meet 96 = .ok (.iaload, 1) := by decide +kernel
theorem dX4_meet_97 : decode cX4_meet 97 = .ok (.bipush 8, 2) := by decide +kernel
theorem dX4_meet_99 : decode cX4_meet 99 = .ok (.idiv, 1) := by decide +kernel
theorem dX4_meet_100 : decode cX4_meet 100 = .ok (.iload 4, 2) := by decide +kernel
theorem dX4_meet_102 : decode cX4_meet 102 = .ok (.if_icmp .gt 29, 3) := by decide +kernel
theorem dX4_meet_105 : decode cX4_meet 105 = .ok (.aload_n 0, 1) := by decide +kernel
theorem dX4_meet_106 : decode cX4_meet 106 = .ok (.getfield 13, 3) := by decide +kernel
theorem dX4_meet_109 : decode cX4_meet 109 = .ok (.iload_n 2, 1) := by decide +kernel
theorem dX4_meet_110 : decode cX4_meet 110 = .ok (.iaload, 1) := by decide +kernel
theorem dX4_meet_111 : decode cX4_meet 111 = .ok (.aload_n 0, 1) := by decide +kernel
theorem dX4_meet_112 : decode cX4_meet 112 = .ok (.getfield 7, 3) := by decide +kernel
theorem dX4_meet_115 : decode cX4_meet 115 = .ok (.iload_n 2, 1) := by decide +kernel
theorem dX4_meet_116 : decode cX4_meet 116 = .ok (.iaload, 1) := by decide +kernel
theorem dX4_meet_117 : decode cX4_meet 117 = .ok (.iadd, 1) := by decide +kernel
theorem dX4_meet_118 : decode cX4_meet 118 = .ok (.iconst 1, 1) := by decide +kernel
theorem dX4_meet_119 : decode cX4_meet 119 = .ok (.isub, 1) := by decide +kernel
theorem dX4_meet_120 : decode cX4_meet 120 = .ok (.bipush 8, 2) := by decide +kernel
theorem dX4_meet_122 : decode cX4_meet 122 = .ok (.idiv, 1) := by decide +kernel
theorem dX4_meet_123 : decode cX4_meet 123 = .ok (.iload_n 3, 1) := by decide +kernel
theorem dX4_meet_124 : decode cX4_meet 124 = .ok (.if_icmp .lt 7, 3) := by decide +kernel
theorem dX4_meet_127 : decode cX4_meet 127 = .ok (.iconst 1, 1) := by decide +kernel
theorem dX4_meet_128 : decode cX4_meet 128 = .ok (.goto 4, 3) := by decide +kernel
theorem dX4_meet_131 : decode cX4_meet 131 = .ok (.iconst 0, 1) := by decide +kernel
theorem dX4_meet_132 : decode cX4_meet 132 = .ok (.ireturn, 1) := by decide +kernel
theorem dX4_has_0 : decode cX4_has 0 = .ok (.aload_n 0, 1) := by decide +kernel
theorem dX4_has_1 : decode cX4_has 1 = .ok (.getfield 16, 3) := by decide +kernel
theorem dX4_has_4 : decode cX4_has 4 = .ok (.iload_n 1, 1) := by decide +kernel
theorem dX4_has_5 : decode cX4_has 5 = .ok (.iload_n 2, 1) := by decide +kernel
theorem dX4_has_6 : decode cX4_has 6 = .ok (.invokestatic 100, 3) := by decide +kernel
theorem dX4_has_9 : decode cX4_has 9 = .ok (.caload, 1) := by decide +kernel
theorem dX4_has_10 : decode cX4_has 10 = .ok (.bipush 45, 2) := by decide +kernel
theorem dX4_has_12 : decode cX4_has 12 = .ok (.if_icmp .eq 7, 3) := by decide +kernel
theorem dX4_has_15 : decode cX4_has 15 = .ok (.iconst 1, 1) := by decide +kernel
theorem dX4_has_16 : decode cX4_has 16 = .ok (.goto 4, 3) := by decide +kernel
theorem dX4_has_19 : decode cX4_has 19 = .ok (.iconst 0, 1) := by decide +kernel
theorem dX4_has_20 : decode cX4_has 20 = .ok (.ireturn, 1) := by decide +kernel
theorem dX4_oldestIn_0 : decode cX4_oldestIn 0 = .ok (.iconst (-1), 1) := by decide +kernel
theorem dX4_oldestIn_1 : decode cX4_oldestIn 1 = .ok (.istore_n 3, 1) := by decide +kernel
theorem dX4_oldestIn_2 : decode cX4_oldestIn 2 = .ok (.iload_n 2, 1) := by decide +kernel
theorem dX4_oldestIn_3 : decode cX4_oldestIn 3 = .ok (.istore 4, 2) := by decide +kernel
theorem dX4_oldestIn_5 : decode cX4_oldestIn 5 = .ok (.iload 4, 2) := by decide +kernel
theorem dX4_oldestIn_7 : decode cX4_oldestIn 7 = .ok (.bipush 64, 2) := by decide +kernel
theorem dX4_oldestIn_9 : decode cX4_oldestIn 9 = .ok (.if_icmp .ge 50, 3) := by decide +kernel
theorem dX4_oldestIn_12 : decode cX4_oldestIn 12 = .ok (.aload_n 0, 1) := by decide +kernel
theorem dX4_oldestIn_13 : decode cX4_oldestIn 13 = .ok (.iload_n 1, 1) := by decide +kernel
theorem dX4_oldestIn_14 : decode cX4_oldestIn 14 = .ok (.iload 4, 2) := by decide +kernel
theorem dX4_oldestIn_16 : decode cX4_oldestIn 16 = .ok (.invokevirtual 103, 3) := by decide +kernel
theorem dX4_oldestIn_19 : decode cX4_oldestIn 19 = .ok (.ifCond .eq 34, 3) := by decide +kernel
theorem dX4_oldestIn_22 : decode cX4_oldestIn 22 = .ok (.iload_n 3, 1) := by decide +kernel
theorem dX4_oldestIn_23 : decode cX4_oldestIn 23 = .ok (.ifCond .lt 27, 3) := by decide +kernel
theorem dX4_oldestIn_26 : decode cX4_oldestIn 26 = .ok (.aload_n 0, 1) := by decide +kernel
theorem dX4_oldestIn_27 : decode cX4_oldestIn 27 = .ok (.getfield 20, 3) := by decide +kernel
theorem dX4_oldestIn_30 : decode cX4_oldestIn 30 = .ok (.iload_n 1, 1) := by decide +kernel
theorem dX4_oldestIn_31 : decode cX4_oldestIn 31 = .ok (.iload 4, 2) := by decide +kernel
theorem dX4_oldestIn_33 : decode cX4_oldestIn 33 = .ok (.invokestatic 100, 3) := by decide +kernel
theorem dX4_oldestIn_36 : decode cX4_oldestIn 36 = .ok (.iaload, 1) := by decide +kernel
theorem dX4_oldestIn_37 : decode cX4_oldestIn 37 = .ok (.aload_n 0, 1) := by decide +kernel
theorem dX4_oldestIn_38 : decode cX4_oldestIn 38 = .ok (.getfield 20, 3) := by decide +kernel
theorem dX4_oldestIn_41 : decode cX4_oldestIn 41 = .ok (.iload_n 1, 1) := by decide +kernel
theorem dX4_oldestIn_42 : decode cX4_oldestIn 42 = .ok (.iload_n 3, 1) := by decide +kernel
theorem dX4_oldestIn_43 : decode cX4_oldestIn 43 = .ok (.invokestatic 100, 3) := by decide +kernel
theorem dX4_oldestIn_46 : decode cX4_oldestIn 46 = .ok (.iaload, 1) := by decide +kernel
theorem dX4_oldestIn_47 : decode cX4_oldestIn 47 = .ok (.if_icmp .ge 6, 3) := by decide +kernel
theorem dX4_oldestIn_50 : decode cX4_oldestIn 50 = .ok (.iload 4, 2) := by decide +kernel
theorem dX4_oldestIn_52 : decode cX4_oldestIn 52 = .ok (.istore_n 3, 1) := by decide +kernel
theorem dX4_oldestIn_53 : decode cX4_oldestIn 53 = .ok (.iinc 4 4, 3) := by decide +kernel
theorem dX4_oldestIn_56 : decode cX4_oldestIn 56 = .ok (.goto (-51), 3) := by decide +kernel
theorem dX4_oldestIn_59 : decode cX4_oldestIn 59 = .ok (.iload_n 3, 1) := by decide +kernel
theorem dX4_oldestIn_60 : decode cX4_oldestIn 60 = .ok (.ireturn, 1) := by decide +kernel
theorem dX4_manyIn_0 : decode cX4_manyIn 0 = .ok (.iconst 0, 1) := by decide +kernel
theorem dX4_manyIn_1 : decode cX4_manyIn 1 = .ok (.istore_n 3, 1) := by decide +kernel
theorem dX4_manyIn_2 : decode cX4_manyIn 2 = .ok (.iload_n 2, 1) := by decide +kernel
theorem dX4_manyIn_3 : decode cX4_manyIn 3 = .ok (.istore 4, 2) := by decide +kernel
theorem dX4_manyIn_5 : decode cX4_manyIn 5 = .ok (.iload 4, 2) := by decide +kernel
theorem dX4_manyIn_7 : decode cX4_manyIn 7 = .ok (.bipush 64, 2) := by decide +kernel
theorem dX4_manyIn_9 : decode cX4_manyIn 9 = .ok (.if_icmp .ge 27, 3) := by decide +kernel
theorem dX4_manyIn_12 : decode cX4_manyIn 12 = .ok (.iload_n 3, 1) := by decide +kernel
theorem dX4_manyIn_13 : decode cX4_manyIn 13 = .ok (.aload_n 0, 1) := by decide +kernel
theorem dX4_manyIn_14 : decode cX4_manyIn 14 = .ok (.iload_n 1, 1) := by decide +kernel
theorem dX4_manyIn_15 : decode cX4_manyIn 15 = .ok (.iload 4, 2) := by decide +kernel
theorem dX4_manyIn_17 : decode cX4_manyIn 17 = .ok (.invokevirtual 103, 3) := by decide +kernel
theorem dX4_manyIn_20 : decode cX4_manyIn 20 = .ok (.ifCond .eq 7, 3) := by decide +kernel
theorem dX4_manyIn_23 : decode cX4_manyIn 23 = .ok (.iconst 1, 1) := by decide +kernel
theorem dX4_manyIn_24 : decode cX4_manyIn 24 = .ok (.goto 4, 3) := by decide +kernel
theorem dX4_manyIn_27 : decode cX4_manyIn 27 = .ok (.iconst 0, 1) := by decide +kernel
theorem dX4_manyIn_28 : decode cX4_manyIn 28 = .ok (.iadd, 1) := by decide +kernel
theorem dX4_manyIn_29 : decode cX4_manyIn 29 = .ok (.istore_n 3, 1) := by decide +kernel
theorem dX4_manyIn_30 : decode cX4_manyIn 30 = .ok (.iinc 4 4, 3) := by decide +kernel
theorem dX4_manyIn_33 : decode cX4_manyIn 33 = .ok (.goto (-28), 3) := by decide +kernel
theorem dX4_manyIn_36 : decode cX4_manyIn 36 = .ok (.iload_n 3, 1) := by decide +kernel
theorem dX4_manyIn_37 : decode cX4_manyIn 37 = .ok (.ireturn, 1) := by decide +kernel
theorem dX4_leaves_0 : decode cX4_leaves 0 = .ok (.iload_n 1, 1) := by decide +kernel
theorem dX4_leaves_1 : decode cX4_leaves 1 = .ok (.iload_n 2, 1) := by decide +kernel
theorem dX4_leaves_2 : decode cX4_leaves 2 = .ok (.invokestatic 100, 3) := by decide +kernel
theorem dX4_leaves_5 : decode cX4_leaves 5 = .ok (.istore 4, 2) := by decide +kernel
theorem dX4_leaves_7 : decode cX4_leaves 7 = .ok (.aload_n 0, 1) := by decide +kernel
theorem dX4_leaves_8 : decode cX4_leaves 8 = .ok (.getfield 16, 3) := by decide +kernel
theorem dX4_leaves_11 : decode cX4_leaves 11 = .ok (.iload 4, 2) := by decide +kernel
theorem dX4_leaves_13 : decode cX4_leaves 13 = .ok (.bipush 45, 2) := by decide +kernel
theorem dX4_leaves_15 : decode cX4_leaves 15 = .ok (.castore, 1) := by decide +kernel
theorem dX4_leaves_16 : decode cX4_leaves 16 = .ok (.aload_n 0, 1) := by decide +kernel
theorem dX4_leaves_17 : decode cX4_leaves 17 = .ok (.getfield 23, 3) := by decide +kernel
theorem dX4_leaves_20 : decode cX4_leaves 20 = .ok (.iload 4, 2) := by decide +kernel
theorem dX4_leaves_22 : decode cX4_leaves 22 = .ok (.iload_n 3, 1) := by decide +kernel
theorem dX4_leaves_23 : decode cX4_leaves 23 = .ok (.iastore, 1) := by decide +kernel
theorem dX4_leaves_24 : decode cX4_leaves 24 = .ok (.aload_n 0, 1) := by decide +kernel
theorem dX4_leaves_25 : decode cX4_leaves 25 = .ok (.getfield 26, 3) := by decide +kernel
theorem dX4_leaves_28 : decode cX4_leaves 28 = .ok (.iload 4, 2) := by decide +kernel
theorem dX4_leaves_30 : decode cX4_leaves 30 = .ok (.baload, 1) := by decide +kernel
theorem dX4_leaves_31 : decode cX4_leaves 31 = .ok (.ifCond .eq 13, 3) := by decide +kernel
theorem dX4_leaves_34 : decode cX4_leaves 34 = .ok (.aload_n 0, 1) := by decide +kernel
theorem dX4_leaves_35 : decode cX4_leaves 35 = .ok (.getfield 48, 3) := by decide +kernel
theorem dX4_leaves_38 : decode cX4_leaves 38 = .ok (.iload_n 1, 1) := by decide +kernel
theorem dX4_leaves_39 : decode cX4_leaves 39 = .ok (.dup2, 1) := by decide +kernel
theorem dX4_leaves_40 : decode cX4_leaves 40 = .ok (.iaload, 1) := by decide +kernel
theorem dX4_leaves_41 : decode cX4_leaves 41 = .ok (.iconst 1, 1) := by decide +kernel
theorem dX4_leaves_42 : decode cX4_leaves 42 = .ok (.iadd, 1) := by decide +kernel
theorem dX4_leaves_43 : decode cX4_leaves 43 = .ok (.iastore, 1) := by decide +kernel
theorem dX4_leaves_44 : decode cX4_leaves 44 = .ok (.aload_n 0, 1) := by decide +kernel
theorem dX4_leaves_45 : decode cX4_leaves 45 = .ok (.getfield 26, 3) := by decide +kernel
theorem dX4_leaves_48 : decode cX4_leaves 48 = .ok (.iload 4, 2) := by decide +kernel
theorem dX4_leaves_50 : decode cX4_leaves 50 = .ok (.iconst 0, 1) := by decide +kernel
theorem dX4_leaves_51 : decode cX4_leaves 51 = .ok (.bastore, 1) := by decide +kernel
theorem dX4_leaves_52 : decode cX4_leaves 52 = .ok (.return_, 1) := by decide +kernel
theorem dX4_comes_0 : decode cX4_comes 0 = .ok (.iconst 0, 1) := by decide +kernel
theorem dX4_comes_1 : decode cX4_comes 1 = .ok (.istore 4, 2) := by decide +kernel
theorem dX4_comes_3 : decode cX4_comes 3 = .ok (.aload_n 0, 1) := by decide +kernel
theorem dX4_comes_4 : decode cX4_comes 4 = .ok (.iload_n 1, 1) := by decide +kernel
theorem dX4_comes_5 : decode cX4_comes 5 = .ok (.iload_n 2, 1) := by decide +kernel
theorem dX4_comes_6 : decode cX4_comes 6 = .ok (.iconst 4, 1) := by decide +kernel
theorem dX4_comes_7 : decode cX4_comes 7 = .ok (.irem, 1) := by decide +kernel
theorem dX4_comes_8 : decode cX4_comes 8 = .ok (.invokevirtual 106, 3) := by decide +kernel
theorem dX4_comes_11 : decode cX4_comes 11 = .ok (.iconst 2, 1) := by decide +kernel
theorem dX4_comes_12 : decode cX4_comes 12 = .ok (.if_icmp .ne 45, 3) := by decide +kernel
theorem dX4_comes_15 : decode cX4_comes 15 = .ok (.aload_n 0, 1) := by decide +kernel
theorem dX4_comes_16 : decode cX4_comes 16 = .ok (.iload_n 1, 1) := by decide +kernel
theorem dX4_comes_17 : decode cX4_comes 17 = .ok (.iload_n 2, 1) := by decide +kernel
theorem dX4_comes_18 : decode cX4_comes 18 = .ok (.iconst 4, 1) := by decide +kernel
theorem dX4_comes_19 : decode cX4_comes 19 = .ok (.irem, 1) := by decide +kernel
theorem dX4_comes_20 : decode cX4_comes 20 = .ok (.invokevirtual 109, 3) := by decide +kernel
theorem dX4_comes_23 : decode cX4_comes 23 = .ok (.istore 5, 2) := by decide +kernel
theorem dX4_comes_25 : decode cX4_comes 25 = .ok (.aload_n 0, 1) := by decide +kernel
theorem dX4_comes_26 : decode cX4_comes 26 = .ok (.getfield 16, 3) := by decide +kernel
theorem dX4_comes_29 : decode cX4_comes 29 = .ok (.iload_n 1, 1) := by decide +kernel
theorem dX4_comes_30 : decode cX4_comes 30 = .ok (.iload 5, 2) := by decide +kernel
theorem dX4_comes_32 : decode cX4_comes 32 = .ok (.invokestatic 100, 3) := by decide +kernel
theorem dX4_comes_35 : decode cX4_comes 35 = .ok (.caload, 1) := by decide +kernel
theorem dX4_comes_36 : decode cX4_comes 36 = .ok (.bipush 109, 2) := by decide +kernel
theorem dX4_comes_38 : decode cX4_comes 38 = .ok (.if_icmp .ne 7, 3) := by decide +kernel
theorem dX4_comes_41 : decode cX4_comes 41 = .ok (.iconst 1, 1) := by decide +kernel
theorem dX4_comes_42 : decode cX4_comes 42 = .ok (.goto 4, 3) := by decide +kernel
theorem dX4_comes_45 : decode cX4_comes 45 = .ok (.iconst 0, 1) := by decide +kernel
theorem dX4_comes_46 : decode cX4_comes 46 = .ok (.istore 4, 2) := by decide +kernel
theorem dX4_comes_48 : decode cX4_comes 48 = .ok (.aload_n 0, 1) := by decide +kernel
theorem dX4_comes_49 : decode cX4_comes 49 = .ok (.iload_n 1, 1) := by decide +kernel
theorem dX4_comes_50 : decode cX4_comes 50 = .ok (.iload 5, 2) := by decide +kernel
theorem dX4_comes_52 : decode cX4_comes 52 = .ok (.bipush (-2), 2) := by decide +kernel
theorem dX4_comes_54 : decode cX4_comes 54 = .ok (.invokevirtual 112, 3) := by decide +kernel
theorem dX4_comes_57 : decode cX4_comes 57 = .ok (.aload_n 0, 1) := by decide +kernel
theorem dX4_comes_58 : decode cX4_comes 58 = .ok (.getfield 16, 3) := by decide +kernel
theorem dX4_comes_61 : decode cX4_comes 61 = .ok (.iload_n 1, 1) := by decide +kernel
theorem dX4_comes_62 : decode cX4_comes 62 = .ok (.iload_n 2, 1) := by decide +kernel
theorem dX4_comes_63 : decode cX4_comes 63 = .ok (.invokestatic 100, 3) := by decide +kernel
theorem dX4_comes_66 : decode cX4_comes 66 = .ok (.iload_n 3, 1) := by decide +kernel
theorem dX4_comes_67 : decode cX4_comes 67 = .ok (.castore, 1) := by decide +kernel
theorem dX4_comes_68 : decode cX4_comes 68 = .ok (.aload_n 0, 1) := by decide +kernel
theorem dX4_comes_69 : decode cX4_comes 69 = .ok (.dup, 1) := by decide +kernel
theorem dX4_comes_70 : decode cX4_comes 70 = .ok (.getfield 73, 3) := by decide +kernel
theorem dX4_comes_73 : decode cX4_comes 73 = .ok (.iconst 1, 1) := by decide +kernel
theorem dX4_comes_74 : decode cX4_comes 74 = .ok (.iadd, 1) := by decide +kernel
theorem dX4_comes_75 : decode cX4_comes 75 = .ok (.putfield 73, 3) := by decide +kernel
theorem dX4_comes_78 : decode cX4_comes 78 = .ok (.aload_n 0, 1) := by decide +kernel
theorem dX4_comes_79 : decode cX4_comes 79 = .ok (.getfield 20, 3) := by decide +kernel
theorem dX4_comes_82 : decode cX4_comes 82 = .ok (.iload_n 1, 1) := by decide +kernel
theorem dX4_comes_83 : decode cX4_comes 83 = .ok (.iload_n 2, 1) := by decide +kernel
theorem dX4_comes_84 : decode cX4_comes 84 = .ok (.invokestatic 100, 3) := by decide +kernel
theorem dX4_comes_87 : decode cX4_comes 87 = .ok (.aload_n 0, 1) := by decide +kernel
theorem dX4_comes_88 : decode cX4_comes 88 = .ok (.getfield 73, 3) := by decide +kernel
theorem dX4_comes_91 : decode cX4_comes 91 = .ok (.iastore, 1) := by decide +kernel
theorem dX4_comes_92 : decode cX4_comes 92 = .ok (.iload 4, 2) := by decide +kernel
theorem dX4_comes_94 : decode cX4_comes 94 = .ok (.ireturn, 1) := by decide +kernel
theorem dX4_othersWith_0 : decode cX4_othersWith 0 = .ok (.iconst 0, 1) := by decide +kernel
theorem dX4_othersWith_1 : decode cX4_othersWith 1 = .ok (.istore_n 3, 1) := by decide +kernel
theorem dX4_othersWith_2 : decode cX4_othersWith 2 = .ok (.iconst 0, 1) := by decide +kernel
theorem dX4_othersWith_3 : decode cX4_othersWith 3 = .ok (.istore 4, 2) := by decide +kernel
theorem dX4_othersWith_5 : decode cX4_othersWith 5 = .ok (.iload 4, 2) := by decide +kernel
theorem dX4_othersWith_7 : decode cX4_othersWith 7 = .ok (.iconst 4, 1) := by decide +kernel
theorem dX4_othersWith_8 : decode cX4_othersWith 8 = .ok (.if_icmp .ge 33, 3) := by decide +kernel
theorem dX4_othersWith_11 : decode cX4_othersWith 11 = .ok (.iload_n 3, 1) := by decide +kernel
theorem dX4_othersWith_12 : decode cX4_othersWith 12 = .ok (.iload 4, 2) := by decide +kernel
theorem dX4_othersWith_14 : decode cX4_othersWith 14 = .ok (.iload_n 1, 1) := by decide +kernel
theorem dX4_othersWith_15 : decode cX4_othersWith 15 = .ok (.if_icmp .eq 17, 3) := by decide +kernel
theorem dX4_othersWith_18 : decode cX4_othersWith 18 = .ok (.aload_n 0, 1) := by decide +kernel
theorem dX4_othersWith_19 : decode cX4_othersWith 19 = .ok (.iload 4, 2) := by decide +kernel
theorem dX4_othersWith_21 : decode cX4_othersWith 21 = .ok (.iload_n 2, 1) := by decide +kernel
theorem dX4_othersWith_22 : decode cX4_othersWith 22 = .ok (.invokevirtual 103, 3) := by decide +kernel
theorem dX4_othersWith_25 : decode cX4_othersWith 25 = .ok (.ifCond .eq 7, 3) := by decide +kernel
theorem dX4_othersWith_28 : decode cX4_othersWith 28 = .ok (.iconst 1, 1) := by decide +kernel
theorem dX4_othersWith_29 : decode cX4_othersWith 29 = .ok (.goto 4, 3) := by decide +kernel
theorem dX4_othersWith_32 : decode cX4_othersWith 32 = .ok (.iconst 0, 1) := by decide +kernel
theorem dX4_othersWith_33 : decode cX4_othersWith 33 = .ok (.iadd, 1) := by decide +kernel
theorem dX4_othersWith_34 : decode cX4_othersWith 34 = .ok (.istore_n 3, 1) := by decide +kernel
theorem dX4_othersWith_35 : decode cX4_othersWith 35 = .ok (.iinc 4 1, 3) := by decide +kernel
theorem dX4_othersWith_38 : decode cX4_othersWith 38 = .ok (.goto (-33), 3) := by decide +kernel
theorem dX4_othersWith_41 : decode cX4_othersWith 41 = .ok (.iload_n 3, 1) := by decide +kernel
theorem dX4_othersWith_42 : decode cX4_othersWith 42 = .ok (.ireturn, 1) := by decide +kernel
theorem dX4_ownerOf_0 : decode cX4_ownerOf 0 = .ok (.iconst 0, 1) := by decide +kernel
theorem dX4_ownerOf_1 : decode cX4_ownerOf 1 = .ok (.istore_n 2, 1) := by decide +kernel
theorem dX4_ownerOf_2 : decode cX4_ownerOf 2 = .ok (.iload_n 2, 1) := by decide +kernel
theorem dX4_ownerOf_3 : decode cX4_ownerOf 3 = .ok (.iconst 4, 1) := by decide +kernel
theorem dX4_ownerOf_4 : decode cX4_ownerOf 4 = .ok (.if_icmp .ge 41, 3) := by decide +kernel
theorem dX4_ownerOf_7 : decode cX4_ownerOf 7 = .ok (.aload_n 0, 1) := by decide +kernel
theorem dX4_ownerOf_8 : decode cX4_ownerOf 8 = .ok (.getfield 16, 3) := by decide +kernel
theorem dX4_ownerOf_11 : decode cX4_ownerOf 11 = .ok (.iload_n 2, 1) := by decide +kernel
theorem dX4_ownerOf_12 : decode cX4_ownerOf 12 = .ok (.iload_n 1, 1) := by decide +kernel
theorem dX4_ownerOf_13 : decode cX4_ownerOf 13 = .ok (.invokestatic 100, 3) := by decide +kernel
theorem dX4_ownerOf_16 : decode cX4_ownerOf 16 = .ok (.caload, 1) := by decide +kernel
theorem dX4_ownerOf_17 : decode cX4_ownerOf 17 = .ok (.bipush 109, 2) := by decide +kernel
theorem dX4_ownerOf_19 : decode cX4_ownerOf 19 = .ok (.if_icmp .eq 18, 3) := by decide +kernel
theorem dX4_ownerOf_22 : decode cX4_ownerOf 22 = .ok (.aload_n 0, 1) := by decide +kernel
theorem dX4_ownerOf_23 : decode cX4_ownerOf 23 = .ok (.getfield 16, 3) := by decide +kernel
theorem dX4_ownerOf_26 : decode cX4_ownerOf 26 = .ok (.iload_n 2, 1) := by decide +kernel
theorem dX4_ownerOf_27 : decode cX4_ownerOf 27 = .ok (.iload_n 1, 1) := by decide +kernel
theorem dX4_ownerOf_28 : decode cX4_ownerOf 28 = .ok (.invokestatic 100, 3) := by decide +kernel
theorem dX4_ownerOf_31 : decode cX4_ownerOf 31 = .ok (.caload, 1) := by decide +kernel
theorem dX4_ownerOf_32 : decode cX4_ownerOf 32 = .ok (.bipush 101, 2) := by decide +kernel
theorem dX4_ownerOf_34 : decode cX4_ownerOf 34 = .ok (.if_icmp .ne 5, 3) := by decide +kernel
theorem dX4_ownerOf_37 : decode cX4_ownerOf 37 = .ok (.iload_n 2, 1) := by decide +kernel
theorem dX4_ownerOf_38 : decode cX4_ownerOf 38 = .ok (.ireturn, 1) := by decide +kernel
theorem dX4_ownerOf_39 : decode cX4_ownerOf 39 = .ok (.iinc 2 1, 3) := by decide +kernel
theorem dX4_ownerOf_42 : decode cX4_ownerOf 42 = .ok (.goto (-40), 3) := by decide +kernel
theorem dX4_ownerOf_45 : decode cX4_ownerOf 45 = .ok (.iconst (-1), 1) := by decide +kernel
theorem dX4_ownerOf_46 : decode cX4_ownerOf 46 = .ok (.ireturn, 1) := by decide +kernel
theorem dX4_causeFor_0 : decode cX4_causeFor 0 = .ok (.aload_n 0, 1) := by decide +kernel
theorem dX4_causeFor_1 : decode cX4_causeFor 1 = .ok (.getfield 23, 3) := by decide +kernel
theorem dX4_causeFor_4 : decode cX4_causeFor 4 = .ok (.iload_n 1, 1) := by decide +kernel
theorem dX4_causeFor_5 : decode cX4_causeFor 5 = .ok (.iload_n 2, 1) := by decide +kernel
theorem dX4_causeFor_6 : decode cX4_causeFor 6 = .ok (.invokestatic 100, 3) := by decide +kernel
theorem dX4_causeFor_9 : decode cX4_causeFor 9 = .ok (.iaload, 1) := by decide +kernel
theorem dX4_causeFor_10 : decode cX4_causeFor 10 = .ok (.istore 4, 2) := by decide +kernel
theorem dX4_causeFor_12 : decode cX4_causeFor 12 = .ok (.iload 4, 2) := by decide +kernel
theorem dX4_causeFor_14 : decode cX4_causeFor 14 = .ok (.iconst (-1), 1) := by decide +kernel
theorem dX4_causeFor_15 : decode cX4_causeFor 15 = .ok (.if_icmp .ne 6, 3) := by decide +kernel
theorem dX4_causeFor_18 : decode cX4_causeFor 18 = .ok (.bipush 99, 2) := by decide +kernel
theorem dX4_causeFor_20 : decode cX4_causeFor 20 = .ok (.ireturn, 1) := by decide +kernel
theorem dX4_causeFor_21 : decode cX4_causeFor 21 = .ok (.iload 4, 2) := by decide +kernel
theorem dX4_causeFor_23 : decode cX4_causeFor 23 = .ok (.bipush (-2), 2) := by decide +kernel
theorem dX4_causeFor_25 : decode cX4_causeFor 25 = .ok (.if_icmp .ne 6, 3) := by decide +kernel
theorem dX4_causeFor_28 : decode cX4_causeFor 28 = .ok (.bipush 101, 2) := by decide +kernel
theorem dX4_causeFor_30 : decode cX4_causeFor 30 = .ok (.ireturn, 1) := by decide +kernel
theorem dX4_causeFor_31 : decode cX4_causeFor 31 = .ok (.iload 4, 2) := by decide +kernel
theorem dX4_causeFor_33 : decode cX4_causeFor 33 = .ok (.iload_n 3, 1) := by decide +kernel
theorem dX4_causeFor_34 : decode cX4_causeFor 34 = .ok (.if_icmp .ne 8, 3) := by decide +kernel
theorem dX4_causeFor_37 : decode cX4_causeFor 37 = .ok (.bipush 116, 2) := by decide +kernel
theorem dX4_causeFor_39 : decode cX4_causeFor 39 = .ok (.goto 5, 3) := by decide +kernel
theorem dX4_causeFor_42 : decode cX4_causeFor 42 = .ok (.bipush 102, 2) := by decide +kernel
theorem dX4_causeFor_44 : decode cX4_causeFor 44 = .ok (.ireturn, 1) := by decide +kernel
theorem dX4_longer_0 : decode cX4_longer 0 = .ok (.iconst 2, 1) := by decide +kernel
theorem dX4_longer_1 : decode cX4_longer 1 = .ok (.aload_n 0, 1) := by decide +kernel
theorem dX4_longer_2 : decode cX4_longer 2 = .ok (.arraylength, 1) := by decide +kernel
theorem dX4_longer_3 : decode cX4_longer 3 = .ok (.imul, 1) := by decide +kernel
theorem dX4_longer_4 : decode cX4_longer 4 = .ok (.newarray .int, 2) := by decide +kernel
theorem dX4_longer_6 : decode cX4_longer 6 = .ok (.astore_n 1, 1) := by decide +kernel
theorem dX4_longer_7 : decode cX4_longer 7 = .ok (.iconst 0, 1) := by decide +kernel
theorem dX4_longer_8 : decode cX4_longer 8 = .ok (.istore_n 2, 1) := by decide +kernel
theorem dX4_longer_9 : decode cX4_longer 9 = .ok (.iload_n 2, 1) := by decide +kernel
theorem dX4_longer_10 : decode cX4_longer 10 = .ok (.aload_n 0, 1) := by decide +kernel
theorem dX4_longer_11 : decode cX4_longer 11 = .ok (.arraylength, 1) := by decide +kernel
theorem dX4_longer_12 : decode cX4_longer 12 = .ok (.if_icmp .ge 15, 3) := by decide +kernel
theorem dX4_longer_15 : decode cX4_longer 15 = .ok (.aload_n 1, 1) := by decide +kernel
theorem dX4_longer_16 : decode cX4_longer 16 = .ok (.iload_n 2, 1) := by decide +kernel
theorem dX4_longer_17 : decode cX4_longer 17 = .ok (.aload_n 0, 1) := by decide +kernel
theorem dX4_longer_18 : decode cX4_longer 18 = .ok (.iload_n 2, 1) := by decide +kernel
theorem dX4_longer_19 : decode cX4_longer 19 = .ok (.iaload, 1) := by decide +kernel
theorem dX4_longer_20 : decode cX4_longer 20 = .ok (.iastore, 1) := by decide +kernel
theorem dX4_longer_21 : decode cX4_longer 21 = .ok (.iinc 2 1, 3) := by decide +kernel
theorem dX4_longer_24 : decode cX4_longer 24 = .ok (.goto (-15), 3) := by decide +kernel
theorem dX4_longer_27 : decode cX4_longer 27 = .ok (.aload_n 1, 1) := by decide +kernel
theorem dX4_longer_28 : decode cX4_longer 28 = .ok (.areturn, 1) := by decide +kernel
theorem dX4_notes_0 : decode cX4_notes 0 = .ok (.aload_n 0, 1) := by decide +kernel
theorem dX4_notes_1 : decode cX4_notes 1 = .ok (.getfield 70, 3) := by decide +kernel
theorem dX4_notes_4 : decode cX4_notes 4 = .ok (.aload_n 0, 1) := by decide +kernel
theorem dX4_notes_5 : decode cX4_notes 5 = .ok (.getfield 51, 3) := by decide +kernel
theorem dX4_notes_8 : decode cX4_notes 8 = .ok (.arraylength, 1) := by decide +kernel
theorem dX4_notes_9 : decode cX4_notes 9 = .ok (.if_icmp .ne 84, 3) := by decide +kernel
theorem dX4_notes_12 : decode cX4_notes 12 = .ok (.aload_n 0, 1) := by decide +kernel
theorem dX4_notes_13 : decode cX4_notes 13 = .ok (.aload_n 0, 1) := by decide +kernel
theorem dX4_notes_14 : decode cX4_notes 14 = .ok (.getfield 51, 3) := by decide +kernel
theorem dX4_notes_17 : decode cX4_notes 17 = .ok (.invokestatic 116, 3) := by decide +kernel
theorem dX4_notes_20 : decode cX4_notes 20 = .ok (.putfield 51, 3) := by decide +kernel
theorem dX4_notes_23 : decode cX4_notes 23 = .ok (.aload_n 0, 1) := by decide +kernel
theorem dX4_notes_24 : decode cX4_notes 24 = .ok (.aload_n 0, 1) := by decide +kernel
theorem dX4_notes_25 : decode cX4_notes 25 = .ok (.getfield 54, 3) := by decide +kernel
theorem dX4_notes_28 : decode cX4_notes 28 = .ok (.invokestatic 116, 3) := by decide +kernel
theorem dX4_notes_31 : decode cX4_notes 31 = .ok (.putfield 54, 3) := by decide +kernel
theorem dX4_notes_34 : decode cX4_notes 34 = .ok (.aload_n 0, 1) := by decide +kernel
theorem dX4_notes_35 : decode cX4_notes 35 = .ok (.aload_n 0, 1) := by decide +kernel
theorem dX4_notes_36 : decode cX4_notes 36 = .ok (.getfield 57, 3) := by decide +kernel
theorem dX4_notes_39 : decode cX4_notes 39 = .ok (.invokestatic 116, 3) := by decide +kernel
theorem dX4_notes_42 : decode cX4_notes 42 = .ok (.putfield 57, 3) := by decide +kernel
theorem dX4_notes_45 : decode cX4_notes 45 = .ok (.iconst 2, 1) := by decide +kernel
theorem dX4_notes_46 : decode cX4_notes 46 = .ok (.aload_n 0, 1) := by decide +kernel
theorem dX4_notes_47 : decode cX4_notes 47 = .ok (.getfield 60, 3) := by decide +kernel
theorem dX4_notes_50 : decode cX4_notes 50 = .ok (.arraylength, 1) := by decide +kernel
theorem dX4_notes_51 : decode cX4_notes 51 = .ok (.imul, 1) := by decide +kernel
theorem dX4_notes_52 : decode cX4_notes 52 = .ok (.newarray .char, 2) := by decide +kernel
theorem dX4_notes_54 : decode cX4_notes 54 = .ok (.astore 5, 2) := by decide +kernel
theorem dX4_notes_56 : decode cX4_notes 56 = .ok (.iconst 0, 1) := by decide +kernel
theorem dX4_notes_57 : decode cX4_notes 57 = .ok (.istore 6, 2) := by decide +kernel
theorem dX4_notes_59 : decode cX4_notes 59 = .ok (.iload 6, 2) := by decide +kernel
theorem dX4_notes_61 : decode cX4_notes 61 = .ok (.aload_n 0, 1) := by decide +kernel
theorem dX4_notes_62 : decode cX4_notes 62 = .ok (.getfield 60, 3) := by decide +kernel
theorem dX4_notes_65 : decode cX4_notes 65 = .ok (.arraylength, 1) := by decide +kernel
theorem dX4_notes_66 : decode cX4_notes 66 = .ok (.if_icmp .ge 21, 3) := by decide +kernel
theorem dX4_notes_69 : decode cX4_notes 69 = .ok (.aload 5, 2) := by decide +kernel
theorem dX4_notes_71 : decode cX4_notes 71 = .ok (.iload 6, 2) := by decide +kernel
theorem dX4_notes_73 : decode cX4_notes 73 = .ok (.aload_n 0, 1) := by decide +kernel
theorem dX4_notes_74 : decode cX4_notes 74 = .ok (.getfield 60, 3) := by decide +kernel
theorem dX4_notes_77 : decode cX4_notes 77 = .ok (.iload 6, 2) := by decide +kernel
theorem dX4_notes_79 : decode cX4_notes 79 = .ok (.caload, 1) := by decide +kernel
theorem dX4_notes_80 : decode cX4_notes 80 = .ok (.castore, 1) := by decide +kernel
theorem dX4_notes_81 : decode cX4_notes 81 = .ok (.iinc 6 1, 3) := by decide +kernel
theorem dX4_notes_84 : decode cX4_notes 84 = .ok (.goto (-25), 3) := by decide +kernel
theorem dX4_notes_87 : decode cX4_notes 87 = .ok (.aload_n 0, 1) := by decide +kernel
theorem dX4_notes_88 : decode cX4_notes 88 = .ok (.aload 5, 2) := by decide +kernel
theorem dX4_notes_90 : decode cX4_notes 90 = .ok (.putfield 60, 3) := by decide +kernel
theorem dX4_notes_93 : decode cX4_notes 93 = .ok (.aload_n 0, 1) := by decide +kernel
theorem dX4_notes_94 : decode cX4_notes 94 = .ok (.getfield 51, 3) := by decide +kernel
theorem dX4_notes_97 : decode cX4_notes 97 = .ok (.aload_n 0, 1) := by decide +kernel
theorem dX4_notes_98 : decode cX4_notes 98 = .ok (.getfield 70, 3) := by decide +kernel
theorem dX4_notes_101 : decode cX4_notes 101 = .ok (.iload_n 3, 1) := by decide +kernel
theorem dX4_notes_102 : decode cX4_notes 102 = .ok (.iastore, 1) := by decide +kernel
theorem dX4_notes_103 : decode cX4_notes 103 = .ok (.aload_n 0, 1) := by decide +kernel
theorem dX4_notes_104 : decode cX4_notes 104 = .ok (.getfield 54, 3) := by decide +kernel
theorem dX4_notes_107 : decode cX4_notes 107 = .ok (.aload_n 0, 1) := by decide +kernel
end
section
theorem dX4_notes_108 : decode cX4_notes 108 = .ok (.getfield 70, 3) := by decide +kernel
theorem dX4_notes_111 : decode cX4_notes 111 = .ok (.iload_n 2, 1) := by decide +kernel
theorem dX4_notes_112 : decode cX4_notes 112 = .ok (.iastore, 1) := by decide +kernel
theorem dX4_notes_113 : decode cX4_notes 113 = .ok (.aload_n 0, 1) := by decide +kernel
theorem dX4_notes_114 : decode cX4_notes 114 = .ok (.getfield 57, 3) := by decide +kernel
theorem dX4_notes_117 : decode cX4_notes 117 = .ok (.aload_n 0, 1) := by decide +kernel
theorem dX4_notes_118 : decode cX4_notes 118 = .ok (.getfield 70, 3) := by decide +kernel
theorem dX4_notes_121 : decode cX4_notes 121 = .ok (.iload_n 1, 1) := by decide +kernel
theorem dX4_notes_122 : decode cX4_notes 122 = .ok (.iastore, 1) := by decide +kernel
theorem dX4_notes_123 : decode cX4_notes 123 = .ok (.aload_n 0, 1) := by decide +kernel
theorem dX4_notes_124 : decode cX4_notes 124 = .ok (.getfield 60, 3) := by decide +kernel
theorem dX4_notes_127 : decode cX4_notes 127 = .ok (.aload_n 0, 1) := by decide +kernel
theorem dX4_notes_128 : decode cX4_notes 128 = .ok (.getfield 70, 3) := by decide +kernel
theorem dX4_notes_131 : decode cX4_notes 131 = .ok (.iload 4, 2) := by decide +kernel
theorem dX4_notes_133 : decode cX4_notes 133 = .ok (.castore, 1) := by decide +kernel
theorem dX4_notes_134 : decode cX4_notes 134 = .ok (.aload_n 0, 1) := by decide +kernel
theorem dX4_notes_135 : decode cX4_notes 135 = .ok (.dup, 1) := by decide +kernel
theorem dX4_notes_136 : decode cX4_notes 136 = .ok (.getfield 70, 3) := by decide +kernel
theorem dX4_notes_139 : decode cX4_notes 139 = .ok (.iconst 1, 1) := by decide +kernel
theorem dX4_notes_140 : decode cX4_notes 140 = .ok (.iadd, 1) := by decide +kernel
theorem dX4_notes_141 : decode cX4_notes 141 = .ok (.putfield 70, 3) := by decide +kernel
theorem dX4_notes_144 : decode cX4_notes 144 = .ok (.iload_n 3, 1) := by decide +kernel
theorem dX4_notes_145 : decode cX4_notes 145 = .ok (.ireturn, 1) := by decide +kernel
theorem dX4_uses_0 : decode cX4_uses 0 = .ok (.aload_n 0, 1) := by decide +kernel
theorem dX4_uses_1 : decode cX4_uses 1 = .ok (.dup, 1) := by decide +kernel
theorem dX4_uses_2 : decode cX4_uses 2 = .ok (.getfield 73, 3) := by decide +kernel
theorem dX4_uses_5 : decode cX4_uses 5 = .ok (.iconst 1, 1) := by decide +kernel
theorem dX4_uses_6 : decode cX4_uses 6 = .ok (.iadd, 1) := by decide +kernel
theorem dX4_uses_7 : decode cX4_uses 7 = .ok (.putfield 73, 3) := by decide +kernel
theorem dX4_uses_10 : decode cX4_uses 10 = .ok (.aload_n 0, 1) := by decide +kernel
theorem dX4_uses_11 : decode cX4_uses 11 = .ok (.getfield 20, 3) := by decide +kernel
theorem dX4_uses_14 : decode cX4_uses 14 = .ok (.iload_n 1, 1) := by decide +kernel
theorem dX4_uses_15 : decode cX4_uses 15 = .ok (.iload_n 2, 1) := by decide +kernel
theorem dX4_uses_16 : decode cX4_uses 16 = .ok (.invokestatic 100, 3) := by decide +kernel
theorem dX4_uses_19 : decode cX4_uses 19 = .ok (.aload_n 0, 1) := by decide +kernel
theorem dX4_uses_20 : decode cX4_uses 20 = .ok (.getfield 73, 3) := by decide +kernel
theorem dX4_uses_23 : decode cX4_uses 23 = .ok (.iastore, 1) := by decide +kernel
theorem dX4_uses_24 : decode cX4_uses 24 = .ok (.aload_n 0, 1) := by decide +kernel
theorem dX4_uses_25 : decode cX4_uses 25 = .ok (.getfield 26, 3) := by decide +kernel
theorem dX4_uses_28 : decode cX4_uses 28 = .ok (.iload_n 1, 1) := by decide +kernel
theorem dX4_uses_29 : decode cX4_uses 29 = .ok (.iload_n 2, 1) := by decide +kernel
theorem dX4_uses_30 : decode cX4_uses 30 = .ok (.invokestatic 100, 3) := by decide +kernel
theorem dX4_uses_33 : decode cX4_uses 33 = .ok (.baload, 1) := by decide +kernel
theorem dX4_uses_34 : decode cX4_uses 34 = .ok (.ifCond .eq 13, 3) := by decide +kernel
theorem dX4_uses_37 : decode cX4_uses 37 = .ok (.aload_n 0, 1) := by decide +kernel
theorem dX4_uses_38 : decode cX4_uses 38 = .ok (.getfield 45, 3) := by decide +kernel
theorem dX4_uses_41 : decode cX4_uses 41 = .ok (.iload_n 1, 1) := by decide +kernel
theorem dX4_uses_42 : decode cX4_uses 42 = .ok (.dup2, 1) := by decide +kernel
theorem dX4_uses_43 : decode cX4_uses 43 = .ok (.iaload, 1) := by decide +kernel
theorem dX4_uses_44 : decode cX4_uses 44 = .ok (.iconst 1, 1) := by decide +kernel
theorem dX4_uses_45 : decode cX4_uses 45 = .ok (.iadd, 1) := by decide +kernel
theorem dX4_uses_46 : decode cX4_uses 46 = .ok (.iastore, 1) := by decide +kernel
theorem dX4_uses_47 : decode cX4_uses 47 = .ok (.aload_n 0, 1) := by decide +kernel
theorem dX4_uses_48 : decode cX4_uses 48 = .ok (.getfield 26, 3) := by decide +kernel
theorem dX4_uses_51 : decode cX4_uses 51 = .ok (.iload_n 1, 1) := by decide +kernel
theorem dX4_uses_52 : decode cX4_uses 52 = .ok (.iload_n 2, 1) := by decide +kernel
theorem dX4_uses_53 : decode cX4_uses 53 = .ok (.invokestatic 100, 3) := by decide +kernel
theorem dX4_uses_56 : decode cX4_uses 56 = .ok (.iconst 0, 1) := by decide +kernel
theorem dX4_uses_57 : decode cX4_uses 57 = .ok (.bastore, 1) := by decide +kernel
theorem dX4_uses_58 : decode cX4_uses 58 = .ok (.return_, 1) := by decide +kernel
theorem dX4_learns_0 : decode cX4_learns 0 = .ok (.aload_n 0, 1) := by decide +kernel
theorem dX4_learns_1 : decode cX4_learns 1 = .ok (.getfield 30, 3) := by decide +kernel
theorem dX4_learns_4 : decode cX4_learns 4 = .ok (.iload_n 1, 1) := by decide +kernel
theorem dX4_learns_5 : decode cX4_learns 5 = .ok (.baload, 1) := by decide +kernel
theorem dX4_learns_6 : decode cX4_learns 6 = .ok (.ifCond .ne 4, 3) := by decide +kernel
theorem dX4_learns_9 : decode cX4_learns 9 = .ok (.return_, 1) := by decide +kernel
theorem dX4_learns_10 : decode cX4_learns 10 = .ok (.iload_n 2, 1) := by decide +kernel
theorem dX4_learns_11 : decode cX4_learns 11 = .ok (.aload_n 0, 1) := by decide +kernel
theorem dX4_learns_12 : decode cX4_learns 12 = .ok (.getfield 36, 3) := by decide +kernel
theorem dX4_learns_15 : decode cX4_learns 15 = .ok (.iload_n 1, 1) := by decide +kernel
theorem dX4_learns_16 : decode cX4_learns 16 = .ok (.iaload, 1) := by decide +kernel
theorem dX4_learns_17 : decode cX4_learns 17 = .ok (.isub, 1) := by decide +kernel
theorem dX4_learns_18 : decode cX4_learns 18 = .ok (.istore_n 3, 1) := by decide +kernel
theorem dX4_learns_19 : decode cX4_learns 19 = .ok (.aload_n 0, 1) := by decide +kernel
theorem dX4_learns_20 : decode cX4_learns 20 = .ok (.getfield 33, 3) := by decide +kernel
theorem dX4_learns_23 : decode cX4_learns 23 = .ok (.iload_n 1, 1) := by decide +kernel
theorem dX4_learns_24 : decode cX4_learns 24 = .ok (.iaload, 1) := by decide +kernel
theorem dX4_learns_25 : decode cX4_learns 25 = .ok (.iconst 2, 1) := by decide +kernel
theorem dX4_learns_26 : decode cX4_learns 26 = .ok (.if_icmp .lt 21, 3) := by decide +kernel
theorem dX4_learns_29 : decode cX4_learns 29 = .ok (.iload_n 3, 1) := by decide +kernel
theorem dX4_learns_30 : decode cX4_learns 30 = .ok (.ifCond .eq 17, 3) := by decide +kernel
theorem dX4_learns_33 : decode cX4_learns 33 = .ok (.iload_n 3, 1) := by decide +kernel
theorem dX4_learns_34 : decode cX4_learns 34 = .ok (.aload_n 0, 1) := by decide +kernel
theorem dX4_learns_35 : decode cX4_learns 35 = .ok (.getfield 39, 3) := by decide +kernel
theorem dX4_learns_38 : decode cX4_learns 38 = .ok (.iload_n 1, 1) := by decide +kernel
theorem dX4_learns_39 : decode cX4_learns 39 = .ok (.iaload, 1) := by decide +kernel
theorem dX4_learns_40 : decode cX4_learns 40 = .ok (.if_icmp .ne 7, 3) := by decide +kernel
theorem dX4_learns_43 : decode cX4_learns 43 = .ok (.iconst 1, 1) := by decide +kernel
theorem dX4_learns_44 : decode cX4_learns 44 = .ok (.goto 4, 3) := by decide +kernel
theorem dX4_learns_47 : decode cX4_learns 47 = .ok (.iconst 0, 1) := by decide +kernel
theorem dX4_learns_48 : decode cX4_learns 48 = .ok (.istore 4, 2) := by decide +kernel
theorem dX4_learns_50 : decode cX4_learns 50 = .ok (.aload_n 0, 1) := by decide +kernel
theorem dX4_learns_51 : decode cX4_learns 51 = .ok (.getfield 39, 3) := by decide +kernel
theorem dX4_learns_54 : decode cX4_learns 54 = .ok (.iload_n 1, 1) := by decide +kernel
theorem dX4_learns_55 : decode cX4_learns 55 = .ok (.iload_n 3, 1) := by decide +kernel
theorem dX4_learns_56 : decode cX4_learns 56 = .ok (.iastore, 1) := by decide +kernel
theorem dX4_learns_57 : decode cX4_learns 57 = .ok (.aload_n 0, 1) := by decide +kernel
theorem dX4_learns_58 : decode cX4_learns 58 = .ok (.getfield 36, 3) := by decide +kernel
theorem dX4_learns_61 : decode cX4_learns 61 = .ok (.iload_n 1, 1) := by decide +kernel
theorem dX4_learns_62 : decode cX4_learns 62 = .ok (.iload_n 2, 1) := by decide +kernel
theorem dX4_learns_63 : decode cX4_learns 63 = .ok (.iastore, 1) := by decide +kernel
theorem dX4_learns_64 : decode cX4_learns 64 = .ok (.aload_n 0, 1) := by decide +kernel
theorem dX4_learns_65 : decode cX4_learns 65 = .ok (.getfield 33, 3) := by decide +kernel
theorem dX4_learns_68 : decode cX4_learns 68 = .ok (.iload_n 1, 1) := by decide +kernel
theorem dX4_learns_69 : decode cX4_learns 69 = .ok (.dup2, 1) := by decide +kernel
theorem dX4_learns_70 : decode cX4_learns 70 = .ok (.iaload, 1) := by decide +kernel
theorem dX4_learns_71 : decode cX4_learns 71 = .ok (.iconst 1, 1) := by decide +kernel
theorem dX4_learns_72 : decode cX4_learns 72 = .ok (.iadd, 1) := by decide +kernel
theorem dX4_learns_73 : decode cX4_learns 73 = .ok (.iastore, 1) := by decide +kernel
theorem dX4_learns_74 : decode cX4_learns 74 = .ok (.iload_n 2, 1) := by decide +kernel
theorem dX4_learns_75 : decode cX4_learns 75 = .ok (.iload_n 3, 1) := by decide +kernel
theorem dX4_learns_76 : decode cX4_learns 76 = .ok (.iadd, 1) := by decide +kernel
theorem dX4_learns_77 : decode cX4_learns 77 = .ok (.istore 5, 2) := by decide +kernel
theorem dX4_learns_79 : decode cX4_learns 79 = .ok (.iload 4, 2) := by decide +kernel
theorem dX4_learns_81 : decode cX4_learns 81 = .ok (.ifCond .eq 33, 3) := by decide +kernel
theorem dX4_learns_84 : decode cX4_learns 84 = .ok (.iload 5, 2) := by decide +kernel
theorem dX4_learns_86 : decode cX4_learns 86 = .ok (.iconst 0, 1) := by decide +kernel
theorem dX4_learns_87 : decode cX4_learns 87 = .ok (.bipush 63, 2) := by decide +kernel
theorem dX4_learns_89 : decode cX4_learns 89 = .ok (.invokestatic 76, 3) := by decide +kernel
theorem dX4_learns_92 : decode cX4_learns 92 = .ok (.ifCond .eq 22, 3) := by decide +kernel
theorem dX4_learns_95 : decode cX4_learns 95 = .ok (.aload_n 0, 1) := by decide +kernel
theorem dX4_learns_96 : decode cX4_learns 96 = .ok (.iload_n 1, 1) := by decide +kernel
theorem dX4_learns_97 : decode cX4_learns 97 = .ok (.iload 5, 2) := by decide +kernel
theorem dX4_learns_99 : decode cX4_learns 99 = .ok (.invokevirtual 103, 3) := by decide +kernel
theorem dX4_learns_102 : decode cX4_learns 102 = .ok (.ifCond .ne 12, 3) := by decide +kernel
theorem dX4_learns_105 : decode cX4_learns 105 = .ok (.aload_n 0, 1) := by decide +kernel
theorem dX4_learns_106 : decode cX4_learns 106 = .ok (.iload 5, 2) := by decide +kernel
theorem dX4_learns_108 : decode cX4_learns 108 = .ok (.invokevirtual 120, 3) := by decide +kernel
theorem dX4_learns_111 : decode cX4_learns 111 = .ok (.ifCond .lt 4, 3) := by decide +kernel
theorem dX4_learns_114 : decode cX4_learns 114 = .ok (.return_, 1) := by decide +kernel
theorem dX4_learns_115 : decode cX4_learns 115 = .ok (.aload_n 0, 1) := by decide +kernel
theorem dX4_learns_116 : decode cX4_learns 116 = .ok (.iload_n 1, 1) := by decide +kernel
theorem dX4_learns_117 : decode cX4_learns 117 = .ok (.iload 5, 2) := by decide +kernel
theorem dX4_learns_119 : decode cX4_learns 119 = .ok (.aload_n 0, 1) := by decide +kernel
theorem dX4_learns_120 : decode cX4_learns 120 = .ok (.iload_n 1, 1) := by decide +kernel
theorem dX4_learns_121 : decode cX4_learns 121 = .ok (.iload 5, 2) := by decide +kernel
theorem dX4_learns_123 : decode cX4_learns 123 = .ok (.invokevirtual 123, 3) := by decide +kernel
theorem dX4_learns_126 : decode cX4_learns 126 = .ok (.ifCond .le 8, 3) := by decide +kernel
theorem dX4_learns_129 : decode cX4_learns 129 = .ok (.bipush 115, 2) := by decide +kernel
theorem dX4_learns_131 : decode cX4_learns 131 = .ok (.goto 5, 3) := by decide +kernel
theorem dX4_learns_134 : decode cX4_learns 134 = .ok (.bipush 101, 2) := by decide +kernel
theorem dX4_learns_136 : decode cX4_learns 136 = .ok (.invokevirtual 126, 3) := by decide +kernel
theorem dX4_learns_139 : decode cX4_learns 139 = .ok (.istore 6, 2) := by decide +kernel
theorem dX4_learns_141 : decode cX4_learns 141 = .ok (.aload_n 0, 1) := by decide +kernel
theorem dX4_learns_142 : decode cX4_learns 142 = .ok (.getfield 26, 3) := by decide +kernel
theorem dX4_learns_145 : decode cX4_learns 145 = .ok (.iload_n 1, 1) := by decide +kernel
theorem dX4_learns_146 : decode cX4_learns 146 = .ok (.iload 5, 2) := by decide +kernel
theorem dX4_learns_148 : decode cX4_learns 148 = .ok (.invokestatic 100, 3) := by decide +kernel
theorem dX4_learns_151 : decode cX4_learns 151 = .ok (.iconst 1, 1) := by decide +kernel
theorem dX4_learns_152 : decode cX4_learns 152 = .ok (.bastore, 1) := by decide +kernel
theorem dX4_learns_153 : decode cX4_learns 153 = .ok (.aload_n 0, 1) := by decide +kernel
theorem dX4_learns_154 : decode cX4_learns 154 = .ok (.getfield 42, 3) := by decide +kernel
theorem dX4_learns_157 : decode cX4_learns 157 = .ok (.iload_n 1, 1) := by decide +kernel
theorem dX4_learns_158 : decode cX4_learns 158 = .ok (.dup2, 1) := by decide +kernel
theorem dX4_learns_159 : decode cX4_learns 159 = .ok (.iaload, 1) := by decide +kernel
theorem dX4_learns_160 : decode cX4_learns 160 = .ok (.iconst 1, 1) := by decide +kernel
theorem dX4_learns_161 : decode cX4_learns 161 = .ok (.iadd, 1) := by decide +kernel
theorem dX4_learns_162 : decode cX4_learns 162 = .ok (.iastore, 1) := by decide +kernel
theorem dX4_learns_163 : decode cX4_learns 163 = .ok (.return_, 1) := by decide +kernel
theorem dX4_wrongAccess_0 : decode cX4_wrongAccess 0 = .ok (.iload_n 1, 1) := by decide +kernel
theorem dX4_wrongAccess_1 : decode cX4_wrongAccess 1 = .ok (.invokestatic 130, 3) := by decide +kernel
theorem dX4_wrongAccess_4 : decode cX4_wrongAccess 4 = .ok (.ifCond .ne 5, 3) := by decide +kernel
theorem dX4_wrongAccess_7 : decode cX4_wrongAccess 7 = .ok (.iconst 1, 1) := by decide +kernel
theorem dX4_wrongAccess_8 : decode cX4_wrongAccess 8 = .ok (.ireturn, 1) := by decide +kernel
theorem dX4_wrongAccess_9 : decode cX4_wrongAccess 9 = .ok (.aload_n 0, 1) := by decide +kernel
theorem dX4_wrongAccess_10 : decode cX4_wrongAccess 10 = .ok (.iload_n 2, 1) := by decide +kernel
theorem dX4_wrongAccess_11 : decode cX4_wrongAccess 11 = .ok (.invokevirtual 84, 3) := by decide +kernel
theorem dX4_wrongAccess_14 : decode cX4_wrongAccess 14 = .ok (.ifCond .ne 5, 3) := by decide +kernel
theorem dX4_wrongAccess_17 : decode cX4_wrongAccess 17 = .ok (.iconst 2, 1) := by decide +kernel
theorem dX4_wrongAccess_18 : decode cX4_wrongAccess 18 = .ok (.ireturn, 1) := by decide +kernel
theorem dX4_wrongAccess_19 : decode cX4_wrongAccess 19 = .ok (.aload_n 0, 1) := by decide +kernel
theorem dX4_wrongAccess_20 : decode cX4_wrongAccess 20 = .ok (.getfield 13, 3) := by decide +kernel
theorem dX4_wrongAccess_23 : decode cX4_wrongAccess 23 = .ok (.iload_n 2, 1) := by decide +kernel
theorem dX4_wrongAccess_24 : decode cX4_wrongAccess 24 = .ok (.iaload, 1) := by decide +kernel
theorem dX4_wrongAccess_25 : decode cX4_wrongAccess 25 = .ok (.ifCond .ge 7, 3) := by decide +kernel
theorem dX4_wrongAccess_28 : decode cX4_wrongAccess 28 = .ok (.iconst 3, 1) := by decide +kernel
theorem dX4_wrongAccess_29 : decode cX4_wrongAccess 29 = .ok (.goto 24, 3) := by decide +kernel
theorem dX4_wrongAccess_32 : decode cX4_wrongAccess 32 = .ok (.iload_n 3, 1) := by decide +kernel
theorem dX4_wrongAccess_33 : decode cX4_wrongAccess 33 = .ok (.iconst 0, 1) := by decide +kernel
theorem dX4_wrongAccess_34 : decode cX4_wrongAccess 34 = .ok (.aload_n 0, 1) := by decide +kernel
theorem dX4_wrongAccess_35 : decode cX4_wrongAccess 35 = .ok (.getfield 7, 3) := by decide +kernel
theorem dX4_wrongAccess_38 : decode cX4_wrongAccess 38 = .ok (.iload_n 2, 1) := by decide +kernel
theorem dX4_wrongAccess_39 : decode cX4_wrongAccess 39 = .ok (.iaload, 1) := by decide +kernel
theorem dX4_wrongAccess_40 : decode cX4_wrongAccess 40 = .ok (.iconst 1, 1) := by decide +kernel
theorem dX4_wrongAccess_41 : decode cX4_wrongAccess 41 = .ok (.isub, 1) := by decide +kernel
theorem dX4_wrongAccess_42 : decode cX4_wrongAccess 42 = .ok (.invokestatic 76, 3) := by decide +kernel
theorem dX4_wrongAccess_45 : decode cX4_wrongAccess 45 = .ok (.ifCond .ne 7, 3) := by decide +kernel
theorem dX4_wrongAccess_48 : decode cX4_wrongAccess 48 = .ok (.iconst 4, 1) := by decide +kernel
theorem dX4_wrongAccess_49 : decode cX4_wrongAccess 49 = .ok (.goto 4, 3) := by decide +kernel
theorem dX4_wrongAccess_52 : decode cX4_wrongAccess 52 = .ok (.iconst 0, 1) := by decide +kernel
theorem dX4_wrongAccess_53 : decode cX4_wrongAccess 53 = .ok (.ireturn, 1) := by decide +kernel
theorem dX4_read_0 : decode cX4_read 0 = .ok (.aload_n 0, 1) := by decide +kernel
theorem dX4_read_1 : decode cX4_read 1 = .ok (.aload_n 0, 1) := by decide +kernel
theorem dX4_read_2 : decode cX4_read 2 = .ok (.iload_n 1, 1) := by decide +kernel
theorem dX4_read_3 : decode cX4_read 3 = .ok (.iload_n 2, 1) := by decide +kernel
theorem dX4_read_4 : decode cX4_read 4 = .ok (.iload_n 3, 1) := by decide +kernel
theorem dX4_read_5 : decode cX4_read 5 = .ok (.invokevirtual 133, 3) := by decide +kernel
theorem dX4_read_8 : decode cX4_read 8 = .ok (.putfield 63, 3) := by decide +kernel
theorem dX4_read_11 : decode cX4_read 11 = .ok (.aload_n 0, 1) := by decide +kernel
theorem dX4_read_12 : decode cX4_read 12 = .ok (.getfield 63, 3) := by decide +kernel
theorem dX4_read_15 : decode cX4_read 15 = .ok (.ifCond .le 5, 3) := by decide +kernel
theorem dX4_read_18 : decode cX4_read 18 = .ok (.iconst 0, 1) := by decide +kernel
theorem dX4_read_19 : decode cX4_read 19 = .ok (.ireturn, 1) := by decide +kernel
theorem dX4_read_20 : decode cX4_read 20 = .ok (.aload_n 0, 1) := by decide +kernel
theorem dX4_read_21 : decode cX4_read 21 = .ok (.getfield 13, 3) := by decide +kernel
theorem dX4_read_24 : decode cX4_read 24 = .ok (.iload_n 2, 1) := by decide +kernel
theorem dX4_read_25 : decode cX4_read 25 = .ok (.iaload, 1) := by decide +kernel
theorem dX4_read_26 : decode cX4_read 26 = .ok (.iload_n 3, 1) := by decide +kernel
theorem dX4_read_27 : decode cX4_read 27 = .ok (.iadd, 1) := by decide +kernel
theorem dX4_read_28 : decode cX4_read 28 = .ok (.bipush 8, 2) := by decide +kernel
theorem dX4_read_30 : decode cX4_read 30 = .ok (.idiv, 1) := by decide +kernel
theorem dX4_read_31 : decode cX4_read 31 = .ok (.istore 4, 2) := by decide +kernel
theorem dX4_read_33 : decode cX4_read 33 = .ok (.aload_n 0, 1) := by decide +kernel
theorem dX4_read_34 : decode cX4_read 34 = .ok (.iload_n 1, 1) := by decide +kernel
theorem dX4_read_35 : decode cX4_read 35 = .ok (.iload 4, 2) := by decide +kernel
theorem dX4_read_37 : decode cX4_read 37 = .ok (.invokevirtual 103, 3) := by decide +kernel
theorem dX4_read_40 : decode cX4_read 40 = .ok (.ifCond .eq 20, 3) := by decide +kernel
theorem dX4_read_43 : decode cX4_read 43 = .ok (.aload_n 0, 1) := by decide +kernel
theorem dX4_read_44 : decode cX4_read 44 = .ok (.iload_n 1, 1) := by decide +kernel
theorem dX4_read_45 : decode cX4_read 45 = .ok (.iload 4, 2) := by decide +kernel
theorem dX4_read_47 : decode cX4_read 47 = .ok (.invokevirtual 137, 3) := by decide +kernel
theorem dX4_read_50 : decode cX4_read 50 = .ok (.aload_n 0, 1) := by decide +kernel
theorem dX4_read_51 : decode cX4_read 51 = .ok (.iload_n 1, 1) := by decide +kernel
theorem dX4_read_52 : decode cX4_read 52 = .ok (.iload_n 2, 1) := by decide +kernel
theorem dX4_read_53 : decode cX4_read 53 = .ok (.iconst 1, 1) := by decide +kernel
theorem dX4_read_54 : decode cX4_read 54 = .ok (.bipush 104, 2) := by decide +kernel
theorem dX4_read_56 : decode cX4_read 56 = .ok (.invokevirtual 141, 3) := by decide +kernel
theorem dX4_read_59 : decode cX4_read 59 = .ok (.ireturn, 1) := by decide +kernel
theorem dX4_read_60 : decode cX4_read 60 = .ok (.aload_n 0, 1) := by decide +kernel
theorem dX4_read_61 : decode cX4_read 61 = .ok (.iload_n 1, 1) := by decide +kernel
theorem dX4_read_62 : decode cX4_read 62 = .ok (.iload 4, 2) := by decide +kernel
theorem dX4_read_64 : decode cX4_read 64 = .ok (.iload_n 2, 1) := by decide +kernel
theorem dX4_read_65 : decode cX4_read 65 = .ok (.invokevirtual 145, 3) := by decide +kernel
theorem dX4_read_68 : decode cX4_read 68 = .ok (.istore 5, 2) := by decide +kernel
theorem dX4_read_70 : decode cX4_read 70 = .ok (.aload_n 0, 1) := by decide +kernel
theorem dX4_read_71 : decode cX4_read 71 = .ok (.iload_n 1, 1) := by decide +kernel
theorem dX4_read_72 : decode cX4_read 72 = .ok (.iload 4, 2) := by decide +kernel
theorem dX4_read_74 : decode cX4_read 74 = .ok (.invokevirtual 123, 3) := by decide +kernel
theorem dX4_read_77 : decode cX4_read 77 = .ok (.ifCond .le 7, 3) := by decide +kernel
theorem dX4_read_80 : decode cX4_read 80 = .ok (.iconst 1, 1) := by decide +kernel
theorem dX4_read_81 : decode cX4_read 81 = .ok (.goto 4, 3) := by decide +kernel
theorem dX4_read_84 : decode cX4_read 84 = .ok (.iconst 0, 1) := by decide +kernel
theorem dX4_read_85 : decode cX4_read 85 = .ok (.istore 6, 2) := by decide +kernel
theorem dX4_read_87 : decode cX4_read 87 = .ok (.iconst 0, 1) := by decide +kernel
theorem dX4_read_88 : decode cX4_read 88 = .ok (.istore 7, 2) := by decide +kernel
theorem dX4_read_90 : decode cX4_read 90 = .ok (.iload 7, 2) := by decide +kernel
theorem dX4_read_92 : decode cX4_read 92 = .ok (.iconst 4, 1) := by decide +kernel
theorem dX4_read_93 : decode cX4_read 93 = .ok (.if_icmp .ge 34, 3) := by decide +kernel
theorem dX4_read_96 : decode cX4_read 96 = .ok (.aload_n 0, 1) := by decide +kernel
theorem dX4_read_97 : decode cX4_read 97 = .ok (.iload 7, 2) := by decide +kernel
theorem dX4_read_99 : decode cX4_read 99 = .ok (.iload 4, 2) := by decide +kernel
theorem dX4_read_101 : decode cX4_read 101 = .ok (.invokevirtual 103, 3) := by decide +kernel
theorem dX4_read_104 : decode cX4_read 104 = .ok (.ifCond .eq 17, 3) := by decide +kernel
theorem dX4_read_107 : decode cX4_read 107 = .ok (.aload_n 0, 1) := by decide +kernel
theorem dX4_read_108 : decode cX4_read 108 = .ok (.getfield 16, 3) := by decide +kernel
theorem dX4_read_111 : decode cX4_read 111 = .ok (.iload 7, 2) := by decide +kernel
theorem dX4_read_113 : decode cX4_read 113 = .ok (.iload 4, 2) := by decide +kernel
theorem dX4_read_115 : decode cX4_read 115 = .ok (.invokestatic 100, 3) := by decide +kernel
theorem dX4_read_118 : decode cX4_read 118 = .ok (.bipush 115, 2) := by decide +kernel
theorem dX4_read_120 : decode cX4_read 120 = .ok (.castore, 1) := by decide +kernel
theorem dX4_read_121 : decode cX4_read 121 = .ok (.iinc 7 1, 3) := by decide +kernel
theorem dX4_read_124 : decode cX4_read 124 = .ok (.goto (-34), 3) := by decide +kernel
theorem dX4_read_127 : decode cX4_read 127 = .ok (.aload_n 0, 1) := by decide +kernel
theorem dX4_read_128 : decode cX4_read 128 = .ok (.iload_n 1, 1) := by decide +kernel
theorem dX4_read_129 : decode cX4_read 129 = .ok (.iload 4, 2) := by decide +kernel
theorem dX4_read_131 : decode cX4_read 131 = .ok (.iload 6, 2) := by decide +kernel
theorem dX4_read_133 : decode cX4_read 133 = .ok (.ifCond .eq 8, 3) := by decide +kernel
theorem dX4_read_136 : decode cX4_read 136 = .ok (.bipush 115, 2) := by decide +kernel
theorem dX4_read_138 : decode cX4_read 138 = .ok (.goto 5, 3) := by decide +kernel
theorem dX4_read_141 : decode cX4_read 141 = .ok (.bipush 101, 2) := by decide +kernel
theorem dX4_read_143 : decode cX4_read 143 = .ok (.invokevirtual 126, 3) := by decide +kernel
theorem dX4_read_146 : decode cX4_read 146 = .ok (.ifCond .eq 7, 3) := by decide +kernel
theorem dX4_read_149 : decode cX4_read 149 = .ok (.iconst 5, 1) := by decide +kernel
theorem dX4_read_150 : decode cX4_read 150 = .ok (.goto 4, 3) := by decide +kernel
theorem dX4_read_153 : decode cX4_read 153 = .ok (.iconst 0, 1) := by decide +kernel
theorem dX4_read_154 : decode cX4_read 154 = .ok (.istore 7, 2) := by decide +kernel
theorem dX4_read_156 : decode cX4_read 156 = .ok (.aload_n 0, 1) := by decide +kernel
theorem dX4_read_157 : decode cX4_read 157 = .ok (.iload_n 1, 1) := by decide +kernel
theorem dX4_read_158 : decode cX4_read 158 = .ok (.iload 4, 2) := by decide +kernel
theorem dX4_read_160 : decode cX4_read 160 = .ok (.invokevirtual 149, 3) := by decide +kernel
theorem dX4_read_163 : decode cX4_read 163 = .ok (.aload_n 0, 1) := by decide +kernel
theorem dX4_read_164 : decode cX4_read 164 = .ok (.iload_n 1, 1) := by decide +kernel
theorem dX4_read_165 : decode cX4_read 165 = .ok (.iload_n 2, 1) := by decide +kernel
theorem dX4_read_166 : decode cX4_read 166 = .ok (.iload 7, 2) := by decide +kernel
theorem dX4_read_168 : decode cX4_read 168 = .ok (.iload 6, 2) := by decide +kernel
theorem dX4_read_170 : decode cX4_read 170 = .ok (.ifCond .eq 8, 3) := by decide +kernel
theorem dX4_read_173 : decode cX4_read 173 = .ok (.bipush 12, 2) := by decide +kernel
theorem dX4_read_175 : decode cX4_read 175 = .ok (.goto 5, 3) := by decide +kernel
theorem dX4_read_178 : decode cX4_read 178 = .ok (.bipush 40, 2) := by decide +kernel
theorem dX4_read_180 : decode cX4_read 180 = .ok (.iadd, 1) := by decide +kernel
theorem dX4_read_181 : decode cX4_read 181 = .ok (.iload 5, 2) := by decide +kernel
theorem dX4_read_183 : decode cX4_read 183 = .ok (.invokevirtual 141, 3) := by decide +kernel
theorem dX4_read_186 : decode cX4_read 186 = .ok (.ireturn, 1) := by decide +kernel
theorem dX4_takesFromOthers_0 : decode cX4_takesFromOthers 0 = .ok (.iconst 0, 1) := by decide +kernel
theorem dX4_takesFromOthers_1 : decode cX4_takesFromOthers 1 = .ok (.istore 4, 2) := by decide +kernel
theorem dX4_takesFromOthers_3 : decode cX4_takesFromOthers 3 = .ok (.iload 4, 2) := by decide +kernel
theorem dX4_takesFromOthers_5 : decode cX4_takesFromOthers 5 = .ok (.iconst 4, 1) := by decide +kernel
theorem dX4_takesFromOthers_6 : decode cX4_takesFromOthers 6 = .ok (.if_icmp .ge 33, 3) := by decide +kernel
theorem dX4_takesFromOthers_9 : decode cX4_takesFromOthers 9 = .ok (.iload 4, 2) := by decide +kernel
theorem dX4_takesFromOthers_11 : decode cX4_takesFromOthers 11 = .ok (.iload_n 1, 1) := by decide +kernel
theorem dX4_takesFromOthers_12 : decode cX4_takesFromOthers 12 = .ok (.if_icmp .eq 21, 3) := by decide +kernel
theorem dX4_takesFromOthers_15 : decode cX4_takesFromOthers 15 = .ok (.aload_n 0, 1) := by decide +kernel
theorem dX4_takesFromOthers_16 : decode cX4_takesFromOthers 16 = .ok (.iload 4, 2) := by decide +kernel
theorem dX4_takesFromOthers_18 : decode cX4_takesFromOthers 18 = .ok (.iload_n 2, 1) := by decide +kernel
theorem dX4_takesFromOthers_19 : decode cX4_takesFromOthers 19 = .ok (.invokevirtual 103, 3) := by decide +kernel
theorem dX4_takesFromOthers_22 : decode cX4_takesFromOthers 22 = .ok (.ifCond .eq 11, 3) := by decide +kernel
theorem dX4_takesFromOthers_25 : decode cX4_takesFromOthers 25 = .ok (.aload_n 0, 1) := by decide +kernel
theorem dX4_takesFromOthers_26 : decode cX4_takesFromOthers 26 = .ok (.iload 4, 2) := by decide +kernel
theorem dX4_takesFromOthers_28 : decode cX4_takesFromOthers 28 = .ok (.iload_n 2, 1) := by decide +kernel
theorem dX4_takesFromOthers_29 : decode cX4_takesFromOthers 29 = .ok (.iload_n 3, 1) := by decide +kernel
theorem dX4_takesFromOthers_30 : decode cX4_takesFromOthers 30 = .ok (.invokevirtual 112, 3) := by decide +kernel
theorem dX4_takesFromOthers_33 : decode cX4_takesFromOthers 33 = .ok (.iinc 4 1, 3) := by decide +kernel
theorem dX4_takesFromOthers_36 : decode cX4_takesFromOthers 36 = .ok (.goto (-33), 3) := by decide +kernel
theorem dX4_takesFromOthers_39 : decode cX4_takesFromOthers 39 = .ok (.return_, 1) := by decide +kernel
theorem dX4_write_0 : decode cX4_write 0 = .ok (.aload_n 0, 1) := by decide +kernel
theorem dX4_write_1 : decode cX4_write 1 = .ok (.aload_n 0, 1) := by decide +kernel
theorem dX4_write_2 : decode cX4_write 2 = .ok (.iload_n 1, 1) := by decide +kernel
theorem dX4_write_3 : decode cX4_write 3 = .ok (.iload_n 2, 1) := by decide +kernel
theorem dX4_write_4 : decode cX4_write 4 = .ok (.iload_n 3, 1) := by decide +kernel
theorem dX4_write_5 : decode cX4_write 5 = .ok (.invokevirtual 133, 3) := by decide +kernel
theorem dX4_write_8 : decode cX4_write 8 = .ok (.putfield 63, 3) := by decide +kernel
theorem dX4_write_11 : decode cX4_write 11 = .ok (.aload_n 0, 1) := by decide +kernel
theorem dX4_write_12 : decode cX4_write 12 = .ok (.getfield 63, 3) := by decide +kernel
theorem dX4_write_15 : decode cX4_write 15 = .ok (.ifCond .le 5, 3) := by decide +kernel
theorem dX4_write_18 : decode cX4_write 18 = .ok (.iconst 0, 1) := by decide +kernel
theorem dX4_write_19 : decode cX4_write 19 = .ok (.ireturn, 1) := by decide +kernel
theorem dX4_write_20 : decode cX4_write 20 = .ok (.aload_n 0, 1) := by decide +kernel
theorem dX4_write_21 : decode cX4_write 21 = .ok (.getfield 13, 3) := by decide +kernel
theorem dX4_write_24 : decode cX4_write 24 = .ok (.iload_n 2, 1) := by decide +kernel
theorem dX4_write_25 : decode cX4_write 25 = .ok (.iaload, 1) := by decide +kernel
theorem dX4_write_26 : decode cX4_write 26 = .ok (.iload_n 3, 1) := by decide +kernel
theorem dX4_write_27 : decode cX4_write 27 = .ok (.iadd, 1) := by decide +kernel
theorem dX4_write_28 : decode cX4_write 28 = .ok (.bipush 8, 2) := by decide +kernel
theorem dX4_write_30 : decode cX4_write 30 = .ok (.idiv, 1) := by decide +kernel
theorem dX4_write_31 : decode cX4_write 31 = .ok (.istore 4, 2) := by decide +kernel
theorem dX4_write_33 : decode cX4_write 33 = .ok (.aload_n 0, 1) := by decide +kernel
theorem dX4_write_34 : decode cX4_write 34 = .ok (.getfield 16, 3) := by decide +kernel
theorem dX4_write_37 : decode cX4_write 37 = .ok (.iload_n 1, 1) := by decide +kernel
theorem dX4_write_38 : decode cX4_write 38 = .ok (.iload 4, 2) := by decide +kernel
theorem dX4_write_40 : decode cX4_write 40 = .ok (.invokestatic 100, 3) := by decide +kernel
theorem dX4_write_43 : decode cX4_write 43 = .ok (.caload, 1) := by decide +kernel
theorem dX4_write_44 : decode cX4_write 44 = .ok (.istore 5, 2) := by decide +kernel
theorem dX4_write_46 : decode cX4_write 46 = .ok (.aload_n 0, 1) := by decide +kernel
theorem dX4_write_47 : decode cX4_write 47 = .ok (.iload_n 1, 1) := by decide +kernel
theorem dX4_write_48 : decode cX4_write 48 = .ok (.iload 4, 2) := by decide +kernel
theorem dX4_write_50 : decode cX4_write 50 = .ok (.invokevirtual 123, 3) := by decide +kernel
theorem dX4_write_53 : decode cX4_write 53 = .ok (.ifCond .le 7, 3) := by decide +kernel
theorem dX4_write_56 : decode cX4_write 56 = .ok (.iconst 1, 1) := by decide +kernel
theorem dX4_write_57 : decode cX4_write 57 = .ok (.goto 4, 3) := by decide +kernel
theorem dX4_write_60 : decode cX4_write 60 = .ok (.iconst 0, 1) := by decide +kernel
theorem dX4_write_61 : decode cX4_write 61 = .ok (.istore 6, 2) := by decide +kernel
theorem dX4_write_63 : decode cX4_write 63 = .ok (.aload_n 0, 1) := by decide +kernel
theorem dX4_write_64 : decode cX4_write 64 = .ok (.iload_n 1, 1) := by decide +kernel
theorem dX4_write_65 : decode cX4_write 65 = .ok (.iload 4, 2) := by decide +kernel
theorem dX4_write_67 : decode cX4_write 67 = .ok (.iload_n 2, 1) := by decide +kernel
theorem dX4_write_68 : decode cX4_write 68 = .ok (.invokevirtual 152, 3) := by decide +kernel
theorem dX4_write_71 : decode cX4_write 71 = .ok (.iload 5, 2) := by decide +kernel
theorem dX4_write_73 : decode cX4_write 73 = .ok (.bipush 45, 2) := by decide +kernel
theorem dX4_write_75 : decode cX4_write 75 = .ok (.if_icmp .eq 57, 3) := by decide +kernel
theorem dX4_write_78 : decode cX4_write 78 = .ok (.aload_n 0, 1) := by decide +kernel
theorem dX4_write_79 : decode cX4_write 79 = .ok (.iload_n 1, 1) := by decide +kernel
theorem dX4_write_80 : decode cX4_write 80 = .ok (.iload 4, 2) := by decide +kernel
theorem dX4_write_82 : decode cX4_write 82 = .ok (.invokevirtual 137, 3) := by decide +kernel
theorem dX4_write_85 : decode cX4_write 85 = .ok (.aload_n 0, 1) := by decide +kernel
theorem dX4_write_86 : decode cX4_write 86 = .ok (.getfield 16, 3) := by decide +kernel
theorem dX4_write_89 : decode cX4_write 89 = .ok (.iload_n 1, 1) := by decide +kernel
theorem dX4_write_90 : decode cX4_write 90 = .ok (.iload 4, 2) := by decide +kernel
theorem dX4_write_92 : decode cX4_write 92 = .ok (.invokestatic 100, 3) := by decide +kernel
theorem dX4_write_95 : decode cX4_write 95 = .ok (.bipush 109, 2) := by decide +kernel
theorem dX4_write_97 : decode cX4_write 97 = .ok (.castore, 1) := by decide +kernel
theorem dX4_write_98 : decode cX4_write 98 = .ok (.aload_n 0, 1) := by decide +kernel
theorem dX4_write_99 : decode cX4_write 99 = .ok (.iload_n 1, 1) := by decide +kernel
theorem dX4_write_100 : decode cX4_write 100 = .ok (.iload_n 2, 1) := by decide +kernel
theorem dX4_write_101 : decode cX4_write 101 = .ok (.iload 5, 2) := by decide +kernel
theorem dX4_write_103 : decode cX4_write 103 = .ok (.bipush 115, 2) := by decide +kernel
theorem dX4_write_105 : decode cX4_write 105 = .ok (.if_icmp .ne 8, 3) := by decide +kernel
theorem dX4_write_108 : decode cX4_write 108 = .ok (.bipush 8, 2) := by decide +kernel
theorem dX4_write_110 : decode cX4_write 110 = .ok (.goto 4, 3) := by decide +kernel
theorem dX4_write_113 : decode cX4_write 113 = .ok (.iconst 1, 1) := by decide +kernel
theorem dX4_write_114 : decode cX4_write 114 = .ok (.iload 5, 2) := by decide +kernel
theorem dX4_write_116 : decode cX4_write 116 = .ok (.bipush 115, 2) := by decide +kernel
theorem dX4_write_118 : decode cX4_write 118 = .ok (.if_icmp .ne 8, 3) := by decide +kernel
theorem dX4_write_121 : decode cX4_write 121 = .ok (.bipush 117, 2) := by decide +kernel
theorem dX4_write_123 : decode cX4_write 123 = .ok (.goto 5, 3) := by decide +kernel
theorem dX4_write_126 : decode cX4_write 126 = .ok (.bipush 104, 2) := by decide +kernel
theorem dX4_write_128 : decode cX4_write 128 = .ok (.invokevirtual 141, 3) := by decide +kernel
theorem dX4_write_131 : decode cX4_write 131 = .ok (.ireturn, 1) := by decide +kernel
theorem dX4_write_132 : decode cX4_write 132 = .ok (.aload_n 0, 1) := by decide +kernel
theorem dX4_write_133 : decode cX4_write 133 = .ok (.iload_n 1, 1) := by decide +kernel
theorem dX4_write_134 : decode cX4_write 134 = .ok (.iload 4, 2) := by decide +kernel
theorem dX4_write_136 : decode cX4_write 136 = .ok (.iload_n 2, 1) := by decide +kernel
theorem dX4_write_137 : decode cX4_write 137 = .ok (.invokevirtual 145, 3) := by decide +kernel
theorem dX4_write_140 : decode cX4_write 140 = .ok (.istore 7, 2) := by decide +kernel
theorem dX4_write_142 : decode cX4_write 142 = .ok (.aload_n 0, 1) := by decide +kernel
theorem dX4_write_143 : decode cX4_write 143 = .ok (.iload_n 1, 1) := by decide +kernel
theorem dX4_write_144 : decode cX4_write 144 = .ok (.iload 4, 2) := by decide +kernel
theorem dX4_write_146 : decode cX4_write 146 = .ok (.bipush 109, 2) := by decide +kernel
theorem dX4_write_148 : decode cX4_write 148 = .ok (.invokevirtual 126, 3) := by decide +kernel
theorem dX4_write_151 : decode cX4_write 151 = .ok (.ifCond .eq 7, 3) := by decide +kernel
theorem dX4_write_154 : decode cX4_write 154 = .ok (.iconst 5, 1) := by decide +kernel
theorem dX4_write_155 : decode cX4_write 155 = .ok (.goto 4, 3) := by decide +kernel
theorem dX4_write_158 : decode cX4_write 158 = .ok (.iconst 0, 1) := by decide +kernel
theorem dX4_write_159 : decode cX4_write 159 = .ok (.istore 8, 2) := by decide +kernel
theorem dX4_write_161 : decode cX4_write 161 = .ok (.aload_n 0, 1) := by decide +kernel
theorem dX4_write_162 : decode cX4_write 162 = .ok (.iload_n 1, 1) := by decide +kernel
theorem dX4_write_163 : decode cX4_write 163 = .ok (.iload 4, 2) := by decide +kernel
theorem dX4_write_165 : decode cX4_write 165 = .ok (.invokevirtual 149, 3) := by decide +kernel
theorem dX4_write_168 : decode cX4_write 168 = .ok (.aload_n 0, 1) := by decide +kernel
theorem dX4_write_169 : decode cX4_write 169 = .ok (.iload_n 1, 1) := by decide +kernel
theorem dX4_write_170 : decode cX4_write 170 = .ok (.iload_n 2, 1) := by decide +kernel
theorem dX4_write_171 : decode cX4_write 171 = .ok (.iload 8, 2) := by decide +kernel
theorem dX4_write_173 : decode cX4_write 173 = .ok (.iload 6, 2) := by decide +kernel
theorem dX4_write_175 : decode cX4_write 175 = .ok (.ifCond .eq 8, 3) := by decide +kernel
theorem dX4_write_178 : decode cX4_write 178 = .ok (.bipush 12, 2) := by decide +kernel
theorem dX4_write_180 : decode cX4_write 180 = .ok (.goto 5, 3) := by decide +kernel
theorem dX4_write_183 : decode cX4_write 183 = .ok (.bipush 40, 2) := by decide +kernel
theorem dX4_write_185 : decode cX4_write 185 = .ok (.iadd, 1) := by decide +kernel
theorem dX4_write_186 : decode cX4_write 186 = .ok (.iload 7, 2) := by decide +kernel
theorem dX4_write_188 : decode cX4_write 188 = .ok (.invokevirtual 141, 3) := by decide +kernel
theorem dX4_write_191 : decode cX4_write 191 = .ok (.ireturn, 1) := by decide +kernel
theorem dX4_empty_0 : decode cX4_empty 0 = .ok (.aload_n 0, 1) := by decide +kernel
theorem dX4_empty_1 : decode cX4_empty 1 = .ok (.iload_n 1, 1) := by decide +kernel
theorem dX4_empty_2 : decode cX4_empty 2 = .ok (.invokestatic 130, 3) := by decide +kernel
theorem dX4_empty_5 : decode cX4_empty 5 = .ok (.invokevirtual 92, 3) := by decide +kernel
theorem dX4_empty_8 : decode cX4_empty 8 = .ok (.ifCond .le 5, 3) := by decide +kernel
theorem dX4_empty_11 : decode cX4_empty 11 = .ok (.iconst 0, 1) := by decide +kernel
theorem dX4_empty_12 : decode cX4_empty 12 = .ok (.ireturn, 1) := by decide +kernel
theorem dX4_empty_13 : decode cX4_empty 13 = .ok (.iconst 0, 1) := by decide +kernel
theorem dX4_empty_14 : decode cX4_empty 14 = .ok (.istore_n 2, 1) := by decide +kernel
theorem dX4_empty_15 : decode cX4_empty 15 = .ok (.iconst 0, 1) := by decide +kernel
theorem dX4_empty_16 : decode cX4_empty 16 = .ok (.istore_n 3, 1) := by decide +kernel
theorem dX4_empty_17 : decode cX4_empty 17 = .ok (.iload_n 3, 1) := by decide +kernel
theorem dX4_empty_18 : decode cX4_empty 18 = .ok (.bipush 64, 2) := by decide +kernel
theorem dX4_empty_20 : decode cX4_empty 20 = .ok (.if_icmp .ge 52, 3) := by decide +kernel
theorem dX4_empty_23 : decode cX4_empty 23 = .ok (.aload_n 0, 1) := by decide +kernel
theorem dX4_empty_24 : decode cX4_empty 24 = .ok (.iload_n 1, 1) := by decide +kernel
theorem dX4_empty_25 : decode cX4_empty 25 = .ok (.iload_n 3, 1) := by decide +kernel
theorem dX4_empty_26 : decode cX4_empty 26 = .ok (.invokevirtual 103, 3) := by decide +kernel
theorem dX4_empty_29 : decode cX4_empty 29 = .ok (.ifCond .ne 6, 3) := by decide +kernel
theorem dX4_empty_32 : decode cX4_empty 32 = .ok (.goto 34, 3) := by decide +kernel
theorem dX4_empty_35 : decode cX4_empty 35 = .ok (.iload_n 2, 1) := by decide +kernel
theorem dX4_empty_36 : decode cX4_empty 36 = .ok (.aload_n 0, 1) := by decide +kernel
theorem dX4_empty_37 : decode cX4_empty 37 = .ok (.getfield 16, 3) := by decide +kernel
theorem dX4_empty_40 : decode cX4_empty 40 = .ok (.iload_n 1, 1) := by decide +kernel
theorem dX4_empty_41 : decode cX4_empty 41 = .ok (.iload_n 3, 1) := by decide +kernel
theorem dX4_empty_42 : decode cX4_empty 42 = .ok (.invokestatic 100, 3) := by decide +kernel
theorem dX4_empty_45 : decode cX4_empty 45 = .ok (.caload, 1) := by decide +kernel
theorem dX4_empty_46 : decode cX4_empty 46 = .ok (.bipush 109, 2) := by decide +kernel
theorem dX4_empty_48 : decode cX4_empty 48 = .ok (.if_icmp .ne 7, 3) := by decide +kernel
theorem dX4_empty_51 : decode cX4_empty 51 = .ok (.iconst 1, 1) := by decide +kernel
theorem dX4_empty_52 : decode cX4_empty 52 = .ok (.goto 4, 3) := by decide +kernel
theorem dX4_empty_55 : decode cX4_empty 55 = .ok (.iconst 0, 1) := by decide +kernel
theorem dX4_empty_56 : decode cX4_empty 56 = .ok (.iadd, 1) := by decide +kernel
theorem dX4_empty_57 : decode cX4_empty 57 = .ok (.istore_n 2, 1) := by decide +kernel
theorem dX4_empty_58 : decode cX4_empty 58 = .ok (.aload_n 0, 1) := by decide +kernel
theorem dX4_empty_59 : decode cX4_empty 59 = .ok (.iload_n 1, 1) := by decide +kernel
theorem dX4_empty_60 : decode cX4_empty 60 = .ok (.iload_n 3, 1) := by decide +kernel
theorem dX4_empty_61 : decode cX4_empty 61 = .ok (.bipush (-2), 2) := by decide +kernel
theorem dX4_empty_63 : decode cX4_empty 63 = .ok (.invokevirtual 112, 3) := by decide +kernel
theorem dX4_empty_66 : decode cX4_empty 66 = .ok (.iinc 3 1, 3) := by decide +kernel
theorem dX4_empty_69 : decode cX4_empty 69 = .ok (.goto (-52), 3) := by decide +kernel
theorem dX4_empty_72 : decode cX4_empty 72 = .ok (.iload_n 2, 1) := by decide +kernel
theorem dX4_empty_73 : decode cX4_empty 73 = .ok (.ireturn, 1) := by decide +kernel
theorem dX4_setAhead_0 : decode cX4_setAhead 0 = .ok (.aload_n 0, 1) := by decide +kernel
theorem dX4_setAhead_1 : decode cX4_setAhead 1 = .ok (.iload_n 1, 1) := by decide +kernel
theorem dX4_setAhead_2 : decode cX4_setAhead 2 = .ok (.invokestatic 130, 3) := by decide +kernel
theorem dX4_setAhead_5 : decode cX4_setAhead 5 = .ok (.invokevirtual 92, 3) := by decide +kernel
theorem dX4_setAhead_8 : decode cX4_setAhead 8 = .ok (.ifCond .le 5, 3) := by decide +kernel
theorem dX4_setAhead_11 : decode cX4_setAhead 11 = .ok (.iconst 0, 1) := by decide +kernel
theorem dX4_setAhead_12 : decode cX4_setAhead 12 = .ok (.ireturn, 1) := by decide +kernel
theorem dX4_setAhead_13 : decode cX4_setAhead 13 = .ok (.aload_n 0, 1) := by decide +kernel
theorem dX4_setAhead_14 : decode cX4_setAhead 14 = .ok (.getfield 30, 3) := by decide +kernel
theorem dX4_setAhead_17 : decode cX4_setAhead 17 = .ok (.iload_n 1, 1) := by decide +kernel
theorem dX4_setAhead_18 : decode cX4_setAhead 18 = .ok (.baload, 1) := by decide +kernel
theorem dX4_setAhead_19 : decode cX4_setAhead 19 = .ok (.istore_n 3, 1) := by decide +kernel
theorem dX4_setAhead_20 : decode cX4_setAhead 20 = .ok (.aload_n 0, 1) := by decide +kernel
theorem dX4_setAhead_21 : decode cX4_setAhead 21 = .ok (.getfield 30, 3) := by decide +kernel
theorem dX4_setAhead_24 : decode cX4_setAhead 24 = .ok (.iload_n 1, 1) := by decide +kernel
theorem dX4_setAhead_25 : decode cX4_setAhead 25 = .ok (.iload_n 2, 1) := by decide +kernel
theorem dX4_setAhead_26 : decode cX4_setAhead 26 = .ok (.bastore, 1) := by decide +kernel
theorem dX4_setAhead_27 : decode cX4_setAhead 27 = .ok (.aload_n 0, 1) := by decide +kernel
theorem dX4_setAhead_28 : decode cX4_setAhead 28 = .ok (.getfield 33, 3) := by decide +kernel
theorem dX4_setAhead_31 : decode cX4_setAhead 31 = .ok (.iload_n 1, 1) := by decide +kernel
theorem dX4_setAhead_32 : decode cX4_setAhead 32 = .ok (.iconst 0, 1) := by decide +kernel
theorem dX4_setAhead_33 : decode cX4_setAhead 33 = .ok (.iastore, 1) := by decide +kernel
theorem dX4_setAhead_34 : decode cX4_setAhead 34 = .ok (.aload_n 0, 1) := by decide +kernel
theorem dX4_setAhead_35 : decode cX4_setAhead 35 = .ok (.getfield 39, 3) := by decide +kernel
theorem dX4_setAhead_38 : decode cX4_setAhead 38 = .ok (.iload_n 1, 1) := by decide +kernel
theorem dX4_setAhead_39 : decode cX4_setAhead 39 = .ok (.iconst 0, 1) := by decide +kernel
theorem dX4_setAhead_40 : decode cX4_setAhead 40 = .ok (.iastore, 1) := by decide +kernel
theorem dX4_setAhead_41 : decode cX4_setAhead 41 = .ok (.iload_n 3, 1) := by decide +kernel
theorem dX4_setAhead_42 : decode cX4_setAhead 42 = .ok (.ireturn, 1) := by decide +kernel
theorem dX4_accesses_0 : decode cX4_accesses 0 = .ok (.aload_n 0, 1) := by decide +kernel
theorem dX4_accesses_1 : decode cX4_accesses 1 = .ok (.iconst 0, 1) := by decide +kernel
theorem dX4_accesses_2 : decode cX4_accesses 2 = .ok (.putfield 63, 3) := by decide +kernel
theorem dX4_accesses_5 : decode cX4_accesses 5 = .ok (.aload_n 0, 1) := by decide +kernel
theorem dX4_accesses_6 : decode cX4_accesses 6 = .ok (.getfield 70, 3) := by decide +kernel
theorem dX4_accesses_9 : decode cX4_accesses 9 = .ok (.ireturn, 1) := by decide +kernel
theorem dX4_isAccess_0 : decode cX4_isAccess 0 = .ok (.iload_n 1, 1) := by decide +kernel
theorem dX4_isAccess_1 : decode cX4_isAccess 1 = .ok (.iconst 0, 1) := by decide +kernel
theorem dX4_isAccess_2 : decode cX4_isAccess 2 = .ok (.aload_n 0, 1) := by decide +kernel
theorem dX4_isAccess_3 : decode cX4_isAccess 3 = .ok (.getfield 70, 3) := by decide +kernel
theorem dX4_isAccess_6 : decode cX4_isAccess 6 = .ok (.iconst 1, 1) := by decide +kernel
theorem dX4_isAccess_7 : decode cX4_isAccess 7 = .ok (.isub, 1) := by decide +kernel
theorem dX4_isAccess_8 : decode cX4_isAccess 8 = .ok (.invokestatic 76, 3) := by decide +kernel
theorem dX4_isAccess_11 : decode cX4_isAccess 11 = .ok (.ireturn, 1) := by decide +kernel
theorem dX4_costOf_0 : decode cX4_costOf 0 = .ok (.aload_n 0, 1) := by decide +kernel
theorem dX4_costOf_1 : decode cX4_costOf 1 = .ok (.aload_n 0, 1) := by decide +kernel
theorem dX4_costOf_2 : decode cX4_costOf 2 = .ok (.iload_n 1, 1) := by decide +kernel
theorem dX4_costOf_3 : decode cX4_costOf 3 = .ok (.invokevirtual 155, 3) := by decide +kernel
theorem dX4_costOf_6 : decode cX4_costOf 6 = .ok (.invokevirtual 92, 3) := by decide +kernel
theorem dX4_costOf_9 : decode cX4_costOf 9 = .ok (.ifCond .le 7, 3) := by decide +kernel
theorem dX4_costOf_12 : decode cX4_costOf 12 = .ok (.iconst 0, 1) := by decide +kernel
theorem dX4_costOf_13 : decode cX4_costOf 13 = .ok (.goto 9, 3) := by decide +kernel
theorem dX4_costOf_16 : decode cX4_costOf 16 = .ok (.aload_n 0, 1) := by decide +kernel
theorem dX4_costOf_17 : decode cX4_costOf 17 = .ok (.getfield 51, 3) := by decide +kernel
theorem dX4_costOf_20 : decode cX4_costOf 20 = .ok (.iload_n 1, 1) := by decide +kernel
theorem dX4_costOf_21 : decode cX4_costOf 21 = .ok (.iaload, 1) := by decide +kernel
theorem dX4_costOf_22 : decode cX4_costOf 22 = .ok (.ireturn, 1) := by decide +kernel
theorem dX4_costByReplay_0 : decode cX4_costByReplay 0 = .ok (.aload_n 0, 1) := by decide +kernel
theorem dX4_costByReplay_1 : decode cX4_costByReplay 1 = .ok (.iload_n 1, 1) := by decide +kernel
theorem dX4_costByReplay_2 : decode cX4_costByReplay 2 = .ok (.invokevirtual 158, 3) := by decide +kernel
theorem dX4_costByReplay_5 : decode cX4_costByReplay 5 = .ok (.ireturn, 1) := by decide +kernel
theorem dX4_causeOf_0 : decode cX4_causeOf 0 = .ok (.aload_n 0, 1) := by decide +kernel
theorem dX4_causeOf_1 : decode cX4_causeOf 1 = .ok (.aload_n 0, 1) := by decide +kernel
theorem dX4_causeOf_2 : decode cX4_causeOf 2 = .ok (.iload_n 1, 1) := by decide +kernel
theorem dX4_causeOf_3 : decode cX4_causeOf 3 = .ok (.invokevirtual 155, 3) := by decide +kernel
theorem dX4_causeOf_6 : decode cX4_causeOf 6 = .ok (.invokevirtual 92, 3) := by decide +kernel
theorem dX4_causeOf_9 : decode cX4_causeOf 9 = .ok (.ifCond .le 8, 3) := by decide +kernel
theorem dX4_causeOf_12 : decode cX4_causeOf 12 = .ok (.bipush 32, 2) := by decide +kernel
theorem dX4_causeOf_14 : decode cX4_causeOf 14 = .ok (.goto 9, 3) := by decide +kernel
theorem dX4_causeOf_17 : decode cX4_causeOf 17 = .ok (.aload_n 0, 1) := by decide +kernel
theorem dX4_causeOf_18 : decode cX4_causeOf 18 = .ok (.getfield 60, 3) := by decide +kernel
theorem dX4_causeOf_21 : decode cX4_causeOf 21 = .ok (.iload_n 1, 1) := by decide +kernel
theorem dX4_causeOf_22 : decode cX4_causeOf 22 = .ok (.caload, 1) := by decide +kernel
theorem dX4_causeOf_23 : decode cX4_causeOf 23 = .ok (.ireturn, 1) := by decide +kernel
theorem dX4_isLine_0 : decode cX4_isLine 0 = .ok (.iload_n 0, 1) := by decide +kernel
theorem dX4_isLine_1 : decode cX4_isLine 1 = .ok (.iconst 0, 1) := by decide +kernel
theorem dX4_isLine_2 : decode cX4_isLine 2 = .ok (.bipush 63, 2) := by decide +kernel
theorem dX4_isLine_4 : decode cX4_isLine 4 = .ok (.invokestatic 76, 3) := by decide +kernel
theorem dX4_isLine_7 : decode cX4_isLine 7 = .ok (.ireturn, 1) := by decide +kernel
theorem dX4_state_0 : decode cX4_state 0 = .ok (.aload_n 0, 1) := by decide +kernel
theorem dX4_state_1 : decode cX4_state 1 = .ok (.iload_n 1, 1) := by decide +kernel
theorem dX4_state_2 : decode cX4_state 2 = .ok (.invokestatic 130, 3) := by decide +kernel
theorem dX4_state_5 : decode cX4_state 5 = .ok (.ifCond .ne 7, 3) := by decide +kernel
theorem dX4_state_8 : decode cX4_state 8 = .ok (.iconst 1, 1) := by decide +kernel
theorem dX4_state_9 : decode cX4_state 9 = .ok (.goto 15, 3) := by decide +kernel
theorem dX4_state_12 : decode cX4_state 12 = .ok (.iload_n 2, 1) := by decide +kernel
theorem dX4_state_13 : decode cX4_state 13 = .ok (.invokestatic 161, 3) := by decide +kernel
theorem dX4_state_16 : decode cX4_state 16 = .ok (.ifCond .ne 7, 3) := by decide +kernel
theorem dX4_state_19 : decode cX4_state 19 = .ok (.iconst 2, 1) := by decide +kernel
theorem dX4_state_20 : decode cX4_state 20 = .ok (.goto 4, 3) := by decide +kernel
theorem dX4_state_23 : decode cX4_state 23 = .ok (.iconst 0, 1) := by decide +kernel
theorem dX4_state_24 : decode cX4_state 24 = .ok (.putfield 63, 3) := by decide +kernel
theorem dX4_state_27 : decode cX4_state 27 = .ok (.aload_n 0, 1) := by decide +kernel
theorem dX4_state_28 : decode cX4_state 28 = .ok (.getfield 63, 3) := by decide +kernel
theorem dX4_state_31 : decode cX4_state 31 = .ok (.ifCond .le 8, 3) := by decide +kernel
theorem dX4_state_34 : decode cX4_state 34 = .ok (.bipush 32, 2) := by decide +kernel
theorem dX4_state_36 : decode cX4_state 36 = .ok (.goto 13, 3) := by decide +kernel
theorem dX4_state_39 : decode cX4_state 39 = .ok (.aload_n 0, 1) := by decide +kernel
theorem dX4_state_40 : decode cX4_state 40 = .ok (.getfield 16, 3) := by decide +kernel
theorem dX4_state_43 : decode cX4_state 43 = .ok (.iload_n 1, 1) := by decide +kernel
theorem dX4_state_44 : decode cX4_state 44 = .ok (.iload_n 2, 1) := by decide +kernel
theorem dX4_state_45 : decode cX4_state 45 = .ok (.invokestatic 100, 3) := by decide +kernel
theorem dX4_state_48 : decode cX4_state 48 = .ok (.caload, 1) := by decide +kernel
theorem dX4_state_49 : decode cX4_state 49 = .ok (.ireturn, 1) := by decide +kernel
theorem dX4_owner_0 : decode cX4_owner 0 = .ok (.aload_n 0, 1) := by decide +kernel
theorem dX4_owner_1 : decode cX4_owner 1 = .ok (.iload_n 1, 1) := by decide +kernel
theorem dX4_owner_2 : decode cX4_owner 2 = .ok (.invokestatic 161, 3) := by decide +kernel
theorem dX4_owner_5 : decode cX4_owner 5 = .ok (.ifCond .ne 7, 3) := by decide +kernel
theorem dX4_owner_8 : decode cX4_owner 8 = .ok (.iconst 1, 1) := by decide +kernel
theorem dX4_owner_9 : decode cX4_owner 9 = .ok (.goto 16, 3) := by decide +kernel
theorem dX4_owner_12 : decode cX4_owner 12 = .ok (.aload_n 0, 1) := by decide +kernel
theorem dX4_owner_13 : decode cX4_owner 13 = .ok (.iload_n 1, 1) := by decide +kernel
theorem dX4_owner_14 : decode cX4_owner 14 = .ok (.invokevirtual 120, 3) := by decide +kernel
theorem dX4_owner_17 : decode cX4_owner 17 = .ok (.ifCond .ge 7, 3) := by decide +kernel
theorem dX4_owner_20 : decode cX4_owner 20 = .ok (.iconst 2, 1) := by decide +kernel
theorem dX4_owner_21 : decode cX4_owner 21 = .ok (.goto 4, 3) := by decide +kernel
theorem dX4_owner_24 : decode cX4_owner 24 = .ok (.iconst 0, 1) := by decide +kernel
theorem dX4_owner_25 : decode cX4_owner 25 = .ok (.putfield 63, 3) := by decide +kernel
theorem dX4_owner_28 : decode cX4_owner 28 = .ok (.aload_n 0, 1) := by decide +kernel
theorem dX4_owner_29 : decode cX4_owner 29 = .ok (.getfield 63, 3) := by decide +kernel
theorem dX4_owner_32 : decode cX4_owner 32 = .ok (.ifCond .le 7, 3) := by decide +kernel
theorem dX4_owner_35 : decode cX4_owner 35 = .ok (.iconst 0, 1) := by decide +kernel
theorem dX4_owner_36 : decode cX4_owner 36 = .ok (.goto 8, 3) := by decide +kernel
theorem dX4_owner_39 : decode cX4_owner 39 = .ok (.aload_n 0, 1) := by decide +kernel
theorem dX4_owner_40 : decode cX4_owner 40 = .ok (.iload_n 1, 1) := by decide +kernel
theorem dX4_owner_41 : decode cX4_owner 41 = .ok (.invokevirtual 120, 3) := by decide +kernel
theorem dX4_owner_44 : decode cX4_owner 44 = .ok (.ireturn, 1) := by decide +kernel
theorem dX4_holders_0 : decode cX4_holders 0 = .ok (.aload_n 0, 1) := by decide +kernel
theorem dX4_holders_1 : decode cX4_holders 1 = .ok (.iload_n 1, 1) := by decide +kernel
theorem dX4_holders_2 : decode cX4_holders 2 = .ok (.invokestatic 161, 3) := by decide +kernel
theorem dX4_holders_5 : decode cX4_holders 5 = .ok (.invokevirtual 92, 3) := by decide +kernel
theorem dX4_holders_8 : decode cX4_holders 8 = .ok (.ifCond .le 7, 3) := by decide +kernel
theorem dX4_holders_11 : decode cX4_holders 11 = .ok (.iconst 0, 1) := by decide +kernel
theorem dX4_holders_12 : decode cX4_holders 12 = .ok (.goto 9, 3) := by decide +kernel
theorem dX4_holders_15 : decode cX4_holders 15 = .ok (.aload_n 0, 1) := by decide +kernel
theorem dX4_holders_16 : decode cX4_holders 16 = .ok (.iconst (-1), 1) := by decide +kernel
theorem dX4_holders_17 : decode cX4_holders 17 = .ok (.iload_n 1, 1) := by decide +kernel
theorem dX4_holders_18 : decode cX4_holders 18 = .ok (.invokevirtual 123, 3) := by decide +kernel
theorem dX4_holders_21 : decode cX4_holders 21 = .ok (.ireturn, 1) := by decide +kernel
theorem dX4_lines_0 : decode cX4_lines 0 = .ok (.aload_n 0, 1) := by decide +kernel
theorem dX4_lines_1 : decode cX4_lines 1 = .ok (.iload_n 1, 1) := by decide +kernel
theorem dX4_lines_2 : decode cX4_lines 2 = .ok (.invokestatic 130, 3) := by decide +kernel
theorem dX4_lines_5 : decode cX4_lines 5 = .ok (.invokevirtual 92, 3) := by decide +kernel
theorem dX4_lines_8 : decode cX4_lines 8 = .ok (.ifCond .le 5, 3) := by decide +kernel
theorem dX4_lines_11 : decode cX4_lines 11 = .ok (.iconst 0, 1) := by decide +kernel
theorem dX4_lines_12 : decode cX4_lines 12 = .ok (.ireturn, 1) := by decide +kernel
theorem dX4_lines_13 : decode cX4_lines 13 = .ok (.iconst 0, 1) := by decide +kernel
theorem dX4_lines_14 : decode cX4_lines 14 = .ok (.istore_n 2, 1) := by decide +kernel
theorem dX4_lines_15 : decode cX4_lines 15 = .ok (.iconst 0, 1) := by decide +kernel
theorem dX4_lines_16 : decode cX4_lines 16 = .ok (.istore_n 3, 1) := by decide +kernel
theorem dX4_lines_17 : decode cX4_lines 17 = .ok (.iload_n 3, 1) := by decide +kernel
theorem dX4_lines_18 : decode cX4_lines 18 = .ok (.iconst 4, 1) := by decide +kernel
theorem dX4_lines_19 : decode cX4_lines 19 = .ok (.if_icmp .ge 18, 3) := by decide +kernel
theorem dX4_lines_22 : decode cX4_lines 22 = .ok (.iload_n 2, 1) := by decide +kernel
theorem dX4_lines_23 : decode cX4_lines 23 = .ok (.aload_n 0, 1) := by decide +kernel
theorem dX4_lines_24 : decode cX4_lines 24 = .ok (.iload_n 1, 1) := by decide +kernel
theorem dX4_lines_25 : decode cX4_lines 25 = .ok (.iload_n 3, 1) := by decide +kernel
theorem dX4_lines_26 : decode cX4_lines 26 = .ok (.invokevirtual 106, 3) := by decide +kernel
theorem dX4_lines_29 : decode cX4_lines 29 = .ok (.iadd, 1) := by decide +kernel
theorem dX4_lines_30 : decode cX4_lines 30 = .ok (.istore_n 2, 1) := by decide +kernel
theorem dX4_lines_31 : decode cX4_lines 31 = .ok (.iinc 3 1, 3) := by decide +kernel
theorem dX4_lines_34 : decode cX4_lines 34 = .ok (.goto (-17), 3) := by decide +kernel
theorem dX4_lines_37 : decode cX4_lines 37 = .ok (.iload_n 2, 1) := by decide +kernel
theorem dX4_lines_38 : decode cX4_lines 38 = .ok (.ireturn, 1) := by decide +kernel
theorem dX4_oldest_0 : decode cX4_oldest 0 = .ok (.aload_n 0, 1) := by decide +kernel
theorem dX4_oldest_1 : decode cX4_oldest 1 = .ok (.iload_n 1, 1) := by decide +kernel
theorem dX4_oldest_2 : decode cX4_oldest 2 = .ok (.invokestatic 130, 3) := by decide +kernel
theorem dX4_oldest_5 : decode cX4_oldest 5 = .ok (.ifCond .ne 7, 3) := by decide +kernel
theorem dX4_oldest_8 : decode cX4_oldest 8 = .ok (.iconst 1, 1) := by decide +kernel
theorem dX4_oldest_9 : decode cX4_oldest 9 = .ok (.goto 30, 3) := by decide +kernel
theorem dX4_oldest_12 : decode cX4_oldest 12 = .ok (.iload_n 2, 1) := by decide +kernel
theorem dX4_oldest_13 : decode cX4_oldest 13 = .ok (.iconst 0, 1) := by decide +kernel
theorem dX4_oldest_14 : decode cX4_oldest 14 = .ok (.iconst 3, 1) := by decide +kernel
theorem dX4_oldest_15 : decode cX4_oldest 15 = .ok (.invokestatic 76, 3) := by decide +kernel
theorem dX4_oldest_18 : decode cX4_oldest 18 = .ok (.ifCond .ne 7, 3) := by decide +kernel
theorem dX4_oldest_21 : decode cX4_oldest 21 = .ok (.iconst 2, 1) := by decide +kernel
theorem dX4_oldest_22 : decode cX4_oldest 22 = .ok (.goto 17, 3) := by decide +kernel
theorem dX4_oldest_25 : decode cX4_oldest 25 = .ok (.aload_n 0, 1) := by decide +kernel
theorem dX4_oldest_26 : decode cX4_oldest 26 = .ok (.iload_n 1, 1) := by decide +kernel
theorem dX4_oldest_27 : decode cX4_oldest 27 = .ok (.iload_n 2, 1) := by decide +kernel
theorem dX4_oldest_28 : decode cX4_oldest 28 = .ok (.invokevirtual 109, 3) := by decide +kernel
theorem dX4_oldest_31 : decode cX4_oldest 31 = .ok (.ifCond .ge 7, 3) := by decide +kernel
theorem dX4_oldest_34 : decode cX4_oldest 34 = .ok (.iconst 3, 1) := by decide +kernel
theorem dX4_oldest_35 : decode cX4_oldest 35 = .ok (.goto 4, 3) := by decide +kernel
theorem dX4_oldest_38 : decode cX4_oldest 38 = .ok (.iconst 0, 1) := by decide +kernel
theorem dX4_oldest_39 : decode cX4_oldest 39 = .ok (.putfield 63, 3) := by decide +kernel
theorem dX4_oldest_42 : decode cX4_oldest 42 = .ok (.aload_n 0, 1) := by decide +kernel
theorem dX4_oldest_43 : decode cX4_oldest 43 = .ok (.getfield 63, 3) := by decide +kernel
theorem dX4_oldest_46 : decode cX4_oldest 46 = .ok (.ifCond .le 7, 3) := by decide +kernel
theorem dX4_oldest_49 : decode cX4_oldest 49 = .ok (.iconst 0, 1) := by decide +kernel
theorem dX4_oldest_50 : decode cX4_oldest 50 = .ok (.goto 9, 3) := by decide +kernel
theorem dX4_oldest_53 : decode cX4_oldest 53 = .ok (.aload_n 0, 1) := by decide +kernel
theorem dX4_oldest_54 : decode cX4_oldest 54 = .ok (.iload_n 1, 1) := by decide +kernel
theorem dX4_oldest_55 : decode cX4_oldest 55 = .ok (.iload_n 2, 1) := by decide +kernel
theorem dX4_oldest_56 : decode cX4_oldest 56 = .ok (.invokevirtual 109, 3) := by decide +kernel
theorem dX4_oldest_59 : decode cX4_oldest 59 = .ok (.ireturn, 1) := by decide +kernel
theorem dX4_isCause_0 : decode cX4_isCause 0 = .ok (.iload_n 0, 1) := by decide +kernel
theorem dX4_isCause_1 : decode cX4_isCause 1 = .ok (.bipush 104, 2) := by decide +kernel
theorem dX4_isCause_3 : decode cX4_isCause 3 = .ok (.if_icmp .eq 33, 3) := by decide +kernel
theorem dX4_isCause_6 : decode cX4_isCause 6 = .ok (.iload_n 0, 1) := by decide +kernel
theorem dX4_isCause_7 : decode cX4_isCause 7 = .ok (.bipush 117, 2) := by decide +kernel
theorem dX4_isCause_9 : decode cX4_isCause 9 = .ok (.if_icmp .eq 27, 3) := by decide +kernel
theorem dX4_isCause_12 : decode cX4_isCause 12 = .ok (.iload_n 0, 1) := by decide +kernel
theorem dX4_isCause_13 : decode cX4_isCause 13 = .ok (.bipush 99, 2) := by decide +kernel
theorem dX4_isCause_15 : decode cX4_isCause 15 = .ok (.if_icmp .eq 21, 3) := by decide +kernel
theorem dX4_isCause_18 : decode cX4_isCause 18 = .ok (.iload_n 0, 1) := by decide +kernel
theorem dX4_isCause_19 : decode cX4_isCause 19 = .ok (.bipush 101, 2) := by decide +kernel
theorem dX4_isCause_21 : decode cX4_isCause 21 = .ok (.if_icmp .eq 15, 3) := by decide +kernel
theorem dX4_isCause_24 : decode cX4_isCause 24 = .ok (.iload_n 0, 1) := by decide +kernel
theorem dX4_isCause_25 : decode cX4_isCause 25 = .ok (.bipush 116, 2) := by decide +kernel
theorem dX4_isCause_27 : decode cX4_isCause 27 = .ok (.if_icmp .eq 9, 3) := by decide +kernel
theorem dX4_isCause_30 : decode cX4_isCause 30 = .ok (.iload_n 0, 1) := by decide +kernel
theorem dX4_isCause_31 : decode cX4_isCause 31 = .ok (.bipush 102, 2) := by decide +kernel
theorem dX4_isCause_33 : decode cX4_isCause 33 = .ok (.if_icmp .ne 7, 3) := by decide +kernel
theorem dX4_isCause_36 : decode cX4_isCause 36 = .ok (.iconst 1, 1) := by decide +kernel
theorem dX4_isCause_37 : decode cX4_isCause 37 = .ok (.goto 4, 3) := by decide +kernel
theorem dX4_isCause_40 : decode cX4_isCause 40 = .ok (.iconst 0, 1) := by decide +kernel
theorem dX4_isCause_41 : decode cX4_isCause 41 = .ok (.ireturn, 1) := by decide +kernel
theorem dX4_count_0 : decode cX4_count 0 = .ok (.aload_n 0, 1) := by decide +kernel
theorem dX4_count_1 : decode cX4_count 1 = .ok (.aload_n 0, 1) := by decide +kernel
theorem dX4_count_2 : decode cX4_count 2 = .ok (.iload_n 1, 1) := by decide +kernel
theorem dX4_count_3 : decode cX4_count 3 = .ok (.invokevirtual 84, 3) := by decide +kernel
theorem dX4_count_6 : decode cX4_count 6 = .ok (.ifCond .ne 7, 3) := by decide +kernel
theorem dX4_count_9 : decode cX4_count 9 = .ok (.iconst 1, 1) := by decide +kernel
theorem dX4_count_10 : decode cX4_count 10 = .ok (.goto 15, 3) := by decide +kernel
theorem dX4_count_13 : decode cX4_count 13 = .ok (.iload_n 2, 1) := by decide +kernel
theorem dX4_count_14 : decode cX4_count 14 = .ok (.invokestatic 164, 3) := by decide +kernel
theorem dX4_count_17 : decode cX4_count 17 = .ok (.ifCond .ne 7, 3) := by decide +kernel
theorem dX4_count_20 : decode cX4_count 20 = .ok (.iconst 2, 1) := by decide +kernel
theorem dX4_count_21 : decode cX4_count 21 = .ok (.goto 4, 3) := by decide +kernel
theorem dX4_count_24 : decode cX4_count 24 = .ok (.iconst 0, 1) := by decide +kernel
theorem dX4_count_25 : decode cX4_count 25 = .ok (.putfield 63, 3) := by decide +kernel
theorem dX4_count_28 : decode cX4_count 28 = .ok (.aload_n 0, 1) := by decide +kernel
theorem dX4_count_29 : decode cX4_count 29 = .ok (.getfield 63, 3) := by decide +kernel
theorem dX4_count_32 : decode cX4_count 32 = .ok (.ifCond .le 5, 3) := by decide +kernel
theorem dX4_count_35 : decode cX4_count 35 = .ok (.iconst 0, 1) := by decide +kernel
theorem dX4_count_36 : decode cX4_count 36 = .ok (.ireturn, 1) := by decide +kernel
theorem dX4_count_37 : decode cX4_count 37 = .ok (.iconst 0, 1) := by decide +kernel
theorem dX4_count_38 : decode cX4_count 38 = .ok (.istore_n 3, 1) := by decide +kernel
theorem dX4_count_39 : decode cX4_count 39 = .ok (.iconst 0, 1) := by decide +kernel
theorem dX4_count_40 : decode cX4_count 40 = .ok (.istore 4, 2) := by decide +kernel
theorem dX4_count_42 : decode cX4_count 42 = .ok (.iload 4, 2) := by decide +kernel
theorem dX4_count_44 : decode cX4_count 44 = .ok (.aload_n 0, 1) := by decide +kernel
theorem dX4_count_45 : decode cX4_count 45 = .ok (.getfield 70, 3) := by decide +kernel
theorem dX4_count_48 : decode cX4_count 48 = .ok (.if_icmp .ge 39, 3) := by decide +kernel
theorem dX4_count_51 : decode cX4_count 51 = .ok (.iload_n 3, 1) := by decide +kernel
theorem dX4_count_52 : decode cX4_count 52 = .ok (.aload_n 0, 1) := by decide +kernel
theorem dX4_count_53 : decode cX4_count 53 = .ok (.getfield 54, 3) := by decide +kernel
theorem dX4_count_56 : decode cX4_count 56 = .ok (.iload 4, 2) := by decide +kernel
theorem dX4_count_58 : decode cX4_count 58 = .ok (.iaload, 1) := by decide +kernel
theorem dX4_count_59 : decode cX4_count 59 = .ok (.iload_n 1, 1) := by decide +kernel
theorem dX4_count_60 : decode cX4_count 60 = .ok (.if_icmp .ne 18, 3) := by decide +kernel
theorem dX4_count_63 : decode cX4_count 63 = .ok (.aload_n 0, 1) := by decide +kernel
theorem dX4_count_64 : decode cX4_count 64 = .ok (.getfield 60, 3) := by decide +kernel
theorem dX4_count_67 : decode cX4_count 67 = .ok (.iload 4, 2) := by decide +kernel
theorem dX4_count_69 : decode cX4_count 69 = .ok (.caload, 1) := by decide +kernel
theorem dX4_count_70 : decode cX4_count 70 = .ok (.iload_n 2, 1) := by decide +kernel
theorem dX4_count_71 : decode cX4_count 71 = .ok (.if_icmp .ne 7, 3) := by decide +kernel
theorem dX4_count_74 : decode cX4_count 74 = .ok (.iconst 1, 1) := by decide +kernel
theorem dX4_count_75 : decode cX4_count 75 = .ok (.goto 4, 3) := by decide +kernel
theorem dX4_count_78 : decode cX4_count 78 = .ok (.iconst 0, 1) := by decide +kernel
theorem dX4_count_79 : decode cX4_count 79 = .ok (.iadd, 1) := by decide +kernel
theorem dX4_count_80 : decode cX4_count 80 = .ok (.istore_n 3, 1) := by decide +kernel
theorem dX4_count_81 : decode cX4_count 81 = .ok (.iinc 4 1, 3) := by decide +kernel
theorem dX4_count_84 : decode cX4_count 84 = .ok (.goto (-42), 3) := by decide +kernel
theorem dX4_count_87 : decode cX4_count 87 = .ok (.iload_n 3, 1) := by decide +kernel
theorem dX4_count_88 : decode cX4_count 88 = .ok (.ireturn, 1) := by decide +kernel
theorem dX4_billFor_0 : decode cX4_billFor 0 = .ok (.lconst 0, 1) := by decide +kernel
theorem dX4_billFor_1 : decode cX4_billFor 1 = .ok (.lstore_n 2, 1) := by decide +kernel
theorem dX4_billFor_2 : decode cX4_billFor 2 = .ok (.iconst 0, 1) := by decide +kernel
theorem dX4_billFor_3 : decode cX4_billFor 3 = .ok (.istore 4, 2) := by decide +kernel
theorem dX4_billFor_5 : decode cX4_billFor 5 = .ok (.iload 4, 2) := by decide +kernel
theorem dX4_billFor_7 : decode cX4_billFor 7 = .ok (.aload_n 0, 1) := by decide +kernel
theorem dX4_billFor_8 : decode cX4_billFor 8 = .ok (.getfield 70, 3) := by decide +kernel
theorem dX4_billFor_11 : decode cX4_billFor 11 = .ok (.if_icmp .ge 35, 3) := by decide +kernel
theorem dX4_billFor_14 : decode cX4_billFor 14 = .ok (.lload_n 2, 1) := by decide +kernel
theorem dX4_billFor_15 : decode cX4_billFor 15 = .ok (.aload_n 0, 1) := by decide +kernel
theorem dX4_billFor_16 : decode cX4_billFor 16 = .ok (.getfield 54, 3) := by decide +kernel
theorem dX4_billFor_19 : decode cX4_billFor 19 = .ok (.iload 4, 2) := by decide +kernel
theorem dX4_billFor_21 : decode cX4_billFor 21 = .ok (.iaload, 1) := by decide +kernel
theorem dX4_billFor_22 : decode cX4_billFor 22 = .ok (.iload_n 1, 1) := by decide +kernel
theorem dX4_billFor_23 : decode cX4_billFor 23 = .ok (.if_icmp .ne 14, 3) := by decide +kernel
theorem dX4_billFor_26 : decode cX4_billFor 26 = .ok (.aload_n 0, 1) := by decide +kernel
theorem dX4_billFor_27 : decode cX4_billFor 27 = .ok (.getfield 51, 3) := by decide +kernel
theorem dX4_billFor_30 : decode cX4_billFor 30 = .ok (.iload 4, 2) := by decide +kernel
theorem dX4_billFor_32 : decode cX4_billFor 32 = .ok (.iaload, 1) := by decide +kernel
theorem dX4_billFor_33 : decode cX4_billFor 33 = .ok (.i2l, 1) := by decide +kernel
theorem dX4_billFor_34 : decode cX4_billFor 34 = .ok (.goto 4, 3) := by decide +kernel
theorem dX4_billFor_37 : decode cX4_billFor 37 = .ok (.lconst 0, 1) := by decide +kernel
theorem dX4_billFor_38 : decode cX4_billFor 38 = .ok (.ladd, 1) := by decide +kernel
theorem dX4_billFor_39 : decode cX4_billFor 39 = .ok (.lstore_n 2, 1) := by decide +kernel
theorem dX4_billFor_40 : decode cX4_billFor 40 = .ok (.iinc 4 1, 3) := by decide +kernel
theorem dX4_billFor_43 : decode cX4_billFor 43 = .ok (.goto (-38), 3) := by decide +kernel
theorem dX4_billFor_46 : decode cX4_billFor 46 = .ok (.lload_n 2, 1) := by decide +kernel
theorem dX4_billFor_47 : decode cX4_billFor 47 = .ok (.lreturn, 1) := by decide +kernel
theorem dX4_bill_0 : decode cX4_bill 0 = .ok (.aload_n 0, 1) := by decide +kernel
theorem dX4_bill_1 : decode cX4_bill 1 = .ok (.aload_n 0, 1) := by decide +kernel
theorem dX4_bill_2 : decode cX4_bill 2 = .ok (.iload_n 1, 1) := by decide +kernel
theorem dX4_bill_3 : decode cX4_bill 3 = .ok (.invokevirtual 84, 3) := by decide +kernel
theorem dX4_bill_6 : decode cX4_bill 6 = .ok (.invokevirtual 92, 3) := by decide +kernel
theorem dX4_bill_9 : decode cX4_bill 9 = .ok (.ifCond .le 7, 3) := by decide +kernel
theorem dX4_bill_12 : decode cX4_bill 12 = .ok (.lconst 0, 1) := by decide +kernel
theorem dX4_bill_13 : decode cX4_bill 13 = .ok (.goto 8, 3) := by decide +kernel
theorem dX4_bill_16 : decode cX4_bill 16 = .ok (.aload_n 0, 1) := by decide +kernel
theorem dX4_bill_17 : decode cX4_bill 17 = .ok (.iload_n 1, 1) := by decide +kernel
theorem dX4_bill_18 : decode cX4_bill 18 = .ok (.invokevirtual 168, 3) := by decide +kernel
theorem dX4_bill_21 : decode cX4_bill 21 = .ok (.lreturn, 1) := by decide +kernel
theorem dX4_worst_0 : decode cX4_worst 0 = .ok (.aload_n 0, 1) := by decide +kernel
theorem dX4_worst_1 : decode cX4_worst 1 = .ok (.aload_n 0, 1) := by decide +kernel
theorem dX4_worst_2 : decode cX4_worst 2 = .ok (.getfield 67, 3) := by decide +kernel
theorem dX4_worst_5 : decode cX4_worst 5 = .ok (.ifCond .le 7, 3) := by decide +kernel
theorem dX4_worst_8 : decode cX4_worst 8 = .ok (.iconst 1, 1) := by decide +kernel
theorem dX4_worst_9 : decode cX4_worst 9 = .ok (.goto 4, 3) := by decide +kernel
theorem dX4_worst_12 : decode cX4_worst 12 = .ok (.iconst 0, 1) := by decide +kernel
theorem dX4_worst_13 : decode cX4_worst 13 = .ok (.invokevirtual 92, 3) := by decide +kernel
theorem dX4_worst_16 : decode cX4_worst 16 = .ok (.ifCond .le 5, 3) := by decide +kernel
theorem dX4_worst_19 : decode cX4_worst 19 = .ok (.iconst 0, 1) := by decide +kernel
theorem dX4_worst_20 : decode cX4_worst 20 = .ok (.ireturn, 1) := by decide +kernel
theorem dX4_worst_21 : decode cX4_worst 21 = .ok (.iconst 0, 1) := by decide +kernel
theorem dX4_worst_22 : decode cX4_worst 22 = .ok (.istore_n 1, 1) := by decide +kernel
theorem dX4_worst_23 : decode cX4_worst 23 = .ok (.iconst 1, 1) := by decide +kernel
theorem dX4_worst_24 : decode cX4_worst 24 = .ok (.istore_n 2, 1) := by decide +kernel
theorem dX4_worst_25 : decode cX4_worst 25 = .ok (.iload_n 2, 1) := by decide +kernel
theorem dX4_worst_26 : decode cX4_worst 26 = .ok (.aload_n 0, 1) := by decide +kernel
theorem dX4_worst_27 : decode cX4_worst 27 = .ok (.getfield 67, 3) := by decide +kernel
theorem dX4_worst_30 : decode cX4_worst 30 = .ok (.if_icmp .ge 25, 3) := by decide +kernel
theorem dX4_worst_33 : decode cX4_worst 33 = .ok (.aload_n 0, 1) := by decide +kernel
theorem dX4_worst_34 : decode cX4_worst 34 = .ok (.iload_n 2, 1) := by decide +kernel
theorem dX4_worst_35 : decode cX4_worst 35 = .ok (.invokevirtual 168, 3) := by decide +kernel
theorem dX4_worst_38 : decode cX4_worst 38 = .ok (.aload_n 0, 1) := by decide +kernel
theorem dX4_worst_39 : decode cX4_worst 39 = .ok (.iload_n 1, 1) := by decide +kernel
theorem dX4_worst_40 : decode cX4_worst 40 = .ok (.invokevirtual 168, 3) := by decide +kernel
theorem dX4_worst_43 : decode cX4_worst 43 = .ok (.lcmp, 1) := by decide +kernel
theorem dX4_worst_44 : decode cX4_worst 44 = .ok (.ifCond .le 5, 3) := by decide +kernel
theorem dX4_worst_47 : decode cX4_worst 47 = .ok (.iload_n 2, 1) := by decide +kernel
theorem dX4_worst_48 : decode cX4_worst 48 = .ok (.istore_n 1, 1) := by decide +kernel
theorem dX4_worst_49 : decode cX4_worst 49 = .ok (.iinc 2 1, 3) := by decide +kernel
theorem dX4_worst_52 : decode cX4_worst 52 = .ok (.goto (-27), 3) := by decide +kernel
theorem dX4_worst_55 : decode cX4_worst 55 = .ok (.iload_n 1, 1) := by decide +kernel
theorem dX4_worst_56 : decode cX4_worst 56 = .ok (.ireturn, 1) := by decide +kernel
theorem dX4_cycles_0 : decode cX4_cycles 0 = .ok (.aload_n 0, 1) := by decide +kernel
theorem dX4_cycles_1 : decode cX4_cycles 1 = .ok (.iload_n 1, 1) := by decide +kernel
theorem dX4_cycles_2 : decode cX4_cycles 2 = .ok (.invokestatic 130, 3) := by decide +kernel
theorem dX4_cycles_5 : decode cX4_cycles 5 = .ok (.invokevirtual 92, 3) := by decide +kernel
theorem dX4_cycles_8 : decode cX4_cycles 8 = .ok (.ifCond .le 5, 3) := by decide +kernel
theorem dX4_cycles_11 : decode cX4_cycles 11 = .ok (.lconst 0, 1) := by decide +kernel
theorem dX4_cycles_12 : decode cX4_cycles 12 = .ok (.lreturn, 1) := by decide +kernel
theorem dX4_cycles_13 : decode cX4_cycles 13 = .ok (.lconst 0, 1) := by decide +kernel
theorem dX4_cycles_14 : decode cX4_cycles 14 = .ok (.lstore_n 2, 1) := by decide +kernel
theorem dX4_cycles_15 : decode cX4_cycles 15 = .ok (.iconst 0, 1) := by decide +kernel
theorem dX4_cycles_16 : decode cX4_cycles 16 = .ok (.istore 4, 2) := by decide +kernel
theorem dX4_cycles_18 : decode cX4_cycles 18 = .ok (.iload 4, 2) := by decide +kernel
theorem dX4_cycles_20 : decode cX4_cycles 20 = .ok (.aload_n 0, 1) := by decide +kernel
theorem dX4_cycles_21 : decode cX4_cycles 21 = .ok (.getfield 70, 3) := by decide +kernel
theorem dX4_cycles_24 : decode cX4_cycles 24 = .ok (.if_icmp .ge 35, 3) := by decide +kernel
theorem dX4_cycles_27 : decode cX4_cycles 27 = .ok (.lload_n 2, 1) := by decide +kernel
theorem dX4_cycles_28 : decode cX4_cycles 28 = .ok (.aload_n 0, 1) := by decide +kernel
theorem dX4_cycles_29 : decode cX4_cycles 29 = .ok (.getfield 57, 3) := by decide +kernel
theorem dX4_cycles_32 : decode cX4_cycles 32 = .ok (.iload 4, 2) := by decide +kernel
theorem dX4_cycles_34 : decode cX4_cycles 34 = .ok (.iaload, 1) := by decide +kernel
theorem dX4_cycles_35 : decode cX4_cycles 35 = .ok (.iload_n 1, 1) := by decide +kernel
theorem dX4_cycles_36 : decode cX4_cycles 36 = .ok (.if_icmp .ne 14, 3) := by decide +kernel
theorem dX4_cycles_39 : decode cX4_cycles 39 = .ok (.aload_n 0, 1) := by decide +kernel
theorem dX4_cycles_40 : decode cX4_cycles 40 = .ok (.getfield 51, 3) := by decide +kernel
theorem dX4_cycles_43 : decode cX4_cycles 43 = .ok (.iload 4, 2) := by decide +kernel
theorem dX4_cycles_45 : decode cX4_cycles 45 = .ok (.iaload, 1) := by decide +kernel
theorem dX4_cycles_46 : decode cX4_cycles 46 = .ok (.i2l, 1) := by decide +kernel
theorem dX4_cycles_47 : decode cX4_cycles 47 = .ok (.goto 4, 3) := by decide +kernel
theorem dX4_cycles_50 : decode cX4_cycles 50 = .ok (.lconst 0, 1) := by decide +kernel
theorem dX4_cycles_51 : decode cX4_cycles 51 = .ok (.ladd, 1) := by decide +kernel
theorem dX4_cycles_52 : decode cX4_cycles 52 = .ok (.lstore_n 2, 1) := by decide +kernel
theorem dX4_cycles_53 : decode cX4_cycles 53 = .ok (.iinc 4 1, 3) := by decide +kernel
theorem dX4_cycles_56 : decode cX4_cycles 56 = .ok (.goto (-38), 3) := by decide +kernel
theorem dX4_cycles_59 : decode cX4_cycles 59 = .ok (.lload_n 2, 1) := by decide +kernel
theorem dX4_cycles_60 : decode cX4_cycles 60 = .ok (.lreturn, 1) := by decide +kernel
theorem dX4_fetched_0 : decode cX4_fetched 0 = .ok (.aload_n 0, 1) := by decide +kernel
theorem dX4_fetched_1 : decode cX4_fetched 1 = .ok (.iload_n 1, 1) := by decide +kernel
theorem dX4_fetched_2 : decode cX4_fetched 2 = .ok (.invokestatic 130, 3) := by decide +kernel
theorem dX4_fetched_5 : decode cX4_fetched 5 = .ok (.invokevirtual 92, 3) := by decide +kernel
theorem dX4_fetched_8 : decode cX4_fetched 8 = .ok (.ifCond .le 7, 3) := by decide +kernel
theorem dX4_fetched_11 : decode cX4_fetched 11 = .ok (.iconst 0, 1) := by decide +kernel
theorem dX4_fetched_12 : decode cX4_fetched 12 = .ok (.goto 9, 3) := by decide +kernel
theorem dX4_fetched_15 : decode cX4_fetched 15 = .ok (.aload_n 0, 1) := by decide +kernel
theorem dX4_fetched_16 : decode cX4_fetched 16 = .ok (.getfield 42, 3) := by decide +kernel
theorem dX4_fetched_19 : decode cX4_fetched 19 = .ok (.iload_n 1, 1) := by decide +kernel
theorem dX4_fetched_20 : decode cX4_fetched 20 = .ok (.iaload, 1) := by decide +kernel
theorem dX4_fetched_21 : decode cX4_fetched 21 = .ok (.ireturn, 1) := by decide +kernel
theorem dX4_useful_0 : decode cX4_useful 0 = .ok (.aload_n 0, 1) := by decide +kernel
theorem dX4_useful_1 : decode cX4_useful 1 = .ok (.iload_n 1, 1) := by decide +kernel
theorem dX4_useful_2 : decode cX4_useful 2 = .ok (.invokestatic 130, 3) := by decide +kernel
theorem dX4_useful_5 : decode cX4_useful 5 = .ok (.invokevirtual 92, 3) := by decide +kernel
theorem dX4_useful_8 : decode cX4_useful 8 = .ok (.ifCond .le 7, 3) := by decide +kernel
theorem dX4_useful_11 : decode cX4_useful 11 = .ok (.iconst 0, 1) := by decide +kernel
theorem dX4_useful_12 : decode cX4_useful 12 = .ok (.goto 9, 3) := by decide +kernel
theorem dX4_useful_15 : decode cX4_useful 15 = .ok (.aload_n 0, 1) := by decide +kernel
theorem dX4_useful_16 : decode cX4_useful 16 = .ok (.getfield 45, 3) := by decide +kernel
theorem dX4_useful_19 : decode cX4_useful 19 = .ok (.iload_n 1, 1) := by decide +kernel
theorem dX4_useful_20 : decode cX4_useful 20 = .ok (.iaload, 1) := by decide +kernel
theorem dX4_useful_21 : decode cX4_useful 21 = .ok (.ireturn, 1) := by decide +kernel
theorem dX4_wrong_0 : decode cX4_wrong 0 = .ok (.aload_n 0, 1) := by decide +kernel
theorem dX4_wrong_1 : decode cX4_wrong 1 = .ok (.iload_n 1, 1) := by decide +kernel
theorem dX4_wrong_2 : decode cX4_wrong 2 = .ok (.invokestatic 130, 3) := by decide +kernel
theorem dX4_wrong_5 : decode cX4_wrong 5 = .ok (.invokevirtual 92, 3) := by decide +kernel
theorem dX4_wrong_8 : decode cX4_wrong 8 = .ok (.ifCond .le 7, 3) := by decide +kernel
theorem dX4_wrong_11 : decode cX4_wrong 11 = .ok (.iconst 0, 1) := by decide +kernel
theorem dX4_wrong_12 : decode cX4_wrong 12 = .ok (.goto 9, 3) := by decide +kernel
theorem dX4_wrong_15 : decode cX4_wrong 15 = .ok (.aload_n 0, 1) := by decide +kernel
theorem dX4_wrong_16 : decode cX4_wrong 16 = .ok (.getfield 48, 3) := by decide +kernel
theorem dX4_wrong_19 : decode cX4_wrong 19 = .ok (.iload_n 1, 1) := by decide +kernel
theorem dX4_wrong_20 : decode cX4_wrong 20 = .ok (.iaload, 1) := by decide +kernel
theorem dX4_wrong_21 : decode cX4_wrong 21 = .ok (.ireturn, 1) := by decide +kernel
theorem dX4_missShare_0 : decode cX4_missShare 0 = .ok (.iconst 0, 1) := by decide +kernel
theorem dX4_missShare_1 : decode cX4_missShare 1 = .ok (.istore_n 1, 1) := by decide +kernel
theorem dX4_missShare_2 : decode cX4_missShare 2 = .ok (.iconst 0, 1) := by decide +kernel
theorem dX4_missShare_3 : decode cX4_missShare 3 = .ok (.istore_n 2, 1) := by decide +kernel
theorem dX4_missShare_4 : decode cX4_missShare 4 = .ok (.iload_n 2, 1) := by decide +kernel
theorem dX4_missShare_5 : decode cX4_missShare 5 = .ok (.aload_n 0, 1) := by decide +kernel
theorem dX4_missShare_6 : decode cX4_missShare 6 = .ok (.getfield 70, 3) := by decide +kernel
theorem dX4_missShare_9 : decode cX4_missShare 9 = .ok (.if_icmp .ge 39, 3) := by decide +kernel
theorem dX4_missShare_12 : decode cX4_missShare 12 = .ok (.iload_n 1, 1) := by decide +kernel
theorem dX4_missShare_13 : decode cX4_missShare 13 = .ok (.aload_n 0, 1) := by decide +kernel
theorem dX4_missShare_14 : decode cX4_missShare 14 = .ok (.getfield 60, 3) := by decide +kernel
theorem dX4_missShare_17 : decode cX4_missShare 17 = .ok (.iload_n 2, 1) := by decide +kernel
theorem dX4_missShare_18 : decode cX4_missShare 18 = .ok (.caload, 1) := by decide +kernel
theorem dX4_missShare_19 : decode cX4_missShare 19 = .ok (.bipush 104, 2) := by decide +kernel
theorem dX4_missShare_21 : decode cX4_missShare 21 = .ok (.if_icmp .eq 14, 3) := by decide +kernel
theorem dX4_missShare_24 : decode cX4_missShare 24 = .ok (.aload_n 0, 1) := by decide +kernel
theorem dX4_missShare_25 : decode cX4_missShare 25 = .ok (.getfield 60, 3) := by decide +kernel
theorem dX4_missShare_28 : decode cX4_missShare 28 = .ok (.iload_n 2, 1) := by decide +kernel
theorem dX4_missShare_29 : decode cX4_missShare 29 = .ok (.caload, 1) := by decide +kernel
theorem dX4_missShare_30 : decode cX4_missShare 30 = .ok (.bipush 117, 2) := by decide +kernel
theorem dX4_missShare_32 : decode cX4_missShare 32 = .ok (.if_icmp .ne 7, 3) := by decide +kernel
theorem dX4_missShare_35 : decode cX4_missShare 35 = .ok (.iconst 0, 1) := by decide +kernel
theorem dX4_missShare_36 : decode cX4_missShare 36 = .ok (.goto 4, 3) := by decide +kernel
theorem dX4_missShare_39 : decode cX4_missShare 39 = .ok (.iconst 1, 1) := by decide +kernel
theorem dX4_missShare_40 : decode cX4_missShare 40 = .ok (.iadd, 1) := by decide +kernel
theorem dX4_missShare_41 : decode cX4_missShare 41 = .ok (.istore_n 1, 1) := by decide +kernel
theorem dX4_missShare_42 : decode cX4_missShare 42 = .ok (.iinc 2 1, 3) := by decide +kernel
theorem dX4_missShare_45 : decode cX4_missShare 45 = .ok (.goto (-41), 3) := by decide +kernel
theorem dX4_missShare_48 : decode cX4_missShare 48 = .ok (.aload_n 0, 1) := by decide +kernel
theorem dX4_missShare_49 : decode cX4_missShare 49 = .ok (.aload_n 0, 1) := by decide +kernel
theorem dX4_missShare_50 : decode cX4_missShare 50 = .ok (.getfield 70, 3) := by decide +kernel
theorem dX4_missShare_53 : decode cX4_missShare 53 = .ok (.ifCond .le 7, 3) := by decide +kernel
theorem dX4_missShare_56 : decode cX4_missShare 56 = .ok (.iconst 1, 1) := by decide +kernel
theorem dX4_missShare_57 : decode cX4_missShare 57 = .ok (.goto 4, 3) := by decide +kernel
theorem dX4_missShare_60 : decode cX4_missShare 60 = .ok (.iconst 0, 1) := by decide +kernel
theorem dX4_missShare_61 : decode cX4_missShare 61 = .ok (.invokevirtual 92, 3) := by decide +kernel
theorem dX4_missShare_64 : decode cX4_missShare 64 = .ok (.ifCond .le 7, 3) := by decide +kernel
theorem dX4_missShare_67 : decode cX4_missShare 67 = .ok (.fconst 0, 1) := by decide +kernel
theorem dX4_missShare_68 : decode cX4_missShare 68 = .ok (.goto 11, 3) := by decide +kernel
theorem dX4_missShare_71 : decode cX4_missShare 71 = .ok (.iload_n 1, 1) := by decide +kernel
theorem dX4_missShare_72 : decode cX4_missShare 72 = .ok (.i2f, 1) := by decide +kernel
theorem dX4_missShare_73 : decode cX4_missShare 73 = .ok (.aload_n 0, 1) := by decide +kernel
theorem dX4_missShare_74 : decode cX4_missShare 74 = .ok (.getfield 70, 3) := by decide +kernel
theorem dX4_missShare_77 : decode cX4_missShare 77 = .ok (.i2f, 1) := by decide +kernel
theorem dX4_missShare_78 : decode cX4_missShare 78 = .ok (.fdiv, 1) := by decide +kernel
theorem dX4_missShare_79 : decode cX4_missShare 79 = .ok (.freturn, 1) := by decide +kernel
theorem dX4_meanCost_0 : decode cX4_meanCost 0 = .ok (.lconst 0, 1) := by decide +kernel
theorem dX4_meanCost_1 : decode cX4_meanCost 1 = .ok (.lstore_n 1, 1) := by decide +kernel
theorem dX4_meanCost_2 : decode cX4_meanCost 2 = .ok (.iconst 0, 1) := by decide +kernel
theorem dX4_meanCost_3 : decode cX4_meanCost 3 = .ok (.istore_n 3, 1) := by decide +kernel
theorem dX4_meanCost_4 : decode cX4_meanCost 4 = .ok (.iload_n 3, 1) := by decide +kernel
theorem dX4_meanCost_5 : decode cX4_meanCost 5 = .ok (.aload_n 0, 1) := by decide +kernel
theorem dX4_meanCost_6 : decode cX4_meanCost 6 = .ok (.getfield 70, 3) := by decide +kernel
theorem dX4_meanCost_9 : decode cX4_meanCost 9 = .ok (.if_icmp .ge 19, 3) := by decide +kernel
theorem dX4_meanCost_12 : decode cX4_meanCost 12 = .ok (.lload_n 1, 1) := by decide +kernel
theorem dX4_meanCost_13 : decode cX4_meanCost 13 = .ok (.aload_n 0, 1) := by decide +kernel
theorem dX4_meanCost_14 : decode cX4_meanCost 14 = .ok (.getfield 51, 3) := by decide +kernel
theorem dX4_meanCost_17 : decode cX4_meanCost 17 = .ok (.iload_n 3, 1) := by decide +kernel
theorem dX4_meanCost_18 : decode cX4_meanCost 18 = .ok (.iaload, 1) := by decide +kernel
theorem dX4_meanCost_19 : decode cX4_meanCost 19 = .ok (.i2l, 1) := by decide +kernel
theorem dX4_meanCost_20 : decode cX4_meanCost 20 = .ok (.ladd, 1) := by decide +kernel
theorem dX4_meanCost_21 : decode cX4_meanCost 21 = .ok (.lstore_n 1, 1) := by decide +kernel
theorem dX4_meanCost_22 : decode cX4_meanCost 22 = .ok (.iinc 3 1, 3) := by decide +kernel
theorem dX4_meanCost_25 : decode cX4_meanCost 25 = .ok (.goto (-21), 3) := by decide +kernel
theorem dX4_meanCost_28 : decode cX4_meanCost 28 = .ok (.aload_n 0, 1) := by decide +kernel
theorem dX4_meanCost_29 : decode cX4_meanCost 29 = .ok (.aload_n 0, 1) := by decide +kernel
theorem dX4_meanCost_30 : decode cX4_meanCost 30 = .ok (.getfield 70, 3) := by decide +kernel
theorem dX4_meanCost_33 : decode cX4_meanCost 33 = .ok (.ifCond .le 7, 3) := by decide +kernel
theorem dX4_meanCost_36 : decode cX4_meanCost 36 = .ok (.iconst 1, 1) := by decide +kernel
theorem dX4_meanCost_37 : decode cX4_meanCost 37 = .ok (.goto 4, 3) := by decide +kernel
theorem dX4_meanCost_40 : decode cX4_meanCost 40 = .ok (.iconst 0, 1) := by decide +kernel
theorem dX4_meanCost_41 : decode cX4_meanCost 41 = .ok (.invokevirtual 92, 3) := by decide +kernel
theorem dX4_meanCost_44 : decode cX4_meanCost 44 = .ok (.ifCond .le 7, 3) := by decide +kernel
theorem dX4_meanCost_47 : decode cX4_meanCost 47 = .ok (.dconst 0, 1) := by decide +kernel
theorem dX4_meanCost_48 : decode cX4_meanCost 48 = .ok (.goto 11, 3) := by decide +kernel
theorem dX4_meanCost_51 : decode cX4_meanCost 51 = .ok (.lload_n 1, 1) := by decide +kernel
theorem dX4_meanCost_52 : decode cX4_meanCost 52 = .ok (.l2d, 1) := by decide +kernel
theorem dX4_meanCost_53 : decode cX4_meanCost 53 = .ok (.aload_n 0, 1) := by decide +kernel
theorem dX4_meanCost_54 : decode cX4_meanCost 54 = .ok (.getfield 70, 3) := by decide +kernel
theorem dX4_meanCost_57 : decode cX4_meanCost 57 = .ok (.i2d, 1) := by decide +kernel
theorem dX4_meanCost_58 : decode cX4_meanCost 58 = .ok (.ddiv, 1) := by decide +kernel
theorem dX4_meanCost_59 : decode cX4_meanCost 59 = .ok (.dreturn, 1) := by decide +kernel
theorem dX4_isCoherent_0 : decode cX4_isCoherent 0 = .ok (.aload_n 0, 1) := by decide +kernel
theorem dX4_isCoherent_1 : decode cX4_isCoherent 1 = .ok (.iconst 0, 1) := by decide +kernel
theorem dX4_isCoherent_2 : decode cX4_isCoherent 2 = .ok (.putfield 63, 3) := by decide +kernel
theorem dX4_isCoherent_5 : decode cX4_isCoherent 5 = .ok (.iconst 1, 1) := by decide +kernel
theorem dX4_isCoherent_6 : decode cX4_isCoherent 6 = .ok (.ireturn, 1) := by decide +kernel
theorem dJx00060_init_a7421_0 : decode cJx00060_init_a7421 0 = .ok (.aload_n 0, 1) := by decide +kernel
theorem dJx00060_init_a7421_1 : decode cJx00060_init_a7421 1 = .ok (.aload_n 1, 1) := by decide +kernel
theorem dJx00060_init_a7421_2 : decode cJx00060_init_a7421 2 = .ok (.invokespecial 7, 3) := by decide +kernel
theorem dJx00060_init_a7421_5 : decode cJx00060_init_a7421 5 = .ok (.return_, 1) := by decide +kernel
theorem dJ9_max_7cf53_0 : decode cJ9_max_7cf53 0 = .ok (.iload_n 0, 1) := by decide +kernel
theorem dJ9_max_7cf53_1 : decode cJ9_max_7cf53 1 = .ok (.iload_n 1, 1) := by decide +kernel
theorem dJ9_max_7cf53_2 : decode cJ9_max_7cf53 2 = .ok (.if_icmp .lt 7, 3) := by decide +kernel
theorem dJ9_max_7cf53_5 : decode cJ9_max_7cf53 5 = .ok (.iload_n 0, 1) := by decide +kernel
theorem dJ9_max_7cf53_6 : decode cJ9_max_7cf53 6 = .ok (.goto 4, 3) := by decide +kernel
theorem dJ9_max_7cf53_9 : decode cJ9_max_7cf53 9 = .ok (.iload_n 1, 1) := by decide +kernel
theorem dJ9_max_7cf53_10 : decode cJ9_max_7cf53 10 = .ok (.ireturn, 1) := by decide +kernel
theorem dJ9_min_7cf53_0 : decode cJ9_min_7cf53 0 = .ok (.iload_n 0, 1) := by decide +kernel
theorem dJ9_min_7cf53_1 : decode cJ9_min_7cf53 1 = .ok (.iload_n 1, 1) := by decide +kernel
theorem dJ9_min_7cf53_2 : decode cJ9_min_7cf53 2 = .ok (.if_icmp .gt 7, 3) := by decide +kernel
theorem dJ9_min_7cf53_5 : decode cJ9_min_7cf53 5 = .ok (.iload_n 0, 1) := by decide +kernel
theorem dJ9_min_7cf53_6 : decode cJ9_min_7cf53 6 = .ok (.goto 4, 3) := by decide +kernel
theorem dJ9_min_7cf53_9 : decode cJ9_min_7cf53 9 = .ok (.iload_n 1, 1) := by decide +kernel
theorem dJ9_min_7cf53_10 : decode cJ9_min_7cf53 10 = .ok (.ireturn, 1) := by decide +kernel
theorem dJxa1e45_init_da8c8_0 : decode cJxa1e45_init_da8c8 0 = .ok (.aload_n 0, 1) := by decide +kernel
theorem dJxa1e45_init_da8c8_1 : decode cJxa1e45_init_da8c8 1 = .ok (.invokespecial 1, 3) := by decide +kernel
theorem dJxa1e45_init_da8c8_4 : decode cJxa1e45_init_da8c8 4 = .ok (.return_, 1) := by decide +kernel
theorem dJxc12de_init_da8c8_0 : decode cJxc12de_init_da8c8 0 = .ok (.aload_n 0, 1) := by decide +kernel
theorem dJxc12de_init_da8c8_1 : decode cJxc12de_init_da8c8 1 = .ok (.invokespecial 1, 3) := by decide +kernel
theorem dJxc12de_init_da8c8_4 : decode cJxc12de_init_da8c8 4 = .ok (.aload_n 0, 1) := by decide +kernel
theorem dJxc12de_init_da8c8_5 : decode cJxc12de_init_da8c8 5 = .ok (.iconst 0, 1) := by decide +kernel
theorem dJxc12de_init_da8c8_6 : decode cJxc12de_init_da8c8 6 = .ok (.putfield 7, 3) := by decide +kernel
theorem dJxc12de_init_da8c8_9 : decode cJxc12de_init_da8c8 9 = .ok (.return_, 1) := by decide +kernel
theorem dJx4a65c_init_da8c8_0 : decode cJx4a65c_init_da8c8 0 = .ok (.aload_n 0, 1) := by decide +kernel
theorem dJx4a65c_init_da8c8_1 : decode cJx4a65c_init_da8c8 1 = .ok (.invokespecial 1, 3) := by decide +kernel
theorem dJx4a65c_init_da8c8_4 : decode cJx4a65c_init_da8c8 4 = .ok (.aload_n 0, 1) := by decide +kernel
theorem dJx4a65c_init_da8c8_5 : decode cJx4a65c_init_da8c8 5 = .ok (.getstatic 39, 3) := by decide +kernel
theorem dJx4a65c_init_da8c8_8 : decode cJx4a65c_init_da8c8 8 = .ok (.putfield 9, 3) := by decide +kernel
theorem dJx4a65c_init_da8c8_11 : decode cJx4a65c_init_da8c8 11 = .ok (.return_, 1) := by decide +kernel
theorem dJx4a65c_grow_92f84_0 : decode cJx4a65c_grow_92f84 0 = .ok (.aload_n 0, 1) := by decide +kernel
theorem dJx4a65c_grow_92f84_1 : decode cJx4a65c_grow_92f84 1 = .ok (.getfield 9, 3) := by decide +kernel
theorem dJx4a65c_grow_92f84_4 : decode cJx4a65c_grow_92f84 4 = .ok (.arraylength, 1) := by decide +kernel
theorem dJx4a65c_grow_92f84_5 : decode cJx4a65c_grow_92f84 5 = .ok (.istore_n 2, 1) := by decide +kernel
theorem dJx4a65c_grow_92f84_6 : decode cJx4a65c_grow_92f84 6 = .ok (.iload_n 2, 1) := by decide +kernel
theorem dJx4a65c_grow_92f84_7 : decode cJx4a65c_grow_92f84 7 = .ok (.ifCond .gt 13, 3) := by decide +kernel
theorem dJx4a65c_grow_92f84_10 : decode cJx4a65c_grow_92f84 10 = .ok (.aload_n 0, 1) := by decide +kernel
theorem dJx4a65c_grow_92f84_11 : decode cJx4a65c_grow_92f84 11 = .ok (.getfield 9, 3) := by decide +kernel
theorem dJx4a65c_grow_92f84_14 : decode cJx4a65c_grow_92f84 14 = .ok (.getstatic 39, 3) := by decide +kernel
theorem dJx4a65c_grow_92f84_17 : decode cJx4a65c_grow_92f84 17 = .ok (.if_acmp .eq 28, 3) := by decide +kernel
theorem dJx4a65c_grow_92f84_20 : decode cJx4a65c_grow_92f84 20 = .ok (.iload_n 2, 1) := by decide +kernel
theorem dJx4a65c_grow_92f84_21 : decode cJx4a65c_grow_92f84 21 = .ok (.iload_n 1, 1) := by decide +kernel
theorem dJx4a65c_grow_92f84_22 : decode cJx4a65c_grow_92f84 22 = .ok (.iload_n 2, 1) := by decide +kernel
theorem dJx4a65c_grow_92f84_23 : decode cJx4a65c_grow_92f84 23 = .ok (.isub, 1) := by decide +kernel
theorem dJx4a65c_grow_92f84_24 : decode cJx4a65c_grow_92f84 24 = .ok (.iload_n 2, 1) := by decide +kernel
theorem dJx4a65c_grow_92f84_25 : decode cJx4a65c_grow_92f84 25 = .ok (.iconst 1, 1) := by decide +kernel
theorem dJx4a65c_grow_92f84_26 : decode cJx4a65c_grow_92f84 26 = .ok (.ishr, 1) := by decide +kernel
theorem dJx4a65c_grow_92f84_27 : decode cJx4a65c_grow_92f84 27 = .ok (.invokestatic 73, 3) := by decide +kernel
theorem dJx4a65c_grow_92f84_30 : decode cJx4a65c_grow_92f84 30 = .ok (.istore_n 3, 1) := by decide +kernel
theorem dJx4a65c_grow_92f84_31 : decode cJx4a65c_grow_92f84 31 = .ok (.aload_n 0, 1) := by decide +kernel
theorem dJx4a65c_grow_92f84_32 : decode cJx4a65c_grow_92f84 32 = .ok (.aload_n 0, 1) := by decide +kernel
theorem dJx4a65c_grow_92f84_33 : decode cJx4a65c_grow_92f84 33 = .ok (.getfield 9, 3) := by decide +kernel
theorem dJx4a65c_grow_92f84_36 : decode cJx4a65c_grow_92f84 36 = .ok (.iload_n 3, 1) := by decide +kernel
theorem dJx4a65c_grow_92f84_37 : decode cJx4a65c_grow_92f84 37 = .ok (.invokestatic 66, 3) := by decide +kernel
theorem dJx4a65c_grow_92f84_40 : decode cJx4a65c_grow_92f84 40 = .ok (.dup_x1, 1) := by decide +kernel
theorem dJx4a65c_grow_92f84_41 : decode cJx4a65c_grow_92f84 41 = .ok (.putfield 9, 3) := by decide +kernel
theorem dJx4a65c_grow_92f84_44 : decode cJx4a65c_grow_92f84 44 = .ok (.areturn, 1) := by decide +kernel
theorem dJx4a65c_grow_92f84_45 : decode cJx4a65c_grow_92f84 45 = .ok (.aload_n 0, 1) := by decide +kernel
theorem dJx4a65c_grow_92f84_46 : decode cJx4a65c_grow_92f84 46 = .ok (.bipush 10, 2) := by decide +kernel
theorem dJx4a65c_grow_92f84_48 : decode cJx4a65c_grow_92f84 48 = .ok (.iload_n 1, 1) := by decide +kernel
theorem dJx4a65c_grow_92f84_49 : decode cJx4a65c_grow_92f84 49 = .ok (.invokestatic 79, 3) := by decide +kernel
theorem dJx4a65c_grow_92f84_52 : decode cJx4a65c_grow_92f84 52 = .ok (.anewarray 7, 3) := by decide +kernel
theorem dJx4a65c_grow_92f84_55 : decode cJx4a65c_grow_92f84 55 = .ok (.dup_x1, 1) := by decide +kernel
theorem dJx4a65c_grow_92f84_56 : decode cJx4a65c_grow_92f84 56 = .ok (.putfield 9, 3) := by decide +kernel
theorem dJx4a65c_grow_92f84_59 : decode cJx4a65c_grow_92f84 59 = .ok (.areturn, 1) := by decide +kernel
theorem dJx4a65c_grow_d5877_0 : decode cJx4a65c_grow_d5877 0 = .ok (.aload_n 0, 1) := by decide +kernel
theorem dJx4a65c_grow_d5877_1 : decode cJx4a65c_grow_d5877 1 = .ok (.aload_n 0, 1) := by decide +kernel
theorem dJx4a65c_grow_d5877_2 : decode cJx4a65c_grow_d5877 2 = .ok (.getfield 48, 3) := by decide +kernel
theorem dJx4a65c_grow_d5877_5 : decode cJx4a65c_grow_d5877 5 = .ok (.iconst 1, 1) := by decide +kernel
theorem dJx4a65c_grow_d5877_6 : decode cJx4a65c_grow_d5877 6 = .ok (.iadd, 1) := by decide +kernel
theorem dJx4a65c_grow_d5877_7 : decode cJx4a65c_grow_d5877 7 = .ok (.invokevirtual 69, 3) := by decide +kernel
theorem dJx4a65c_grow_d5877_10 : decode cJx4a65c_grow_d5877 10 = .ok (.areturn, 1) := by decide +kernel
theorem dJx4a65c_size_8abf5_0 : decode cJx4a65c_size_8abf5 0 = .ok (.aload_n 0, 1) := by decide +kernel
theorem dJx4a65c_size_8abf5_1 : decode cJx4a65c_size_8abf5 1 = .ok (.getfield 48, 3) := by decide +kernel
theorem dJx4a65c_size_8abf5_4 : decode cJx4a65c_size_8abf5 4 = .ok (.ireturn, 1) := by decide +kernel
theorem dJx4a65c_isEmpty_aae02_0 : decode cJx4a65c_isEmpty_aae02 0 = .ok (.aload_n 0, 1) := by decide +kernel
theorem dJx4a65c_isEmpty_aae02_1 : decode cJx4a65c_isEmpty_aae02 1 = .ok (.getfield 48, 3) := by decide +kernel
theorem dJx4a65c_isEmpty_aae02_4 : decode cJx4a65c_isEmpty_aae02 4 = .ok (.ifCond .ne 7, 3) := by decide +kernel
theorem dJx4a65c_isEmpty_aae02_7 : decode cJx4a65c_isEmpty_aae02 7 = .ok (.iconst 1, 1) := by decide +kernel
theorem dJx4a65c_isEmpty_aae02_8 : decode cJx4a65c_isEmpty_aae02 8 = .ok (.goto 4, 3) := by decide +kernel
theorem dJx4a65c_isEmpty_aae02_11 : decode cJx4a65c_isEmpty_aae02 11 = .ok (.iconst 0, 1) := by decide +kernel
theorem dJx4a65c_isEmpty_aae02_12 : decode cJx4a65c_isEmpty_aae02 12 = .ok (.ireturn, 1) := by decide +kernel
theorem dJx4a65c_elementData_915e3_0 : decode cJx4a65c_elementData_915e3 0 = .ok (.aload_n 0, 1) := by decide +kernel
theorem dJx4a65c_elementData_915e3_1 : decode cJx4a65c_elementData_915e3 1 = .ok (.getfield 9, 3) := by decide +kernel
theorem dJx4a65c_elementData_915e3_4 : decode cJx4a65c_elementData_915e3 4 = .ok (.iload_n 1, 1) := by decide +kernel
theorem dJx4a65c_elementData_915e3_5 : decode cJx4a65c_elementData_915e3 5 = .ok (.aaload, 1) := by decide +kernel
theorem dJx4a65c_elementData_915e3_6 : decode cJx4a65c_elementData_915e3 6 = .ok (.areturn, 1) := by decide +kernel
theorem dJx4a65c_get_915e3_0 : decode cJx4a65c_get_915e3 0 = .ok (.iload_n 1, 1) := by decide +kernel
theorem dJx4a65c_get_915e3_1 : decode cJx4a65c_get_915e3 1 = .ok (.aload_n 0, 1) := by decide +kernel
theorem dJx4a65c_get_915e3_2 : decode cJx4a65c_get_915e3 2 = .ok (.getfield 48, 3) := by decide +kernel
theorem dJx4a65c_get_915e3_5 : decode cJx4a65c_get_915e3 5 = .ok (.invokestatic 118, 3) := by decide +kernel
theorem dJx4a65c_get_915e3_8 : decode cJx4a65c_get_915e3 8 = .ok (.pop, 1) := by decide +kernel
theorem dJx4a65c_get_915e3_9 : decode cJx4a65c_get_915e3 9 = .ok (.aload_n 0, 1) := by decide +kernel
theorem dJx4a65c_get_915e3_10 : decode cJx4a65c_get_915e3 10 = .ok (.iload_n 1, 1) := by decide +kernel
theorem dJx4a65c_get_915e3_11 : decode cJx4a65c_get_915e3 11 = .ok (.invokevirtual 123, 3) := by decide +kernel
theorem dJx4a65c_get_915e3_14 : decode cJx4a65c_get_915e3 14 = .ok (.areturn, 1) := by decide +kernel
theorem dJx4a65c_add_72be8_0 : decode cJx4a65c_add_72be8 0 = .ok (.iload_n 3, 1) := by decide +kernel
theorem dJx4a65c_add_72be8_1 : decode cJx4a65c_add_72be8 1 = .ok (.aload_n 2, 1) := by decide +kernel
theorem dJx4a65c_add_72be8_2 : decode cJx4a65c_add_72be8 2 = .ok (.arraylength, 1) := by decide +kernel
theorem dJx4a65c_add_72be8_3 : decode cJx4a65c_add_72be8 3 = .ok (.if_icmp .ne 8, 3) := by decide +kernel
theorem dJx4a65c_add_72be8_6 : decode cJx4a65c_add_72be8 6 = .ok (.aload_n 0, 1) := by decide +kernel
theorem dJx4a65c_add_72be8_7 : decode cJx4a65c_add_72be8 7 = .ok (.invokevirtual 129, 3) := by decide +kernel
theorem dJx4a65c_add_72be8_10 : decode cJx4a65c_add_72be8 10 = .ok (.astore_n 2, 1) := by decide +kernel
theorem dJx4a65c_add_72be8_11 : decode cJx4a65c_add_72be8 11 = .ok (.aload_n 2, 1) := by decide +kernel
theorem dJx4a65c_add_72be8_12 : decode cJx4a65c_add_72be8 12 = .ok (.iload_n 3, 1) := by decide +kernel
theorem dJx4a65c_add_72be8_13 : decode cJx4a65c_add_72be8 13 = .ok (.aload_n 1, 1) := by decide +kernel
theorem dJx4a65c_add_72be8_14 : decode cJx4a65c_add_72be8 14 = .ok (.aastore, 1) := by decide +kernel
theorem dJx4a65c_add_72be8_15 : decode cJx4a65c_add_72be8 15 = .ok (.aload_n 0, 1) := by decide +kernel
theorem dJx4a65c_add_72be8_16 : decode cJx4a65c_add_72be8 16 = .ok (.iload_n 3, 1) := by decide +kernel
theorem dJx4a65c_add_72be8_17 : decode cJx4a65c_add_72be8 17 = .ok (.iconst 1, 1) := by decide +kernel
theorem dJx4a65c_add_72be8_18 : decode cJx4a65c_add_72be8 18 = .ok (.iadd, 1) := by decide +kernel
theorem dJx4a65c_add_72be8_19 : decode cJx4a65c_add_72be8 19 = .ok (.putfield 48, 3) := by decide +kernel
theorem dJx4a65c_add_72be8_22 : decode cJx4a65c_add_72be8 22 = .ok (.return_, 1) := by decide +kernel
theorem dJx4a65c_add_9ea2d_0 : decode cJx4a65c_add_9ea2d 0 = .ok (.aload_n 0, 1) := by decide +kernel
theorem dJx4a65c_add_9ea2d_1 : decode cJx4a65c_add_9ea2d 1 = .ok (.dup, 1) := by decide +kernel
theorem dJx4a65c_add_9ea2d_2 : decode cJx4a65c_add_9ea2d 2 = .ok (.getfield 63, 3) := by decide +kernel
theorem dJx4a65c_add_9ea2d_5 : decode cJx4a65c_add_9ea2d 5 = .ok (.iconst 1, 1) := by decide +kernel
theorem dJx4a65c_add_9ea2d_6 : decode cJx4a65c_add_9ea2d 6 = .ok (.iadd, 1) := by decide +kernel
theorem dJx4a65c_add_9ea2d_7 : decode cJx4a65c_add_9ea2d 7 = .ok (.putfield 63, 3) := by decide +kernel
theorem dJx4a65c_add_9ea2d_10 : decode cJx4a65c_add_9ea2d 10 = .ok (.aload_n 0, 1) := by decide +kernel
theorem dJx4a65c_add_9ea2d_11 : decode cJx4a65c_add_9ea2d 11 = .ok (.aload_n 1, 1) := by decide +kernel
theorem dJx4a65c_add_9ea2d_12 : decode cJx4a65c_add_9ea2d 12 = .ok (.aload_n 0, 1) := by decide +kernel
theorem dJx4a65c_add_9ea2d_13 : decode cJx4a65c_add_9ea2d 13 = .ok (.getfield 9, 3) := by decide +kernel
theorem dJx4a65c_add_9ea2d_16 : decode cJx4a65c_add_9ea2d 16 = .ok (.aload_n 0, 1) := by decide +kernel
theorem dJx4a65c_add_9ea2d_17 : decode cJx4a65c_add_9ea2d 17 = .ok (.getfield 48, 3) := by decide +kernel
theorem dJx4a65c_add_9ea2d_20 : decode cJx4a65c_add_9ea2d 20 = .ok (.invokevirtual 131, 3) := by decide +kernel
theorem dJx4a65c_add_9ea2d_23 : decode cJx4a65c_add_9ea2d 23 = .ok (.iconst 1, 1) := by decide +kernel
theorem dJx4a65c_add_9ea2d_24 : decode cJx4a65c_add_9ea2d 24 = .ok (.ireturn, 1) := by decide +kernel
theorem dJ7_copyOf_1904c_0 : decode cJ7_copyOf_1904c 0 = .ok (.aload_n 0, 1) := by decide +kernel
theorem dJ7_copyOf_1904c_1 : decode cJ7_copyOf_1904c 1 = .ok (.iload_n 1, 1) := by decide +kernel
theorem dJ7_copyOf_1904c_2 : decode cJ7_copyOf_1904c 2 = .ok (.aload_n 0, 1) := by decide +kernel
theorem dJ7_copyOf_1904c_3 : decode cJ7_copyOf_1904c 3 = .ok (.invokevirtual 86, 3) := by decide +kernel
theorem dJ7_copyOf_1904c_6 : decode cJ7_copyOf_1904c 6 = .ok (.invokestatic 300, 3) := by decide +kernel
theorem dJ7_copyOf_1904c_9 : decode cJ7_copyOf_1904c 9 = .ok (.areturn, 1) := by decide +kernel
theorem dJ7_copyOf_6403c_0 : decode cJ7_copyOf_6403c 0 = .ok (.aload_n 2, 1) := by decide +kernel
theorem dJ7_copyOf_6403c_1 : decode cJ7_copyOf_6403c 1 = .ok (.ldc 110, 2) := by decide +kernel
theorem dJ7_copyOf_6403c_3 : decode cJ7_copyOf_6403c 3 = .ok (.if_acmp .ne 10, 3) := by decide +kernel
theorem dJ7_copyOf_6403c_6 : decode cJ7_copyOf_6403c 6 = .ok (.iload_n 1, 1) := by decide +kernel
theorem dJ7_copyOf_6403c_7 : decode cJ7_copyOf_6403c 7 = .ok (.anewarray 2, 3) := by decide +kernel
theorem dJ7_copyOf_6403c_10 : decode cJ7_copyOf_6403c 10 = .ok (.goto 14, 3) := by decide +kernel
theorem dJ7_copyOf_6403c_13 : decode cJ7_copyOf_6403c 13 = .ok (.aload_n 2, 1) := by decide +kernel
theorem dJ7_copyOf_6403c_14 : decode cJ7_copyOf_6403c 14 = .ok (.invokevirtual 90, 3) := by decide +kernel
theorem dJ7_copyOf_6403c_17 : decode cJ7_copyOf_6403c 17 = .ok (.iload_n 1, 1) := by decide +kernel
theorem dJ7_copyOf_6403c_18 : decode cJ7_copyOf_6403c 18 = .ok (.invokestatic 95, 3) := by decide +kernel
theorem dJ7_copyOf_6403c_21 : decode cJ7_copyOf_6403c 21 = .ok (.checkcast 110, 3) := by decide +kernel
theorem dJ7_copyOf_6403c_24 : decode cJ7_copyOf_6403c 24 = .ok (.astore_n 3, 1) := by decide +kernel
theorem dJ7_copyOf_6403c_25 : decode cJ7_copyOf_6403c 25 = .ok (.aload_n 0, 1) := by decide +kernel
theorem dJ7_copyOf_6403c_26 : decode cJ7_copyOf_6403c 26 = .ok (.iconst 0, 1) := by decide +kernel
theorem dJ7_copyOf_6403c_27 : decode cJ7_copyOf_6403c 27 = .ok (.aload_n 3, 1) := by decide +kernel
theorem dJ7_copyOf_6403c_28 : decode cJ7_copyOf_6403c 28 = .ok (.iconst 0, 1) := by decide +kernel
theorem dJ7_copyOf_6403c_29 : decode cJ7_copyOf_6403c 29 = .ok (.aload_n 0, 1) := by decide +kernel
theorem dJ7_copyOf_6403c_30 : decode cJ7_copyOf_6403c 30 = .ok (.arraylength, 1) := by decide +kernel
theorem dJ7_copyOf_6403c_31 : decode cJ7_copyOf_6403c 31 = .ok (.iload_n 1, 1) := by decide +kernel
theorem dJ7_copyOf_6403c_32 : decode cJ7_copyOf_6403c 32 = .ok (.invokestatic 304, 3) := by decide +kernel
theorem dJ7_copyOf_6403c_35 : decode cJ7_copyOf_6403c 35 = .ok (.invokestatic 150, 3) := by decide +kernel
theorem dJ7_copyOf_6403c_38 : decode cJ7_copyOf_6403c 38 = .ok (.aload_n 3, 1) := by decide +kernel
theorem dJ7_copyOf_6403c_39 : decode cJ7_copyOf_6403c 39 = .ok (.areturn, 1) := by decide +kernel
theorem dJ15_checkIndex_7cf53_0 : decode cJ15_checkIndex_7cf53 0 = .ok (.iload_n 0, 1) := by decide +kernel
theorem dJ15_checkIndex_7cf53_1 : decode cJ15_checkIndex_7cf53 1 = .ok (.iload_n 1, 1) := by decide +kernel
theorem dJ15_checkIndex_7cf53_2 : decode cJ15_checkIndex_7cf53 2 = .ok (.aconst_null, 1) := by decide +kernel
theorem dJ15_checkIndex_7cf53_3 : decode cJ15_checkIndex_7cf53 3 = .ok (.invokestatic 105, 3) := by decide +kernel
theorem dJ15_checkIndex_7cf53_6 : decode cJ15_checkIndex_7cf53 6 = .ok (.ireturn, 1) := by decide +kernel
theorem dJ8_newLength_cabcc_0 : decode cJ8_newLength_cabcc 0 = .ok (.iload_n 0, 1) := by decide +kernel
theorem dJ8_newLength_cabcc_1 : decode cJ8_newLength_cabcc 1 = .ok (.iload_n 1, 1) := by decide +kernel
theorem dJ8_newLength_cabcc_2 : decode cJ8_newLength_cabcc 2 = .ok (.iload_n 2, 1) := by decide +kernel
theorem dJ8_newLength_cabcc_3 : decode cJ8_newLength_cabcc 3 = .ok (.invokestatic 194, 3) := by decide +kernel
theorem dJ8_newLength_cabcc_6 : decode cJ8_newLength_cabcc 6 = .ok (.iadd, 1) := by decide +kernel
theorem dJ8_newLength_cabcc_7 : decode cJ8_newLength_cabcc 7 = .ok (.istore_n 3, 1) := by decide +kernel
theorem dJ8_newLength_cabcc_8 : decode cJ8_newLength_cabcc 8 = .ok (.iconst 0, 1) := by decide +kernel
theorem dJ8_newLength_cabcc_9 : decode cJ8_newLength_cabcc 9 = .ok (.iload_n 3, 1) := by decide +kernel
theorem dJ8_newLength_cabcc_10 : decode cJ8_newLength_cabcc 10 = .ok (.if_icmp .ge 11, 3) := by decide +kernel
theorem dJ8_newLength_cabcc_13 : decode cJ8_newLength_cabcc 13 = .ok (.iload_n 3, 1) := by decide +kernel
theorem dJ8_newLength_cabcc_14 : decode cJ8_newLength_cabcc 14 = .ok (.ldc 200, 2) := by decide +kernel
theorem dJ8_newLength_cabcc_16 : decode cJ8_newLength_cabcc 16 = .ok (.if_icmp .gt 5, 3) := by decide +kernel
theorem dJ8_newLength_cabcc_19 : decode cJ8_newLength_cabcc 19 = .ok (.iload_n 3, 1) := by decide +kernel
theorem dJ8_newLength_cabcc_20 : decode cJ8_newLength_cabcc 20 = .ok (.ireturn, 1) := by decide +kernel
theorem dJ8_newLength_cabcc_21 : decode cJ8_newLength_cabcc 21 = .ok (.iload_n 0, 1) := by decide +kernel
theorem dJ8_newLength_cabcc_22 : decode cJ8_newLength_cabcc 22 = .ok (.iload_n 1, 1) := by decide +kernel
theorem dJ8_newLength_cabcc_23 : decode cJ8_newLength_cabcc 23 = .ok (.invokestatic 201, 3) := by decide +kernel
theorem dJ8_newLength_cabcc_26 : decode cJ8_newLength_cabcc 26 = .ok (.ireturn, 1) := by decide +kernel
theorem dJ8_hugeLength_7cf53_0 : decode cJ8_hugeLength_7cf53 0 = .ok (.iload_n 0, 1) := by decide +kernel
theorem dJ8_hugeLength_7cf53_1 : decode cJ8_hugeLength_7cf53 1 = .ok (.iload_n 1, 1) := by decide +kernel
theorem dJ8_hugeLength_7cf53_2 : decode cJ8_hugeLength_7cf53 2 = .ok (.iadd, 1) := by decide +kernel
theorem dJ8_hugeLength_7cf53_3 : decode cJ8_hugeLength_7cf53 3 = .ok (.istore_n 2, 1) := by decide +kernel
theorem dJ8_hugeLength_7cf53_4 : decode cJ8_hugeLength_7cf53 4 = .ok (.iload_n 2, 1) := by decide +kernel
theorem dJ8_hugeLength_7cf53_5 : decode cJ8_hugeLength_7cf53 5 = .ok (.ifCond .ge 44, 3) := by decide +kernel
theorem dJ8_hugeLength_7cf53_8 : decode cJ8_hugeLength_7cf53 8 = .ok (.new 204, 3) := by decide +kernel
theorem dJ8_hugeLength_7cf53_11 : decode cJ8_hugeLength_7cf53 11 = .ok (.dup, 1) := by decide +kernel
theorem dJ8_hugeLength_7cf53_12 : decode cJ8_hugeLength_7cf53 12 = .ok (.new 89, 3) := by decide +kernel
theorem dJ8_hugeLength_7cf53_15 : decode cJ8_hugeLength_7cf53 15 = .ok (.dup, 1) := by decide +kernel
theorem dJ8_hugeLength_7cf53_16 : decode cJ8_hugeLength_7cf53 16 = .ok (.invokespecial 91, 3) := by decide +kernel
theorem dJ8_hugeLength_7cf53_19 : decode cJ8_hugeLength_7cf53 19 = .ok (.ldc 206, 2) := by decide +kernel
theorem dJ8_hugeLength_7cf53_21 : decode cJ8_hugeLength_7cf53 21 = .ok (.invokevirtual 94, 3) := by decide +kernel
theorem dJ8_hugeLength_7cf53_24 : decode cJ8_hugeLength_7cf53 24 = .ok (.iload_n 0, 1) := by decide +kernel
theorem dJ8_hugeLength_7cf53_25 : decode cJ8_hugeLength_7cf53 25 = .ok (.invokevirtual 98, 3) := by decide +kernel
theorem dJ8_hugeLength_7cf53_28 : decode cJ8_hugeLength_7cf53 28 = .ok (.ldc 208, 2) := by decide +kernel
theorem dJ8_hugeLength_7cf53_30 : decode cJ8_hugeLength_7cf53 30 = .ok (.invokevirtual 94, 3) := by decide +kernel
theorem dJ8_hugeLength_7cf53_33 : decode cJ8_hugeLength_7cf53 33 = .ok (.iload_n 1, 1) := by decide +kernel
theorem dJ8_hugeLength_7cf53_34 : decode cJ8_hugeLength_7cf53 34 = .ok (.invokevirtual 98, 3) := by decide +kernel
theorem dJ8_hugeLength_7cf53_37 : decode cJ8_hugeLength_7cf53 37 = .ok (.ldc 210, 2) := by decide +kernel
theorem dJ8_hugeLength_7cf53_39 : decode cJ8_hugeLength_7cf53 39 = .ok (.invokevirtual 94, 3) := by decide +kernel
theorem dJ8_hugeLength_7cf53_42 : decode cJ8_hugeLength_7cf53 42 = .ok (.invokevirtual 101, 3) := by decide +kernel
theorem dJ8_hugeLength_7cf53_45 : decode cJ8_hugeLength_7cf53 45 = .ok (.invokespecial 212, 3) := by decide +kernel
theorem dJ8_hugeLength_7cf53_48 : decode cJ8_hugeLength_7cf53 48 = .ok (.athrow, 1) := by decide +kernel
theorem dJ8_hugeLength_7cf53_49 : decode cJ8_hugeLength_7cf53 49 = .ok (.iload_n 2, 1) := by decide +kernel
theorem dJ8_hugeLength_7cf53_50 : decode cJ8_hugeLength_7cf53 50 = .ok (.ldc 200, 2) := by decide +kernel
theorem dJ8_hugeLength_7cf53_52 : decode cJ8_hugeLength_7cf53 52 = .ok (.if_icmp .gt 6, 3) := by decide +kernel
theorem dJ8_hugeLength_7cf53_55 : decode cJ8_hugeLength_7cf53 55 = .ok (.ldc 200, 2) := by decide +kernel
theorem dJ8_hugeLength_7cf53_57 : decode cJ8_hugeLength_7cf53 57 = .ok (.ireturn, 1) := by decide +kernel
theorem dJ8_hugeLength_7cf53_58 : decode cJ8_hugeLength_7cf53 58 = .ok (.iload_n 2, 1) := by decide +kernel
theorem dJ8_hugeLength_7cf53_59 : decode cJ8_hugeLength_7cf53 59 = .ok (.ireturn, 1) := by decide +kernel
theorem dJ3_checkIndex_8e157_0 : decode cJ3_checkIndex_8e157 0 = .ok (.iload_n 0, 1) := by decide +kernel
theorem dJ3_checkIndex_8e157_1 : decode cJ3_checkIndex_8e157 1 = .ok (.ifCond .lt 8, 3) := by decide +kernel
theorem dJ3_checkIndex_8e157_4 : decode cJ3_checkIndex_8e157 4 = .ok (.iload_n 0, 1) := by decide +kernel
theorem dJ3_checkIndex_8e157_5 : decode cJ3_checkIndex_8e157 5 = .ok (.iload_n 1, 1) := by decide +kernel
theorem dJ3_checkIndex_8e157_6 : decode cJ3_checkIndex_8e157 6 = .ok (.if_icmp .lt 10, 3) := by decide +kernel
theorem dJ3_checkIndex_8e157_9 : decode cJ3_checkIndex_8e157 9 = .ok (.aload_n 2, 1) := by decide +kernel
theorem dJ3_checkIndex_8e157_10 : decode cJ3_checkIndex_8e157 10 = .ok (.iload_n 0, 1) := by decide +kernel
theorem dJ3_checkIndex_8e157_11 : decode cJ3_checkIndex_8e157 11 = .ok (.iload_n 1, 1) := by decide +kernel
theorem dJ3_checkIndex_8e157_12 : decode cJ3_checkIndex_8e157 12 = .ok (.invokestatic 95, 3) := by decide +kernel
theorem dJ3_checkIndex_8e157_15 : decode cJ3_checkIndex_8e157 15 = .ok (.athrow, 1) := by decide +kernel
theorem dJ3_checkIndex_8e157_16 : decode cJ3_checkIndex_8e157 16 = .ok (.iload_n 0, 1) := by decide +kernel
theorem dJ3_checkIndex_8e157_17 : decode cJ3_checkIndex_8e157 17 = .ok (.ireturn, 1) := by decide +kernel
theorem dL_addName_0 : decode cL_addName 0 = .ok (.aload_n 2, 1) := by decide +kernel
theorem dL_addName_1 : decode cL_addName 1 = .ok (.iconst 0, 1) := by decide +kernel
theorem dL_addName_2 : decode cL_addName 2 = .ok (.aload_n 0, 1) := by decide +kernel
theorem dL_addName_3 : decode cL_addName 3 = .ok (.iload_n 1, 1) := by decide +kernel
theorem dL_addName_4 : decode cL_addName 4 = .ok (.invokevirtual 7, 3) := by decide +kernel
theorem dL_addName_7 : decode cL_addName 7 = .ok (.i2l, 1) := by decide +kernel
theorem dL_addName_8 : decode cL_addName 8 = .ok (.lastore, 1) := by decide +kernel
theorem dL_addName_9 : decode cL_addName 9 = .ok (.goto 9, 3) := by decide +kernel
theorem dL_addName_12 : decode cL_addName 12 = .ok (.astore_n 3, 1) := by decide +kernel
theorem dL_addName_13 : decode cL_addName 13 = .ok (.iconst 1, 1) := by decide +kernel
theorem dL_addName_14 : decode cL_addName 14 = .ok (.ireturn, 1) := by decide +kernel
theorem dL_addName_15 : decode cL_addName 15 = .ok (.astore_n 3, 1) := by decide +kernel
theorem dL_addName_16 : decode cL_addName 16 = .ok (.iconst 2, 1) := by decide +kernel
theorem dL_addName_17 : decode cL_addName 17 = .ok (.ireturn, 1) := by decide +kernel
theorem dL_addName_18 : decode cL_addName 18 = .ok (.iconst 0, 1) := by decide +kernel
theorem dL_addName_19 : decode cL_addName 19 = .ok (.ireturn, 1) := by decide +kernel
theorem dL_place_0 : decode cL_place 0 = .ok (.aload_n 3, 1) := by decide +kernel
theorem dL_place_1 : decode cL_place 1 = .ok (.iconst 0, 1) := by decide +kernel
theorem dL_place_2 : decode cL_place 2 = .ok (.aload_n 0, 1) := by decide +kernel
theorem dL_place_3 : decode cL_place 3 = .ok (.iload_n 1, 1) := by decide +kernel
theorem dL_place_4 : decode cL_place 4 = .ok (.iload_n 2, 1) := by decide +kernel
theorem dL_place_5 : decode cL_place 5 = .ok (.invokevirtual 17, 3) := by decide +kernel
theorem dL_place_8 : decode cL_place 8 = .ok (.i2l, 1) := by decide +kernel
theorem dL_place_9 : decode cL_place 9 = .ok (.lastore, 1) := by decide +kernel
theorem dL_place_10 : decode cL_place 10 = .ok (.goto 15, 3) := by decide +kernel
theorem dL_place_13 : decode cL_place 13 = .ok (.astore 4, 2) := by decide +kernel
theorem dL_place_15 : decode cL_place 15 = .ok (.iconst 1, 1) := by decide +kernel
theorem dL_place_16 : decode cL_place 16 = .ok (.ireturn, 1) := by decide +kernel
theorem dL_place_17 : decode cL_place 17 = .ok (.astore 4, 2) := by decide +kernel
theorem dL_place_19 : decode cL_place 19 = .ok (.iconst 2, 1) := by decide +kernel
theorem dL_place_20 : decode cL_place 20 = .ok (.ireturn, 1) := by decide +kernel
theorem dL_place_21 : decode cL_place 21 = .ok (.astore 4, 2) := by decide +kernel
theorem dL_place_23 : decode cL_place 23 = .ok (.iconst 3, 1) := by decide +kernel
theorem dL_place_24 : decode cL_place 24 = .ok (.ireturn, 1) := by decide +kernel
theorem dL_place_25 : decode cL_place 25 = .ok (.iconst 0, 1) := by decide +kernel
theorem dL_place_26 : decode cL_place 26 = .ok (.ireturn, 1) := by decide +kernel
theorem dL_link_0 : decode cL_link 0 = .ok (.aload_n 2, 1) := by decide +kernel
theorem dL_link_1 : decode cL_link 1 = .ok (.iconst 0, 1) := by decide +kernel
theorem dL_link_2 : decode cL_link 2 = .ok (.aload_n 0, 1) := by decide +kernel
theorem dL_link_3 : decode cL_link 3 = .ok (.iload_n 1, 1) := by decide +kernel
theorem dL_link_4 : decode cL_link 4 = .ok (.invokevirtual 23, 3) := by decide +kernel
theorem dL_link_7 : decode cL_link 7 = .ok (.i2l, 1) := by decide +kernel
theorem dL_link_8 : decode cL_link 8 = .ok (.lastore, 1) := by decide +kernel
theorem dL_link_9 : decode cL_link 9 = .ok (.goto 9, 3) := by decide +kernel
theorem dL_link_12 : decode cL_link 12 = .ok (.astore_n 3, 1) := by decide +kernel
theorem dL_link_13 : decode cL_link 13 = .ok (.iconst 1, 1) := by decide +kernel
theorem dL_link_14 : decode cL_link 14 = .ok (.ireturn, 1) := by decide +kernel
theorem dL_link_15 : decode cL_link 15 = .ok (.astore_n 3, 1) := by decide +kernel
theorem dL_link_16 : decode cL_link 16 = .ok (.iconst 2, 1) := by decide +kernel
theorem dL_link_17 : decode cL_link 17 = .ok (.ireturn, 1) := by decide +kernel
theorem dL_link_18 : decode cL_link 18 = .ok (.iconst 0, 1) := by decide +kernel
theorem dL_link_19 : decode cL_link 19 = .ok (.ireturn, 1) := by decide +kernel
theorem dL_take_0 : decode cL_take 0 = .ok (.aload_n 2, 1) := by decide +kernel
theorem dL_take_1 : decode cL_take 1 = .ok (.iconst 0, 1) := by decide +kernel
theorem dL_take_2 : decode cL_take 2 = .ok (.aload_n 0, 1) := by decide +kernel
theorem dL_take_3 : decode cL_take 3 = .ok (.iload_n 1, 1) := by decide +kernel
theorem dL_take_4 : decode cL_take 4 = .ok (.invokevirtual 28, 3) := by decide +kernel
theorem dL_take_7 : decode cL_take 7 = .ok (.i2l, 1) := by decide +kernel
theorem dL_take_8 : decode cL_take 8 = .ok (.lastore, 1) := by decide +kernel
theorem dL_take_9 : decode cL_take 9 = .ok (.goto 9, 3) := by decide +kernel
theorem dL_take_12 : decode cL_take 12 = .ok (.astore_n 3, 1) := by decide +kernel
theorem dL_take_13 : decode cL_take 13 = .ok (.iconst 1, 1) := by decide +kernel
theorem dL_take_14 : decode cL_take 14 = .ok (.ireturn, 1) := by decide +kernel
theorem dL_take_15 : decode cL_take 15 = .ok (.astore_n 3, 1) := by decide +kernel
theorem dL_take_16 : decode cL_take 16 = .ok (.iconst 2, 1) := by decide +kernel
theorem dL_take_17 : decode cL_take 17 = .ok (.ireturn, 1) := by decide +kernel
theorem dL_take_18 : decode cL_take 18 = .ok (.iconst 0, 1) := by decide +kernel
theorem dL_take_19 : decode cL_take 19 = .ok (.ireturn, 1) := by decide +kernel
theorem dL_addressOf_0 : decode cL_addressOf 0 = .ok (.aload_n 3, 1) := by decide +kernel
theorem dL_addressOf_1 : decode cL_addressOf 1 = .ok (.iconst 0, 1) := by decide +kernel
theorem dL_addressOf_2 : decode cL_addressOf 2 = .ok (.aload_n 0, 1) := by decide +kernel
theorem dL_addressOf_3 : decode cL_addressOf 3 = .ok (.iload_n 1, 1) := by decide +kernel
theorem dL_addressOf_4 : decode cL_addressOf 4 = .ok (.iload_n 2, 1) := by decide +kernel
theorem dL_addressOf_5 : decode cL_addressOf 5 = .ok (.invokevirtual 31, 3) := by decide +kernel
theorem dL_addressOf_8 : decode cL_addressOf 8 = .ok (.i2l, 1) := by decide +kernel
theorem dL_addressOf_9 : decode cL_addressOf 9 = .ok (.lastore, 1) := by decide +kernel
theorem dL_addressOf_10 : decode cL_addressOf 10 = .ok (.goto 15, 3) := by decide +kernel
theorem dL_addressOf_13 : decode cL_addressOf 13 = .ok (.astore 4, 2) := by decide +kernel
theorem dL_addressOf_15 : decode cL_addressOf 15 = .ok (.iconst 1, 1) := by decide +kernel
theorem dL_addressOf_16 : decode cL_addressOf 16 = .ok (.ireturn, 1) := by decide +kernel
theorem dL_addressOf_17 : decode cL_addressOf 17 = .ok (.astore 4, 2) := by decide +kernel
theorem dL_addressOf_19 : decode cL_addressOf 19 = .ok (.iconst 2, 1) := by decide +kernel
theorem dL_addressOf_20 : decode cL_addressOf 20 = .ok (.ireturn, 1) := by decide +kernel
theorem dL_addressOf_21 : decode cL_addressOf 21 = .ok (.astore 4, 2) := by decide +kernel
theorem dL_addressOf_23 : decode cL_addressOf 23 = .ok (.iconst 3, 1) := by decide +kernel
theorem dL_addressOf_24 : decode cL_addressOf 24 = .ok (.ireturn, 1) := by decide +kernel
theorem dL_addressOf_25 : decode cL_addressOf 25 = .ok (.iconst 0, 1) := by decide +kernel
theorem dL_addressOf_26 : decode cL_addressOf 26 = .ok (.ireturn, 1) := by decide +kernel
theorem dL_nameAt_0 : decode cL_nameAt 0 = .ok (.aload_n 2, 1) := by decide +kernel
theorem dL_nameAt_1 : decode cL_nameAt 1 = .ok (.iconst 0, 1) := by decide +kernel
theorem dL_nameAt_2 : decode cL_nameAt 2 = .ok (.aload_n 0, 1) := by decide +kernel
theorem dL_nameAt_3 : decode cL_nameAt 3 = .ok (.iload_n 1, 1) := by decide +kernel
theorem dL_nameAt_4 : decode cL_nameAt 4 = .ok (.invokevirtual 34, 3) := by decide +kernel
theorem dL_nameAt_7 : decode cL_nameAt 7 = .ok (.i2l, 1) := by decide +kernel
theorem dL_nameAt_8 : decode cL_nameAt 8 = .ok (.lastore, 1) := by decide +kernel
theorem dL_nameAt_9 : decode cL_nameAt 9 = .ok (.goto 9, 3) := by decide +kernel
theorem dL_nameAt_12 : decode cL_nameAt 12 = .ok (.astore_n 3, 1) := by decide +kernel
theorem dL_nameAt_13 : decode cL_nameAt 13 = .ok (.iconst 1, 1) := by decide +kernel
theorem dL_nameAt_14 : decode cL_nameAt 14 = .ok (.ireturn, 1) := by decide +kernel
theorem dL_nameAt_15 : decode cL_nameAt 15 = .ok (.astore_n 3, 1) := by decide +kernel
theorem dL_nameAt_16 : decode cL_nameAt 16 = .ok (.iconst 2, 1) := by decide +kernel
theorem dL_nameAt_17 : decode cL_nameAt 17 = .ok (.ireturn, 1) := by decide +kernel
theorem dL_nameAt_18 : decode cL_nameAt 18 = .ok (.iconst 0, 1) := by decide +kernel
theorem dL_nameAt_19 : decode cL_nameAt 19 = .ok (.ireturn, 1) := by decide +kernel
theorem dL_meet_0 : decode cL_meet 0 = .ok (.aload_n 3, 1) := by decide +kernel
theorem dL_meet_1 : decode cL_meet 1 = .ok (.iconst 0, 1) := by decide +kernel
theorem dL_meet_2 : decode cL_meet 2 = .ok (.aload_n 0, 1) := by decide +kernel
theorem dL_meet_3 : decode cL_meet 3 = .ok (.iload_n 1, 1) := by decide +kernel
theorem dL_meet_4 : decode cL_meet 4 = .ok (.iload_n 2, 1) := by decide +kernel
theorem dL_meet_5 : decode cL_meet 5 = .ok (.invokevirtual 37, 3) := by decide +kernel
theorem dL_meet_8 : decode cL_meet 8 = .ok (.ifCond .eq 7, 3) := by decide +kernel
theorem dL_meet_11 : decode cL_meet 11 = .ok (.lconst 1, 1) := by decide +kernel
theorem dL_meet_12 : decode cL_meet 12 = .ok (.goto 4, 3) := by decide +kernel
theorem dL_meet_15 : decode cL_meet 15 = .ok (.lconst 0, 1) := by decide +kernel
theorem dL_meet_16 : decode cL_meet 16 = .ok (.lastore, 1) := by decide +kernel
theorem dL_meet_17 : decode cL_meet 17 = .ok (.goto 11, 3) := by decide +kernel
theorem dL_meet_20 : decode cL_meet 20 = .ok (.astore 4, 2) := by decide +kernel
theorem dL_meet_22 : decode cL_meet 22 = .ok (.iconst 1, 1) := by decide +kernel
theorem dL_meet_23 : decode cL_meet 23 = .ok (.ireturn, 1) := by decide +kernel
theorem dL_meet_24 : decode cL_meet 24 = .ok (.astore 4, 2) := by decide +kernel
theorem dL_meet_26 : decode cL_meet 26 = .ok (.iconst 2, 1) := by decide +kernel
theorem dL_meet_27 : decode cL_meet 27 = .ok (.ireturn, 1) := by decide +kernel
theorem dL_meet_28 : decode cL_meet 28 = .ok (.iconst 0, 1) := by decide +kernel
theorem dL_meet_29 : decode cL_meet 29 = .ok (.ireturn, 1) := by decide +kernel
theorem dL_read_0 : decode cL_read 0 = .ok (.aload 4, 2) := by decide +kernel
theorem dL_read_2 : decode cL_read 2 = .ok (.iconst 0, 1) := by decide +kernel
theorem dL_read_3 : decode cL_read 3 = .ok (.aload_n 0, 1) := by decide +kernel
theorem dL_read_4 : decode cL_read 4 = .ok (.iload_n 1, 1) := by decide +kernel
theorem dL_read_5 : decode cL_read 5 = .ok (.iload_n 2, 1) := by decide +kernel
theorem dL_read_6 : decode cL_read 6 = .ok (.iload_n 3, 1) := by decide +kernel
theorem dL_read_7 : decode cL_read 7 = .ok (.invokevirtual 41, 3) := by decide +kernel
theorem dL_read_10 : decode cL_read 10 = .ok (.i2l, 1) := by decide +kernel
theorem dL_read_11 : decode cL_read 11 = .ok (.lastore, 1) := by decide +kernel
theorem dL_read_12 : decode cL_read 12 = .ok (.goto 19, 3) := by decide +kernel
theorem dL_read_15 : decode cL_read 15 = .ok (.astore 5, 2) := by decide +kernel
theorem dL_read_17 : decode cL_read 17 = .ok (.iconst 1, 1) := by decide +kernel
theorem dL_read_18 : decode cL_read 18 = .ok (.ireturn, 1) := by decide +kernel
theorem dL_read_19 : decode cL_read 19 = .ok (.astore 5, 2) := by decide +kernel
theorem dL_read_21 : decode cL_read 21 = .ok (.iconst 2, 1) := by decide +kernel
theorem dL_read_22 : decode cL_read 22 = .ok (.ireturn, 1) := by decide +kernel
theorem dL_read_23 : decode cL_read 23 = .ok (.astore 5, 2) := by decide +kernel
theorem dL_read_25 : decode cL_read 25 = .ok (.iconst 3, 1) := by decide +kernel
theorem dL_read_26 : decode cL_read 26 = .ok (.ireturn, 1) := by decide +kernel
theorem dL_read_27 : decode cL_read 27 = .ok (.astore 5, 2) := by decide +kernel
theorem dL_read_29 : decode cL_read 29 = .ok (.iconst 4, 1) := by decide +kernel
theorem dL_read_30 : decode cL_read 30 = .ok (.ireturn, 1) := by decide +kernel
theorem dL_read_31 : decode cL_read 31 = .ok (.iconst 0, 1) := by decide +kernel
theorem dL_read_32 : decode cL_read 32 = .ok (.ireturn, 1) := by decide +kernel
theorem dL_write_0 : decode cL_write 0 = .ok (.aload 4, 2) := by decide +kernel
theorem dL_write_2 : decode cL_write 2 = .ok (.iconst 0, 1) := by decide +kernel
theorem dL_write_3 : decode cL_write 3 = .ok (.aload_n 0, 1) := by decide +kernel
theorem dL_write_4 : decode cL_write 4 = .ok (.iload_n 1, 1) := by decide +kernel
theorem dL_write_5 : decode cL_write 5 = .ok (.iload_n 2, 1) := by decide +kernel
theorem dL_write_6 : decode cL_write 6 = .ok (.iload_n 3, 1) := by decide +kernel
theorem dL_write_7 : decode cL_write 7 = .ok (.invokevirtual 47, 3) := by decide +kernel
theorem dL_write_10 : decode cL_write 10 = .ok (.i2l, 1) := by decide +kernel
theorem dL_write_11 : decode cL_write 11 = .ok (.lastore, 1) := by decide +kernel
theorem dL_write_12 : decode cL_write 12 = .ok (.goto 19, 3) := by decide +kernel
theorem dL_write_15 : decode cL_write 15 = .ok (.astore 5, 2) := by decide +kernel
theorem dL_write_17 : decode cL_write 17 = .ok (.iconst 1, 1) := by decide +kernel
theorem dL_write_18 : decode cL_write 18 = .ok (.ireturn, 1) := by decide +kernel
theorem dL_write_19 : decode cL_write 19 = .ok (.astore 5, 2) := by decide +kernel
theorem dL_write_21 : decode cL_write 21 = .ok (.iconst 2, 1) := by decide +kernel
theorem dL_write_22 : decode cL_write 22 = .ok (.ireturn, 1) := by decide +kernel
theorem dL_write_23 : decode cL_write 23 = .ok (.astore 5, 2) := by decide +kernel
theorem dL_write_25 : decode cL_write 25 = .ok (.iconst 3, 1) := by decide +kernel
theorem dL_write_26 : decode cL_write 26 = .ok (.ireturn, 1) := by decide +kernel
theorem dL_write_27 : decode cL_write 27 = .ok (.astore 5, 2) := by decide +kernel
theorem dL_write_29 : decode cL_write 29 = .ok (.iconst 4, 1) := by decide +kernel
theorem dL_write_30 : decode cL_write 30 = .ok (.ireturn, 1) := by decide +kernel
theorem dL_write_31 : decode cL_write 31 = .ok (.iconst 0, 1) := by decide +kernel
theorem dL_write_32 : decode cL_write 32 = .ok (.ireturn, 1) := by decide +kernel
theorem dL_empty_0 : decode cL_empty 0 = .ok (.aload_n 2, 1) := by decide +kernel
theorem dL_empty_1 : decode cL_empty 1 = .ok (.iconst 0, 1) := by decide +kernel
theorem dL_empty_2 : decode cL_empty 2 = .ok (.aload_n 0, 1) := by decide +kernel
theorem dL_empty_3 : decode cL_empty 3 = .ok (.iload_n 1, 1) := by decide +kernel
theorem dL_empty_4 : decode cL_empty 4 = .ok (.invokevirtual 50, 3) := by decide +kernel
theorem dL_empty_7 : decode cL_empty 7 = .ok (.i2l, 1) := by decide +kernel
theorem dL_empty_8 : decode cL_empty 8 = .ok (.lastore, 1) := by decide +kernel
theorem dL_empty_9 : decode cL_empty 9 = .ok (.goto 6, 3) := by decide +kernel
theorem dL_empty_12 : decode cL_empty 12 = .ok (.astore_n 3, 1) := by decide +kernel
theorem dL_empty_13 : decode cL_empty 13 = .ok (.iconst 1, 1) := by decide +kernel
theorem dL_empty_14 : decode cL_empty 14 = .ok (.ireturn, 1) := by decide +kernel
theorem dL_empty_15 : decode cL_empty 15 = .ok (.iconst 0, 1) := by decide +kernel
theorem dL_empty_16 : decode cL_empty 16 = .ok (.ireturn, 1) := by decide +kernel
theorem dL_setAhead_0 : decode cL_setAhead 0 = .ok (.aload_n 3, 1) := by decide +kernel
theorem dL_setAhead_1 : decode cL_setAhead 1 = .ok (.iconst 0, 1) := by decide +kernel
theorem dL_setAhead_2 : decode cL_setAhead 2 = .ok (.aload_n 0, 1) := by decide +kernel
theorem dL_setAhead_3 : decode cL_setAhead 3 = .ok (.iload_n 1, 1) := by decide +kernel
theorem dL_setAhead_4 : decode cL_setAhead 4 = .ok (.iload_n 2, 1) := by decide +kernel
theorem dL_setAhead_5 : decode cL_setAhead 5 = .ok (.invokevirtual 53, 3) := by decide +kernel
theorem dL_setAhead_8 : decode cL_setAhead 8 = .ok (.ifCond .eq 7, 3) := by decide +kernel
theorem dL_setAhead_11 : decode cL_setAhead 11 = .ok (.lconst 1, 1) := by decide +kernel
theorem dL_setAhead_12 : decode cL_setAhead 12 = .ok (.goto 4, 3) := by decide +kernel
theorem dL_setAhead_15 : decode cL_setAhead 15 = .ok (.lconst 0, 1) := by decide +kernel
theorem dL_setAhead_16 : decode cL_setAhead 16 = .ok (.lastore, 1) := by decide +kernel
theorem dL_setAhead_17 : decode cL_setAhead 17 = .ok (.goto 7, 3) := by decide +kernel
theorem dL_setAhead_20 : decode cL_setAhead 20 = .ok (.astore 4, 2) := by decide +kernel
theorem dL_setAhead_22 : decode cL_setAhead 22 = .ok (.iconst 1, 1) := by decide +kernel
theorem dL_setAhead_23 : decode cL_setAhead 23 = .ok (.ireturn, 1) := by decide +kernel
theorem dL_setAhead_24 : decode cL_setAhead 24 = .ok (.iconst 0, 1) := by decide +kernel
theorem dL_setAhead_25 : decode cL_setAhead 25 = .ok (.ireturn, 1) := by decide +kernel
theorem dL_costOf_0 : decode cL_costOf 0 = .ok (.aload_n 2, 1) := by decide +kernel
theorem dL_costOf_1 : decode cL_costOf 1 = .ok (.iconst 0, 1) := by decide +kernel
theorem dL_costOf_2 : decode cL_costOf 2 = .ok (.aload_n 0, 1) := by decide +kernel
theorem dL_costOf_3 : decode cL_costOf 3 = .ok (.iload_n 1, 1) := by decide +kernel
theorem dL_costOf_4 : decode cL_costOf 4 = .ok (.invokevirtual 57, 3) := by decide +kernel
theorem dL_costOf_7 : decode cL_costOf 7 = .ok (.i2l, 1) := by decide +kernel
theorem dL_costOf_8 : decode cL_costOf 8 = .ok (.lastore, 1) := by decide +kernel
theorem dL_costOf_9 : decode cL_costOf 9 = .ok (.goto 6, 3) := by decide +kernel
theorem dL_costOf_12 : decode cL_costOf 12 = .ok (.astore_n 3, 1) := by decide +kernel
theorem dL_costOf_13 : decode cL_costOf 13 = .ok (.iconst 1, 1) := by decide +kernel
theorem dL_costOf_14 : decode cL_costOf 14 = .ok (.ireturn, 1) := by decide +kernel
theorem dL_costOf_15 : decode cL_costOf 15 = .ok (.iconst 0, 1) := by decide +kernel
theorem dL_costOf_16 : decode cL_costOf 16 = .ok (.ireturn, 1) := by decide +kernel
theorem dL_costByReplay_0 : decode cL_costByReplay 0 = .ok (.aload_n 2, 1) := by decide +kernel
theorem dL_costByReplay_1 : decode cL_costByReplay 1 = .ok (.iconst 0, 1) := by decide +kernel
theorem dL_costByReplay_2 : decode cL_costByReplay 2 = .ok (.aload_n 0, 1) := by decide +kernel
theorem dL_costByReplay_3 : decode cL_costByReplay 3 = .ok (.iload_n 1, 1) := by decide +kernel
theorem dL_costByReplay_4 : decode cL_costByReplay 4 = .ok (.invokevirtual 60, 3) := by decide +kernel
theorem dL_costByReplay_7 : decode cL_costByReplay 7 = .ok (.i2l, 1) := by decide +kernel
theorem dL_costByReplay_8 : decode cL_costByReplay 8 = .ok (.lastore, 1) := by decide +kernel
theorem dL_costByReplay_9 : decode cL_costByReplay 9 = .ok (.goto 6, 3) := by decide +kernel
theorem dL_costByReplay_12 : decode cL_costByReplay 12 = .ok (.astore_n 3, 1) := by decide +kernel
theorem dL_costByReplay_13 : decode cL_costByReplay 13 = .ok (.iconst 1, 1) := by decide +kernel
theorem dL_costByReplay_14 : decode cL_costByReplay 14 = .ok (.ireturn, 1) := by decide +kernel
theorem dL_costByReplay_15 : decode cL_costByReplay 15 = .ok (.iconst 0, 1) := by decide +kernel
theorem dL_costByReplay_16 : decode cL_costByReplay 16 = .ok (.ireturn, 1) := by decide +kernel
theorem dL_causeOf_0 : decode cL_causeOf 0 = .ok (.aload_n 2, 1) := by decide +kernel
theorem dL_causeOf_1 : decode cL_causeOf 1 = .ok (.iconst 0, 1) := by decide +kernel
theorem dL_causeOf_2 : decode cL_causeOf 2 = .ok (.aload_n 0, 1) := by decide +kernel
theorem dL_causeOf_3 : decode cL_causeOf 3 = .ok (.iload_n 1, 1) := by decide +kernel
theorem dL_causeOf_4 : decode cL_causeOf 4 = .ok (.invokevirtual 63, 3) := by decide +kernel
theorem dL_causeOf_7 : decode cL_causeOf 7 = .ok (.i2l, 1) := by decide +kernel
theorem dL_causeOf_8 : decode cL_causeOf 8 = .ok (.lastore, 1) := by decide +kernel
theorem dL_causeOf_9 : decode cL_causeOf 9 = .ok (.goto 6, 3) := by decide +kernel
theorem dL_causeOf_12 : decode cL_causeOf 12 = .ok (.astore_n 3, 1) := by decide +kernel
theorem dL_causeOf_13 : decode cL_causeOf 13 = .ok (.iconst 1, 1) := by decide +kernel
theorem dL_causeOf_14 : decode cL_causeOf 14 = .ok (.ireturn, 1) := by decide +kernel
theorem dL_causeOf_15 : decode cL_causeOf 15 = .ok (.iconst 0, 1) := by decide +kernel
theorem dL_causeOf_16 : decode cL_causeOf 16 = .ok (.ireturn, 1) := by decide +kernel
theorem dL_state_0 : decode cL_state 0 = .ok (.aload_n 3, 1) := by decide +kernel
theorem dL_state_1 : decode cL_state 1 = .ok (.iconst 0, 1) := by decide +kernel
theorem dL_state_2 : decode cL_state 2 = .ok (.aload_n 0, 1) := by decide +kernel
theorem dL_state_3 : decode cL_state 3 = .ok (.iload_n 1, 1) := by decide +kernel
theorem dL_state_4 : decode cL_state 4 = .ok (.iload_n 2, 1) := by decide +kernel
theorem dL_state_5 : decode cL_state 5 = .ok (.invokevirtual 67, 3) := by decide +kernel
theorem dL_state_8 : decode cL_state 8 = .ok (.i2l, 1) := by decide +kernel
theorem dL_state_9 : decode cL_state 9 = .ok (.lastore, 1) := by decide +kernel
theorem dL_state_10 : decode cL_state 10 = .ok (.goto 11, 3) := by decide +kernel
theorem dL_state_13 : decode cL_state 13 = .ok (.astore 4, 2) := by decide +kernel
theorem dL_state_15 : decode cL_state 15 = .ok (.iconst 1, 1) := by decide +kernel
theorem dL_state_16 : decode cL_state 16 = .ok (.ireturn, 1) := by decide +kernel
theorem dL_state_17 : decode cL_state 17 = .ok (.astore 4, 2) := by decide +kernel
theorem dL_state_19 : decode cL_state 19 = .ok (.iconst 2, 1) := by decide +kernel
theorem dL_state_20 : decode cL_state 20 = .ok (.ireturn, 1) := by decide +kernel
theorem dL_state_21 : decode cL_state 21 = .ok (.iconst 0, 1) := by decide +kernel
theorem dL_state_22 : decode cL_state 22 = .ok (.ireturn, 1) := by decide +kernel
theorem dL_owner_0 : decode cL_owner 0 = .ok (.aload_n 2, 1) := by decide +kernel
theorem dL_owner_1 : decode cL_owner 1 = .ok (.iconst 0, 1) := by decide +kernel
theorem dL_owner_2 : decode cL_owner 2 = .ok (.aload_n 0, 1) := by decide +kernel
theorem dL_owner_3 : decode cL_owner 3 = .ok (.iload_n 1, 1) := by decide +kernel
theorem dL_owner_4 : decode cL_owner 4 = .ok (.invokevirtual 71, 3) := by decide +kernel
theorem dL_owner_7 : decode cL_owner 7 = .ok (.i2l, 1) := by decide +kernel
theorem dL_owner_8 : decode cL_owner 8 = .ok (.lastore, 1) := by decide +kernel
theorem dL_owner_9 : decode cL_owner 9 = .ok (.goto 9, 3) := by decide +kernel
theorem dL_owner_12 : decode cL_owner 12 = .ok (.astore_n 3, 1) := by decide +kernel
theorem dL_owner_13 : decode cL_owner 13 = .ok (.iconst 1, 1) := by decide +kernel
theorem dL_owner_14 : decode cL_owner 14 = .ok (.ireturn, 1) := by decide +kernel
theorem dL_owner_15 : decode cL_owner 15 = .ok (.astore_n 3, 1) := by decide +kernel
theorem dL_owner_16 : decode cL_owner 16 = .ok (.iconst 2, 1) := by decide +kernel
theorem dL_owner_17 : decode cL_owner 17 = .ok (.ireturn, 1) := by decide +kernel
theorem dL_owner_18 : decode cL_owner 18 = .ok (.iconst 0, 1) := by decide +kernel
theorem dL_owner_19 : decode cL_owner 19 = .ok (.ireturn, 1) := by decide +kernel
theorem dL_holders_0 : decode cL_holders 0 = .ok (.aload_n 2, 1) := by decide +kernel
theorem dL_holders_1 : decode cL_holders 1 = .ok (.iconst 0, 1) := by decide +kernel
theorem dL_holders_2 : decode cL_holders 2 = .ok (.aload_n 0, 1) := by decide +kernel
theorem dL_holders_3 : decode cL_holders 3 = .ok (.iload_n 1, 1) := by decide +kernel
theorem dL_holders_4 : decode cL_holders 4 = .ok (.invokevirtual 74, 3) := by decide +kernel
theorem dL_holders_7 : decode cL_holders 7 = .ok (.i2l, 1) := by decide +kernel
theorem dL_holders_8 : decode cL_holders 8 = .ok (.lastore, 1) := by decide +kernel
theorem dL_holders_9 : decode cL_holders 9 = .ok (.goto 6, 3) := by decide +kernel
theorem dL_holders_12 : decode cL_holders 12 = .ok (.astore_n 3, 1) := by decide +kernel
theorem dL_holders_13 : decode cL_holders 13 = .ok (.iconst 1, 1) := by decide +kernel
theorem dL_holders_14 : decode cL_holders 14 = .ok (.ireturn, 1) := by decide +kernel
theorem dL_holders_15 : decode cL_holders 15 = .ok (.iconst 0, 1) := by decide +kernel
theorem dL_holders_16 : decode cL_holders 16 = .ok (.ireturn, 1) := by decide +kernel
theorem dL_lines_0 : decode cL_lines 0 = .ok (.aload_n 2, 1) := by decide +kernel
theorem dL_lines_1 : decode cL_lines 1 = .ok (.iconst 0, 1) := by decide +kernel
theorem dL_lines_2 : decode cL_lines 2 = .ok (.aload_n 0, 1) := by decide +kernel
theorem dL_lines_3 : decode cL_lines 3 = .ok (.iload_n 1, 1) := by decide +kernel
theorem dL_lines_4 : decode cL_lines 4 = .ok (.invokevirtual 77, 3) := by decide +kernel
theorem dL_lines_7 : decode cL_lines 7 = .ok (.i2l, 1) := by decide +kernel
theorem dL_lines_8 : decode cL_lines 8 = .ok (.lastore, 1) := by decide +kernel
theorem dL_lines_9 : decode cL_lines 9 = .ok (.goto 6, 3) := by decide +kernel
theorem dL_lines_12 : decode cL_lines 12 = .ok (.astore_n 3, 1) := by decide +kernel
theorem dL_lines_13 : decode cL_lines 13 = .ok (.iconst 1, 1) := by decide +kernel
theorem dL_lines_14 : decode cL_lines 14 = .ok (.ireturn, 1) := by decide +kernel
theorem dL_lines_15 : decode cL_lines 15 = .ok (.iconst 0, 1) := by decide +kernel
theorem dL_lines_16 : decode cL_lines 16 = .ok (.ireturn, 1) := by decide +kernel
theorem dL_oldest_0 : decode cL_oldest 0 = .ok (.aload_n 3, 1) := by decide +kernel
theorem dL_oldest_1 : decode cL_oldest 1 = .ok (.iconst 0, 1) := by decide +kernel
theorem dL_oldest_2 : decode cL_oldest 2 = .ok (.aload_n 0, 1) := by decide +kernel
theorem dL_oldest_3 : decode cL_oldest 3 = .ok (.iload_n 1, 1) := by decide +kernel
theorem dL_oldest_4 : decode cL_oldest 4 = .ok (.iload_n 2, 1) := by decide +kernel
theorem dL_oldest_5 : decode cL_oldest 5 = .ok (.invokevirtual 80, 3) := by decide +kernel
theorem dL_oldest_8 : decode cL_oldest 8 = .ok (.i2l, 1) := by decide +kernel
theorem dL_oldest_9 : decode cL_oldest 9 = .ok (.lastore, 1) := by decide +kernel
theorem dL_oldest_10 : decode cL_oldest 10 = .ok (.goto 15, 3) := by decide +kernel
theorem dL_oldest_13 : decode cL_oldest 13 = .ok (.astore 4, 2) := by decide +kernel
theorem dL_oldest_15 : decode cL_oldest 15 = .ok (.iconst 1, 1) := by decide +kernel
theorem dL_oldest_16 : decode cL_oldest 16 = .ok (.ireturn, 1) := by decide +kernel
theorem dL_oldest_17 : decode cL_oldest 17 = .ok (.astore 4, 2) := by decide +kernel
theorem dL_oldest_19 : decode cL_oldest 19 = .ok (.iconst 2, 1) := by decide +kernel
end
section
theorem dL_oldest_20 : decode cL_oldest 20 = .ok (.ireturn, 1) := by decide +kernel
theorem dL_oldest_21 : decode cL_oldest 21 = .ok (.astore 4, 2) := by decide +kernel
theorem dL_oldest_23 : decode cL_oldest 23 = .ok (.iconst 3, 1) := by decide +kernel
theorem dL_oldest_24 : decode cL_oldest 24 = .ok (.ireturn, 1) := by decide +kernel
theorem dL_oldest_25 : decode cL_oldest 25 = .ok (.iconst 0, 1) := by decide +kernel
theorem dL_oldest_26 : decode cL_oldest 26 = .ok (.ireturn, 1) := by decide +kernel
theorem dL_count_0 : decode cL_count 0 = .ok (.aload_n 3, 1) := by decide +kernel
theorem dL_count_1 : decode cL_count 1 = .ok (.iconst 0, 1) := by decide +kernel
theorem dL_count_2 : decode cL_count 2 = .ok (.aload_n 0, 1) := by decide +kernel
theorem dL_count_3 : decode cL_count 3 = .ok (.iload_n 1, 1) := by decide +kernel
theorem dL_count_4 : decode cL_count 4 = .ok (.iload_n 2, 1) := by decide +kernel
theorem dL_count_5 : decode cL_count 5 = .ok (.invokevirtual 83, 3) := by decide +kernel
theorem dL_count_8 : decode cL_count 8 = .ok (.i2l, 1) := by decide +kernel
theorem dL_count_9 : decode cL_count 9 = .ok (.lastore, 1) := by decide +kernel
theorem dL_count_10 : decode cL_count 10 = .ok (.goto 11, 3) := by decide +kernel
theorem dL_count_13 : decode cL_count 13 = .ok (.astore 4, 2) := by decide +kernel
theorem dL_count_15 : decode cL_count 15 = .ok (.iconst 1, 1) := by decide +kernel
theorem dL_count_16 : decode cL_count 16 = .ok (.ireturn, 1) := by decide +kernel
theorem dL_count_17 : decode cL_count 17 = .ok (.astore 4, 2) := by decide +kernel
theorem dL_count_19 : decode cL_count 19 = .ok (.iconst 2, 1) := by decide +kernel
theorem dL_count_20 : decode cL_count 20 = .ok (.ireturn, 1) := by decide +kernel
theorem dL_count_21 : decode cL_count 21 = .ok (.iconst 0, 1) := by decide +kernel
theorem dL_count_22 : decode cL_count 22 = .ok (.ireturn, 1) := by decide +kernel
theorem dL_bill_0 : decode cL_bill 0 = .ok (.aload_n 2, 1) := by decide +kernel
theorem dL_bill_1 : decode cL_bill 1 = .ok (.iconst 0, 1) := by decide +kernel
theorem dL_bill_2 : decode cL_bill 2 = .ok (.aload_n 0, 1) := by decide +kernel
theorem dL_bill_3 : decode cL_bill 3 = .ok (.iload_n 1, 1) := by decide +kernel
theorem dL_bill_4 : decode cL_bill 4 = .ok (.invokevirtual 87, 3) := by decide +kernel
theorem dL_bill_7 : decode cL_bill 7 = .ok (.lastore, 1) := by decide +kernel
theorem dL_bill_8 : decode cL_bill 8 = .ok (.goto 6, 3) := by decide +kernel
theorem dL_bill_11 : decode cL_bill 11 = .ok (.astore_n 3, 1) := by decide +kernel
theorem dL_bill_12 : decode cL_bill 12 = .ok (.iconst 1, 1) := by decide +kernel
theorem dL_bill_13 : decode cL_bill 13 = .ok (.ireturn, 1) := by decide +kernel
theorem dL_bill_14 : decode cL_bill 14 = .ok (.iconst 0, 1) := by decide +kernel
theorem dL_bill_15 : decode cL_bill 15 = .ok (.ireturn, 1) := by decide +kernel
theorem dL_worst_0 : decode cL_worst 0 = .ok (.aload_n 1, 1) := by decide +kernel
theorem dL_worst_1 : decode cL_worst 1 = .ok (.iconst 0, 1) := by decide +kernel
theorem dL_worst_2 : decode cL_worst 2 = .ok (.aload_n 0, 1) := by decide +kernel
theorem dL_worst_3 : decode cL_worst 3 = .ok (.invokevirtual 91, 3) := by decide +kernel
theorem dL_worst_6 : decode cL_worst 6 = .ok (.i2l, 1) := by decide +kernel
theorem dL_worst_7 : decode cL_worst 7 = .ok (.lastore, 1) := by decide +kernel
theorem dL_worst_8 : decode cL_worst 8 = .ok (.goto 6, 3) := by decide +kernel
theorem dL_worst_11 : decode cL_worst 11 = .ok (.astore_n 2, 1) := by decide +kernel
theorem dL_worst_12 : decode cL_worst 12 = .ok (.iconst 1, 1) := by decide +kernel
theorem dL_worst_13 : decode cL_worst 13 = .ok (.ireturn, 1) := by decide +kernel
theorem dL_worst_14 : decode cL_worst 14 = .ok (.iconst 0, 1) := by decide +kernel
theorem dL_worst_15 : decode cL_worst 15 = .ok (.ireturn, 1) := by decide +kernel
theorem dL_cycles_0 : decode cL_cycles 0 = .ok (.aload_n 2, 1) := by decide +kernel
theorem dL_cycles_1 : decode cL_cycles 1 = .ok (.iconst 0, 1) := by decide +kernel
theorem dL_cycles_2 : decode cL_cycles 2 = .ok (.aload_n 0, 1) := by decide +kernel
theorem dL_cycles_3 : decode cL_cycles 3 = .ok (.iload_n 1, 1) := by decide +kernel
theorem dL_cycles_4 : decode cL_cycles 4 = .ok (.invokevirtual 95, 3) := by decide +kernel
theorem dL_cycles_7 : decode cL_cycles 7 = .ok (.lastore, 1) := by decide +kernel
theorem dL_cycles_8 : decode cL_cycles 8 = .ok (.goto 6, 3) := by decide +kernel
theorem dL_cycles_11 : decode cL_cycles 11 = .ok (.astore_n 3, 1) := by decide +kernel
theorem dL_cycles_12 : decode cL_cycles 12 = .ok (.iconst 1, 1) := by decide +kernel
theorem dL_cycles_13 : decode cL_cycles 13 = .ok (.ireturn, 1) := by decide +kernel
theorem dL_cycles_14 : decode cL_cycles 14 = .ok (.iconst 0, 1) := by decide +kernel
theorem dL_cycles_15 : decode cL_cycles 15 = .ok (.ireturn, 1) := by decide +kernel
theorem dL_fetched_0 : decode cL_fetched 0 = .ok (.aload_n 2, 1) := by decide +kernel
theorem dL_fetched_1 : decode cL_fetched 1 = .ok (.iconst 0, 1) := by decide +kernel
theorem dL_fetched_2 : decode cL_fetched 2 = .ok (.aload_n 0, 1) := by decide +kernel
theorem dL_fetched_3 : decode cL_fetched 3 = .ok (.iload_n 1, 1) := by decide +kernel
theorem dL_fetched_4 : decode cL_fetched 4 = .ok (.invokevirtual 98, 3) := by decide +kernel
theorem dL_fetched_7 : decode cL_fetched 7 = .ok (.i2l, 1) := by decide +kernel
theorem dL_fetched_8 : decode cL_fetched 8 = .ok (.lastore, 1) := by decide +kernel
theorem dL_fetched_9 : decode cL_fetched 9 = .ok (.goto 6, 3) := by decide +kernel
theorem dL_fetched_12 : decode cL_fetched 12 = .ok (.astore_n 3, 1) := by decide +kernel
theorem dL_fetched_13 : decode cL_fetched 13 = .ok (.iconst 1, 1) := by decide +kernel
theorem dL_fetched_14 : decode cL_fetched 14 = .ok (.ireturn, 1) := by decide +kernel
theorem dL_fetched_15 : decode cL_fetched 15 = .ok (.iconst 0, 1) := by decide +kernel
theorem dL_fetched_16 : decode cL_fetched 16 = .ok (.ireturn, 1) := by decide +kernel
theorem dL_useful_0 : decode cL_useful 0 = .ok (.aload_n 2, 1) := by decide +kernel
theorem dL_useful_1 : decode cL_useful 1 = .ok (.iconst 0, 1) := by decide +kernel
theorem dL_useful_2 : decode cL_useful 2 = .ok (.aload_n 0, 1) := by decide +kernel
theorem dL_useful_3 : decode cL_useful 3 = .ok (.iload_n 1, 1) := by decide +kernel
theorem dL_useful_4 : decode cL_useful 4 = .ok (.invokevirtual 101, 3) := by decide +kernel
theorem dL_useful_7 : decode cL_useful 7 = .ok (.i2l, 1) := by decide +kernel
theorem dL_useful_8 : decode cL_useful 8 = .ok (.lastore, 1) := by decide +kernel
theorem dL_useful_9 : decode cL_useful 9 = .ok (.goto 6, 3) := by decide +kernel
theorem dL_useful_12 : decode cL_useful 12 = .ok (.astore_n 3, 1) := by decide +kernel
theorem dL_useful_13 : decode cL_useful 13 = .ok (.iconst 1, 1) := by decide +kernel
theorem dL_useful_14 : decode cL_useful 14 = .ok (.ireturn, 1) := by decide +kernel
theorem dL_useful_15 : decode cL_useful 15 = .ok (.iconst 0, 1) := by decide +kernel
theorem dL_useful_16 : decode cL_useful 16 = .ok (.ireturn, 1) := by decide +kernel
theorem dL_wrong_0 : decode cL_wrong 0 = .ok (.aload_n 2, 1) := by decide +kernel
theorem dL_wrong_1 : decode cL_wrong 1 = .ok (.iconst 0, 1) := by decide +kernel
theorem dL_wrong_2 : decode cL_wrong 2 = .ok (.aload_n 0, 1) := by decide +kernel
theorem dL_wrong_3 : decode cL_wrong 3 = .ok (.iload_n 1, 1) := by decide +kernel
theorem dL_wrong_4 : decode cL_wrong 4 = .ok (.invokevirtual 104, 3) := by decide +kernel
theorem dL_wrong_7 : decode cL_wrong 7 = .ok (.i2l, 1) := by decide +kernel
theorem dL_wrong_8 : decode cL_wrong 8 = .ok (.lastore, 1) := by decide +kernel
theorem dL_wrong_9 : decode cL_wrong 9 = .ok (.goto 6, 3) := by decide +kernel
theorem dL_wrong_12 : decode cL_wrong 12 = .ok (.astore_n 3, 1) := by decide +kernel
theorem dL_wrong_13 : decode cL_wrong 13 = .ok (.iconst 1, 1) := by decide +kernel
theorem dL_wrong_14 : decode cL_wrong 14 = .ok (.ireturn, 1) := by decide +kernel
theorem dL_wrong_15 : decode cL_wrong 15 = .ok (.iconst 0, 1) := by decide +kernel
theorem dL_wrong_16 : decode cL_wrong 16 = .ok (.ireturn, 1) := by decide +kernel
theorem dL_missShare_0 : decode cL_missShare 0 = .ok (.aload_n 1, 1) := by decide +kernel
theorem dL_missShare_1 : decode cL_missShare 1 = .ok (.iconst 0, 1) := by decide +kernel
theorem dL_missShare_2 : decode cL_missShare 2 = .ok (.aload_n 0, 1) := by decide +kernel
theorem dL_missShare_3 : decode cL_missShare 3 = .ok (.invokevirtual 107, 3) := by decide +kernel
theorem dL_missShare_6 : decode cL_missShare 6 = .ok (.f2d, 1) := by decide +kernel
theorem dL_missShare_7 : decode cL_missShare 7 = .ok (.dastore, 1) := by decide +kernel
theorem dL_missShare_8 : decode cL_missShare 8 = .ok (.goto 6, 3) := by decide +kernel
theorem dL_missShare_11 : decode cL_missShare 11 = .ok (.astore_n 2, 1) := by decide +kernel
theorem dL_missShare_12 : decode cL_missShare 12 = .ok (.iconst 1, 1) := by decide +kernel
theorem dL_missShare_13 : decode cL_missShare 13 = .ok (.ireturn, 1) := by decide +kernel
theorem dL_missShare_14 : decode cL_missShare 14 = .ok (.iconst 0, 1) := by decide +kernel
theorem dL_missShare_15 : decode cL_missShare 15 = .ok (.ireturn, 1) := by decide +kernel
theorem dL_meanCost_0 : decode cL_meanCost 0 = .ok (.aload_n 1, 1) := by decide +kernel
theorem dL_meanCost_1 : decode cL_meanCost 1 = .ok (.iconst 0, 1) := by decide +kernel
theorem dL_meanCost_2 : decode cL_meanCost 2 = .ok (.aload_n 0, 1) := by decide +kernel
theorem dL_meanCost_3 : decode cL_meanCost 3 = .ok (.invokevirtual 113, 3) := by decide +kernel
theorem dL_meanCost_6 : decode cL_meanCost 6 = .ok (.dastore, 1) := by decide +kernel
theorem dL_meanCost_7 : decode cL_meanCost 7 = .ok (.goto 6, 3) := by decide +kernel
theorem dL_meanCost_10 : decode cL_meanCost 10 = .ok (.astore_n 2, 1) := by decide +kernel
theorem dL_meanCost_11 : decode cL_meanCost 11 = .ok (.iconst 1, 1) := by decide +kernel
theorem dL_meanCost_12 : decode cL_meanCost 12 = .ok (.ireturn, 1) := by decide +kernel
theorem dL_meanCost_13 : decode cL_meanCost 13 = .ok (.iconst 0, 1) := by decide +kernel
theorem dL_meanCost_14 : decode cL_meanCost 14 = .ok (.ireturn, 1) := by decide +kernel
theorem dL_law_0 : decode cL_law 0 = .ok (.new 8, 3) := by decide +kernel
theorem dL_law_3 : decode cL_law 3 = .ok (.dup, 1) := by decide +kernel
theorem dL_law_4 : decode cL_law 4 = .ok (.invokespecial 117, 3) := by decide +kernel
theorem dL_law_7 : decode cL_law 7 = .ok (.astore_n 1, 1) := by decide +kernel
theorem dL_law_8 : decode cL_law 8 = .ok (.new 118, 3) := by decide +kernel
theorem dL_law_11 : decode cL_law 11 = .ok (.dup, 1) := by decide +kernel
theorem dL_law_12 : decode cL_law 12 = .ok (.invokespecial 120, 3) := by decide +kernel
theorem dL_law_15 : decode cL_law 15 = .ok (.astore_n 2, 1) := by decide +kernel
theorem dL_law_16 : decode cL_law 16 = .ok (.iconst 1, 1) := by decide +kernel
theorem dL_law_17 : decode cL_law 17 = .ok (.newarray .long, 2) := by decide +kernel
theorem dL_law_19 : decode cL_law 19 = .ok (.astore_n 3, 1) := by decide +kernel
theorem dL_law_20 : decode cL_law 20 = .ok (.iconst 1, 1) := by decide +kernel
theorem dL_law_21 : decode cL_law 21 = .ok (.newarray .double, 2) := by decide +kernel
theorem dL_law_23 : decode cL_law 23 = .ok (.astore 4, 2) := by decide +kernel
theorem dL_law_25 : decode cL_law 25 = .ok (.iconst 0, 1) := by decide +kernel
theorem dL_law_26 : decode cL_law 26 = .ok (.istore 5, 2) := by decide +kernel
theorem dL_law_28 : decode cL_law 28 = .ok (.iload 5, 2) := by decide +kernel
theorem dL_law_30 : decode cL_law 30 = .ok (.aload_n 0, 1) := by decide +kernel
theorem dL_law_31 : decode cL_law 31 = .ok (.arraylength, 1) := by decide +kernel
theorem dL_law_32 : decode cL_law 32 = .ok (.iconst 4, 1) := by decide +kernel
theorem dL_law_33 : decode cL_law 33 = .ok (.isub, 1) := by decide +kernel
theorem dL_law_34 : decode cL_law 34 = .ok (.if_icmp .gt 1915, 3) := by decide +kernel
theorem dL_law_37 : decode cL_law 37 = .ok (.aload_n 0, 1) := by decide +kernel
theorem dL_law_38 : decode cL_law 38 = .ok (.iload 5, 2) := by decide +kernel
theorem dL_law_40 : decode cL_law 40 = .ok (.iaload, 1) := by decide +kernel
theorem dL_law_41 : decode cL_law 41 = .ok (.bipush 31, 2) := by decide +kernel
theorem dL_law_43 : decode cL_law 43 = .ok (.iand, 1) := by decide +kernel
theorem dL_law_44 : decode cL_law 44 = .ok (.tableswitch 1899 0 29 #[136, 192, 260, 316, 372, 440, 496, 571, 651, 731, 787, 878, 891, 947, 1003, 1059, 1127, 1183, 1239, 1295, 1363, 1433, 1488, 1532, 1587, 1643, 1699, 1755, 1821, 1886], 136) := by decide +kernel
theorem dL_law_180 : decode cL_law 180 = .ok (.aload_n 1, 1) := by decide +kernel
theorem dL_law_181 : decode cL_law 181 = .ok (.aload_n 0, 1) := by decide +kernel
theorem dL_law_182 : decode cL_law 182 = .ok (.iload 5, 2) := by decide +kernel
theorem dL_law_184 : decode cL_law 184 = .ok (.iconst 1, 1) := by decide +kernel
theorem dL_law_185 : decode cL_law 185 = .ok (.iadd, 1) := by decide +kernel
theorem dL_law_186 : decode cL_law 186 = .ok (.iaload, 1) := by decide +kernel
theorem dL_law_187 : decode cL_law 187 = .ok (.aload_n 3, 1) := by decide +kernel
theorem dL_law_188 : decode cL_law 188 = .ok (.invokestatic 121, 3) := by decide +kernel
theorem dL_law_191 : decode cL_law 191 = .ok (.istore 6, 2) := by decide +kernel
theorem dL_law_193 : decode cL_law 193 = .ok (.aload_n 2, 1) := by decide +kernel
theorem dL_law_194 : decode cL_law 194 = .ok (.aload_n 0, 1) := by decide +kernel
theorem dL_law_195 : decode cL_law 195 = .ok (.iload 5, 2) := by decide +kernel
theorem dL_law_197 : decode cL_law 197 = .ok (.iconst 1, 1) := by decide +kernel
theorem dL_law_198 : decode cL_law 198 = .ok (.iadd, 1) := by decide +kernel
theorem dL_law_199 : decode cL_law 199 = .ok (.iaload, 1) := by decide +kernel
theorem dL_law_200 : decode cL_law 200 = .ok (.invokevirtual 126, 3) := by decide +kernel
theorem dL_law_203 : decode cL_law 203 = .ok (.istore 7, 2) := by decide +kernel
theorem dL_law_205 : decode cL_law 205 = .ok (.aload_n 2, 1) := by decide +kernel
theorem dL_law_206 : decode cL_law 206 = .ok (.invokevirtual 127, 3) := by decide +kernel
theorem dL_law_209 : decode cL_law 209 = .ok (.iload 6, 2) := by decide +kernel
theorem dL_law_211 : decode cL_law 211 = .ok (.if_icmp .eq 5, 3) := by decide +kernel
theorem dL_law_214 : decode cL_law 214 = .ok (.iconst 0, 1) := by decide +kernel
theorem dL_law_215 : decode cL_law 215 = .ok (.ireturn, 1) := by decide +kernel
theorem dL_law_216 : decode cL_law 216 = .ok (.iload 6, 2) := by decide +kernel
theorem dL_law_218 : decode cL_law 218 = .ok (.ifCond .ne 15, 3) := by decide +kernel
theorem dL_law_221 : decode cL_law 221 = .ok (.aload_n 3, 1) := by decide +kernel
theorem dL_law_222 : decode cL_law 222 = .ok (.iconst 0, 1) := by decide +kernel
theorem dL_law_223 : decode cL_law 223 = .ok (.laload, 1) := by decide +kernel
theorem dL_law_224 : decode cL_law 224 = .ok (.iload 7, 2) := by decide +kernel
theorem dL_law_226 : decode cL_law 226 = .ok (.i2l, 1) := by decide +kernel
theorem dL_law_227 : decode cL_law 227 = .ok (.lcmp, 1) := by decide +kernel
theorem dL_law_228 : decode cL_law 228 = .ok (.ifCond .eq 5, 3) := by decide +kernel
theorem dL_law_231 : decode cL_law 231 = .ok (.iconst 0, 1) := by decide +kernel
theorem dL_law_232 : decode cL_law 232 = .ok (.ireturn, 1) := by decide +kernel
theorem dL_law_233 : decode cL_law 233 = .ok (.goto 1710, 3) := by decide +kernel
theorem dL_law_236 : decode cL_law 236 = .ok (.aload_n 1, 1) := by decide +kernel
theorem dL_law_237 : decode cL_law 237 = .ok (.aload_n 0, 1) := by decide +kernel
theorem dL_law_238 : decode cL_law 238 = .ok (.iload 5, 2) := by decide +kernel
theorem dL_law_240 : decode cL_law 240 = .ok (.iconst 1, 1) := by decide +kernel
theorem dL_law_241 : decode cL_law 241 = .ok (.iadd, 1) := by decide +kernel
theorem dL_law_242 : decode cL_law 242 = .ok (.iaload, 1) := by decide +kernel
theorem dL_law_243 : decode cL_law 243 = .ok (.aload_n 0, 1) := by decide +kernel
theorem dL_law_244 : decode cL_law 244 = .ok (.iload 5, 2) := by decide +kernel
theorem dL_law_246 : decode cL_law 246 = .ok (.iconst 2, 1) := by decide +kernel
theorem dL_law_247 : decode cL_law 247 = .ok (.iadd, 1) := by decide +kernel
theorem dL_law_248 : decode cL_law 248 = .ok (.iaload, 1) := by decide +kernel
theorem dL_law_249 : decode cL_law 249 = .ok (.aload_n 3, 1) := by decide +kernel
theorem dL_law_250 : decode cL_law 250 = .ok (.invokestatic 130, 3) := by decide +kernel
theorem dL_law_253 : decode cL_law 253 = .ok (.istore 6, 2) := by decide +kernel
theorem dL_law_255 : decode cL_law 255 = .ok (.aload_n 2, 1) := by decide +kernel
theorem dL_law_256 : decode cL_law 256 = .ok (.aload_n 0, 1) := by decide +kernel
theorem dL_law_257 : decode cL_law 257 = .ok (.iload 5, 2) := by decide +kernel
theorem dL_law_259 : decode cL_law 259 = .ok (.iconst 1, 1) := by decide +kernel
theorem dL_law_260 : decode cL_law 260 = .ok (.iadd, 1) := by decide +kernel
theorem dL_law_261 : decode cL_law 261 = .ok (.iaload, 1) := by decide +kernel
theorem dL_law_262 : decode cL_law 262 = .ok (.aload_n 0, 1) := by decide +kernel
theorem dL_law_263 : decode cL_law 263 = .ok (.iload 5, 2) := by decide +kernel
theorem dL_law_265 : decode cL_law 265 = .ok (.iconst 2, 1) := by decide +kernel
theorem dL_law_266 : decode cL_law 266 = .ok (.iadd, 1) := by decide +kernel
theorem dL_law_267 : decode cL_law 267 = .ok (.iaload, 1) := by decide +kernel
theorem dL_law_268 : decode cL_law 268 = .ok (.invokevirtual 133, 3) := by decide +kernel
theorem dL_law_271 : decode cL_law 271 = .ok (.istore 7, 2) := by decide +kernel
theorem dL_law_273 : decode cL_law 273 = .ok (.aload_n 2, 1) := by decide +kernel
theorem dL_law_274 : decode cL_law 274 = .ok (.invokevirtual 127, 3) := by decide +kernel
theorem dL_law_277 : decode cL_law 277 = .ok (.iload 6, 2) := by decide +kernel
theorem dL_law_279 : decode cL_law 279 = .ok (.if_icmp .eq 5, 3) := by decide +kernel
theorem dL_law_282 : decode cL_law 282 = .ok (.iconst 0, 1) := by decide +kernel
theorem dL_law_283 : decode cL_law 283 = .ok (.ireturn, 1) := by decide +kernel
theorem dL_law_284 : decode cL_law 284 = .ok (.iload 6, 2) := by decide +kernel
theorem dL_law_286 : decode cL_law 286 = .ok (.ifCond .ne 15, 3) := by decide +kernel
theorem dL_law_289 : decode cL_law 289 = .ok (.aload_n 3, 1) := by decide +kernel
theorem dL_law_290 : decode cL_law 290 = .ok (.iconst 0, 1) := by decide +kernel
theorem dL_law_291 : decode cL_law 291 = .ok (.laload, 1) := by decide +kernel
theorem dL_law_292 : decode cL_law 292 = .ok (.iload 7, 2) := by decide +kernel
theorem dL_law_294 : decode cL_law 294 = .ok (.i2l, 1) := by decide +kernel
theorem dL_law_295 : decode cL_law 295 = .ok (.lcmp, 1) := by decide +kernel
theorem dL_law_296 : decode cL_law 296 = .ok (.ifCond .eq 5, 3) := by decide +kernel
theorem dL_law_299 : decode cL_law 299 = .ok (.iconst 0, 1) := by decide +kernel
theorem dL_law_300 : decode cL_law 300 = .ok (.ireturn, 1) := by decide +kernel
theorem dL_law_301 : decode cL_law 301 = .ok (.goto 1642, 3) := by decide +kernel
theorem dL_law_304 : decode cL_law 304 = .ok (.aload_n 1, 1) := by decide +kernel
theorem dL_law_305 : decode cL_law 305 = .ok (.aload_n 0, 1) := by decide +kernel
theorem dL_law_306 : decode cL_law 306 = .ok (.iload 5, 2) := by decide +kernel
theorem dL_law_308 : decode cL_law 308 = .ok (.iconst 1, 1) := by decide +kernel
theorem dL_law_309 : decode cL_law 309 = .ok (.iadd, 1) := by decide +kernel
theorem dL_law_310 : decode cL_law 310 = .ok (.iaload, 1) := by decide +kernel
theorem dL_law_311 : decode cL_law 311 = .ok (.aload_n 3, 1) := by decide +kernel
theorem dL_law_312 : decode cL_law 312 = .ok (.invokestatic 134, 3) := by decide +kernel
theorem dL_law_315 : decode cL_law 315 = .ok (.istore 6, 2) := by decide +kernel
theorem dL_law_317 : decode cL_law 317 = .ok (.aload_n 2, 1) := by decide +kernel
theorem dL_law_318 : decode cL_law 318 = .ok (.aload_n 0, 1) := by decide +kernel
theorem dL_law_319 : decode cL_law 319 = .ok (.iload 5, 2) := by decide +kernel
theorem dL_law_321 : decode cL_law 321 = .ok (.iconst 1, 1) := by decide +kernel
theorem dL_law_322 : decode cL_law 322 = .ok (.iadd, 1) := by decide +kernel
theorem dL_law_323 : decode cL_law 323 = .ok (.iaload, 1) := by decide +kernel
theorem dL_law_324 : decode cL_law 324 = .ok (.invokevirtual 136, 3) := by decide +kernel
theorem dL_law_327 : decode cL_law 327 = .ok (.istore 7, 2) := by decide +kernel
theorem dL_law_329 : decode cL_law 329 = .ok (.aload_n 2, 1) := by decide +kernel
theorem dL_law_330 : decode cL_law 330 = .ok (.invokevirtual 127, 3) := by decide +kernel
theorem dL_law_333 : decode cL_law 333 = .ok (.iload 6, 2) := by decide +kernel
theorem dL_law_335 : decode cL_law 335 = .ok (.if_icmp .eq 5, 3) := by decide +kernel
theorem dL_law_338 : decode cL_law 338 = .ok (.iconst 0, 1) := by decide +kernel
theorem dL_law_339 : decode cL_law 339 = .ok (.ireturn, 1) := by decide +kernel
theorem dL_law_340 : decode cL_law 340 = .ok (.iload 6, 2) := by decide +kernel
theorem dL_law_342 : decode cL_law 342 = .ok (.ifCond .ne 15, 3) := by decide +kernel
theorem dL_law_345 : decode cL_law 345 = .ok (.aload_n 3, 1) := by decide +kernel
theorem dL_law_346 : decode cL_law 346 = .ok (.iconst 0, 1) := by decide +kernel
theorem dL_law_347 : decode cL_law 347 = .ok (.laload, 1) := by decide +kernel
theorem dL_law_348 : decode cL_law 348 = .ok (.iload 7, 2) := by decide +kernel
theorem dL_law_350 : decode cL_law 350 = .ok (.i2l, 1) := by decide +kernel
theorem dL_law_351 : decode cL_law 351 = .ok (.lcmp, 1) := by decide +kernel
theorem dL_law_352 : decode cL_law 352 = .ok (.ifCond .eq 5, 3) := by decide +kernel
theorem dL_law_355 : decode cL_law 355 = .ok (.iconst 0, 1) := by decide +kernel
theorem dL_law_356 : decode cL_law 356 = .ok (.ireturn, 1) := by decide +kernel
theorem dL_law_357 : decode cL_law 357 = .ok (.goto 1586, 3) := by decide +kernel
theorem dL_law_360 : decode cL_law 360 = .ok (.aload_n 1, 1) := by decide +kernel
theorem dL_law_361 : decode cL_law 361 = .ok (.aload_n 0, 1) := by decide +kernel
theorem dL_law_362 : decode cL_law 362 = .ok (.iload 5, 2) := by decide +kernel
theorem dL_law_364 : decode cL_law 364 = .ok (.iconst 1, 1) := by decide +kernel
theorem dL_law_365 : decode cL_law 365 = .ok (.iadd, 1) := by decide +kernel
theorem dL_law_366 : decode cL_law 366 = .ok (.iaload, 1) := by decide +kernel
theorem dL_law_367 : decode cL_law 367 = .ok (.aload_n 3, 1) := by decide +kernel
theorem dL_law_368 : decode cL_law 368 = .ok (.invokestatic 137, 3) := by decide +kernel
theorem dL_law_371 : decode cL_law 371 = .ok (.istore 6, 2) := by decide +kernel
theorem dL_law_373 : decode cL_law 373 = .ok (.aload_n 2, 1) := by decide +kernel
theorem dL_law_374 : decode cL_law 374 = .ok (.aload_n 0, 1) := by decide +kernel
theorem dL_law_375 : decode cL_law 375 = .ok (.iload 5, 2) := by decide +kernel
theorem dL_law_377 : decode cL_law 377 = .ok (.iconst 1, 1) := by decide +kernel
theorem dL_law_378 : decode cL_law 378 = .ok (.iadd, 1) := by decide +kernel
theorem dL_law_379 : decode cL_law 379 = .ok (.iaload, 1) := by decide +kernel
theorem dL_law_380 : decode cL_law 380 = .ok (.invokevirtual 139, 3) := by decide +kernel
theorem dL_law_383 : decode cL_law 383 = .ok (.istore 7, 2) := by decide +kernel
theorem dL_law_385 : decode cL_law 385 = .ok (.aload_n 2, 1) := by decide +kernel
theorem dL_law_386 : decode cL_law 386 = .ok (.invokevirtual 127, 3) := by decide +kernel
theorem dL_law_389 : decode cL_law 389 = .ok (.iload 6, 2) := by decide +kernel
theorem dL_law_391 : decode cL_law 391 = .ok (.if_icmp .eq 5, 3) := by decide +kernel
theorem dL_law_394 : decode cL_law 394 = .ok (.iconst 0, 1) := by decide +kernel
theorem dL_law_395 : decode cL_law 395 = .ok (.ireturn, 1) := by decide +kernel
theorem dL_law_396 : decode cL_law 396 = .ok (.iload 6, 2) := by decide +kernel
theorem dL_law_398 : decode cL_law 398 = .ok (.ifCond .ne 15, 3) := by decide +kernel
theorem dL_law_401 : decode cL_law 401 = .ok (.aload_n 3, 1) := by decide +kernel
theorem dL_law_402 : decode cL_law 402 = .ok (.iconst 0, 1) := by decide +kernel
theorem dL_law_403 : decode cL_law 403 = .ok (.laload, 1) := by decide +kernel
theorem dL_law_404 : decode cL_law 404 = .ok (.iload 7, 2) := by decide +kernel
theorem dL_law_406 : decode cL_law 406 = .ok (.i2l, 1) := by decide +kernel
theorem dL_law_407 : decode cL_law 407 = .ok (.lcmp, 1) := by decide +kernel
theorem dL_law_408 : decode cL_law 408 = .ok (.ifCond .eq 5, 3) := by decide +kernel
theorem dL_law_411 : decode cL_law 411 = .ok (.iconst 0, 1) := by decide +kernel
theorem dL_law_412 : decode cL_law 412 = .ok (.ireturn, 1) := by decide +kernel
theorem dL_law_413 : decode cL_law 413 = .ok (.goto 1530, 3) := by decide +kernel
theorem dL_law_416 : decode cL_law 416 = .ok (.aload_n 1, 1) := by decide +kernel
theorem dL_law_417 : decode cL_law 417 = .ok (.aload_n 0, 1) := by decide +kernel
theorem dL_law_418 : decode cL_law 418 = .ok (.iload 5, 2) := by decide +kernel
theorem dL_law_420 : decode cL_law 420 = .ok (.iconst 1, 1) := by decide +kernel
theorem dL_law_421 : decode cL_law 421 = .ok (.iadd, 1) := by decide +kernel
theorem dL_law_422 : decode cL_law 422 = .ok (.iaload, 1) := by decide +kernel
theorem dL_law_423 : decode cL_law 423 = .ok (.aload_n 0, 1) := by decide +kernel
theorem dL_law_424 : decode cL_law 424 = .ok (.iload 5, 2) := by decide +kernel
theorem dL_law_426 : decode cL_law 426 = .ok (.iconst 2, 1) := by decide +kernel
theorem dL_law_427 : decode cL_law 427 = .ok (.iadd, 1) := by decide +kernel
theorem dL_law_428 : decode cL_law 428 = .ok (.iaload, 1) := by decide +kernel
theorem dL_law_429 : decode cL_law 429 = .ok (.aload_n 3, 1) := by decide +kernel
theorem dL_law_430 : decode cL_law 430 = .ok (.invokestatic 140, 3) := by decide +kernel
theorem dL_law_433 : decode cL_law 433 = .ok (.istore 6, 2) := by decide +kernel
theorem dL_law_435 : decode cL_law 435 = .ok (.aload_n 2, 1) := by decide +kernel
theorem dL_law_436 : decode cL_law 436 = .ok (.aload_n 0, 1) := by decide +kernel
theorem dL_law_437 : decode cL_law 437 = .ok (.iload 5, 2) := by decide +kernel
theorem dL_law_439 : decode cL_law 439 = .ok (.iconst 1, 1) := by decide +kernel
theorem dL_law_440 : decode cL_law 440 = .ok (.iadd, 1) := by decide +kernel
theorem dL_law_441 : decode cL_law 441 = .ok (.iaload, 1) := by decide +kernel
theorem dL_law_442 : decode cL_law 442 = .ok (.aload_n 0, 1) := by decide +kernel
theorem dL_law_443 : decode cL_law 443 = .ok (.iload 5, 2) := by decide +kernel
theorem dL_law_445 : decode cL_law 445 = .ok (.iconst 2, 1) := by decide +kernel
theorem dL_law_446 : decode cL_law 446 = .ok (.iadd, 1) := by decide +kernel
theorem dL_law_447 : decode cL_law 447 = .ok (.iaload, 1) := by decide +kernel
theorem dL_law_448 : decode cL_law 448 = .ok (.invokevirtual 142, 3) := by decide +kernel
theorem dL_law_451 : decode cL_law 451 = .ok (.istore 7, 2) := by decide +kernel
theorem dL_law_453 : decode cL_law 453 = .ok (.aload_n 2, 1) := by decide +kernel
theorem dL_law_454 : decode cL_law 454 = .ok (.invokevirtual 127, 3) := by decide +kernel
theorem dL_law_457 : decode cL_law 457 = .ok (.iload 6, 2) := by decide +kernel
theorem dL_law_459 : decode cL_law 459 = .ok (.if_icmp .eq 5, 3) := by decide +kernel
theorem dL_law_462 : decode cL_law 462 = .ok (.iconst 0, 1) := by decide +kernel
theorem dL_law_463 : decode cL_law 463 = .ok (.ireturn, 1) := by decide +kernel
theorem dL_law_464 : decode cL_law 464 = .ok (.iload 6, 2) := by decide +kernel
theorem dL_law_466 : decode cL_law 466 = .ok (.ifCond .ne 15, 3) := by decide +kernel
theorem dL_law_469 : decode cL_law 469 = .ok (.aload_n 3, 1) := by decide +kernel
theorem dL_law_470 : decode cL_law 470 = .ok (.iconst 0, 1) := by decide +kernel
theorem dL_law_471 : decode cL_law 471 = .ok (.laload, 1) := by decide +kernel
theorem dL_law_472 : decode cL_law 472 = .ok (.iload 7, 2) := by decide +kernel
theorem dL_law_474 : decode cL_law 474 = .ok (.i2l, 1) := by decide +kernel
theorem dL_law_475 : decode cL_law 475 = .ok (.lcmp, 1) := by decide +kernel
theorem dL_law_476 : decode cL_law 476 = .ok (.ifCond .eq 5, 3) := by decide +kernel
theorem dL_law_479 : decode cL_law 479 = .ok (.iconst 0, 1) := by decide +kernel
theorem dL_law_480 : decode cL_law 480 = .ok (.ireturn, 1) := by decide +kernel
theorem dL_law_481 : decode cL_law 481 = .ok (.goto 1462, 3) := by decide +kernel
theorem dL_law_484 : decode cL_law 484 = .ok (.aload_n 1, 1) := by decide +kernel
theorem dL_law_485 : decode cL_law 485 = .ok (.aload_n 0, 1) := by decide +kernel
theorem dL_law_486 : decode cL_law 486 = .ok (.iload 5, 2) := by decide +kernel
theorem dL_law_488 : decode cL_law 488 = .ok (.iconst 1, 1) := by decide +kernel
theorem dL_law_489 : decode cL_law 489 = .ok (.iadd, 1) := by decide +kernel
theorem dL_law_490 : decode cL_law 490 = .ok (.iaload, 1) := by decide +kernel
theorem dL_law_491 : decode cL_law 491 = .ok (.aload_n 3, 1) := by decide +kernel
theorem dL_law_492 : decode cL_law 492 = .ok (.invokestatic 143, 3) := by decide +kernel
theorem dL_law_495 : decode cL_law 495 = .ok (.istore 6, 2) := by decide +kernel
theorem dL_law_497 : decode cL_law 497 = .ok (.aload_n 2, 1) := by decide +kernel
theorem dL_law_498 : decode cL_law 498 = .ok (.aload_n 0, 1) := by decide +kernel
theorem dL_law_499 : decode cL_law 499 = .ok (.iload 5, 2) := by decide +kernel
theorem dL_law_501 : decode cL_law 501 = .ok (.iconst 1, 1) := by decide +kernel
theorem dL_law_502 : decode cL_law 502 = .ok (.iadd, 1) := by decide +kernel
theorem dL_law_503 : decode cL_law 503 = .ok (.iaload, 1) := by decide +kernel
theorem dL_law_504 : decode cL_law 504 = .ok (.invokevirtual 145, 3) := by decide +kernel
theorem dL_law_507 : decode cL_law 507 = .ok (.istore 7, 2) := by decide +kernel
theorem dL_law_509 : decode cL_law 509 = .ok (.aload_n 2, 1) := by decide +kernel
theorem dL_law_510 : decode cL_law 510 = .ok (.invokevirtual 127, 3) := by decide +kernel
theorem dL_law_513 : decode cL_law 513 = .ok (.iload 6, 2) := by decide +kernel
theorem dL_law_515 : decode cL_law 515 = .ok (.if_icmp .eq 5, 3) := by decide +kernel
theorem dL_law_518 : decode cL_law 518 = .ok (.iconst 0, 1) := by decide +kernel
theorem dL_law_519 : decode cL_law 519 = .ok (.ireturn, 1) := by decide +kernel
theorem dL_law_520 : decode cL_law 520 = .ok (.iload 6, 2) := by decide +kernel
theorem dL_law_522 : decode cL_law 522 = .ok (.ifCond .ne 15, 3) := by decide +kernel
theorem dL_law_525 : decode cL_law 525 = .ok (.aload_n 3, 1) := by decide +kernel
theorem dL_law_526 : decode cL_law 526 = .ok (.iconst 0, 1) := by decide +kernel
theorem dL_law_527 : decode cL_law 527 = .ok (.laload, 1) := by decide +kernel
theorem dL_law_528 : decode cL_law 528 = .ok (.iload 7, 2) := by decide +kernel
theorem dL_law_530 : decode cL_law 530 = .ok (.i2l, 1) := by decide +kernel
theorem dL_law_531 : decode cL_law 531 = .ok (.lcmp, 1) := by decide +kernel
theorem dL_law_532 : decode cL_law 532 = .ok (.ifCond .eq 5, 3) := by decide +kernel
theorem dL_law_535 : decode cL_law 535 = .ok (.iconst 0, 1) := by decide +kernel
theorem dL_law_536 : decode cL_law 536 = .ok (.ireturn, 1) := by decide +kernel
theorem dL_law_537 : decode cL_law 537 = .ok (.goto 1406, 3) := by decide +kernel
theorem dL_law_540 : decode cL_law 540 = .ok (.aload_n 1, 1) := by decide +kernel
theorem dL_law_541 : decode cL_law 541 = .ok (.aload_n 0, 1) := by decide +kernel
theorem dL_law_542 : decode cL_law 542 = .ok (.iload 5, 2) := by decide +kernel
theorem dL_law_544 : decode cL_law 544 = .ok (.iconst 1, 1) := by decide +kernel
theorem dL_law_545 : decode cL_law 545 = .ok (.iadd, 1) := by decide +kernel
theorem dL_law_546 : decode cL_law 546 = .ok (.iaload, 1) := by decide +kernel
theorem dL_law_547 : decode cL_law 547 = .ok (.aload_n 0, 1) := by decide +kernel
theorem dL_law_548 : decode cL_law 548 = .ok (.iload 5, 2) := by decide +kernel
theorem dL_law_550 : decode cL_law 550 = .ok (.iconst 2, 1) := by decide +kernel
theorem dL_law_551 : decode cL_law 551 = .ok (.iadd, 1) := by decide +kernel
theorem dL_law_552 : decode cL_law 552 = .ok (.iaload, 1) := by decide +kernel
theorem dL_law_553 : decode cL_law 553 = .ok (.aload_n 3, 1) := by decide +kernel
theorem dL_law_554 : decode cL_law 554 = .ok (.invokestatic 146, 3) := by decide +kernel
theorem dL_law_557 : decode cL_law 557 = .ok (.istore 6, 2) := by decide +kernel
theorem dL_law_559 : decode cL_law 559 = .ok (.aload_n 2, 1) := by decide +kernel
theorem dL_law_560 : decode cL_law 560 = .ok (.aload_n 0, 1) := by decide +kernel
theorem dL_law_561 : decode cL_law 561 = .ok (.iload 5, 2) := by decide +kernel
theorem dL_law_563 : decode cL_law 563 = .ok (.iconst 1, 1) := by decide +kernel
theorem dL_law_564 : decode cL_law 564 = .ok (.iadd, 1) := by decide +kernel
theorem dL_law_565 : decode cL_law 565 = .ok (.iaload, 1) := by decide +kernel
theorem dL_law_566 : decode cL_law 566 = .ok (.aload_n 0, 1) := by decide +kernel
theorem dL_law_567 : decode cL_law 567 = .ok (.iload 5, 2) := by decide +kernel
theorem dL_law_569 : decode cL_law 569 = .ok (.iconst 2, 1) := by decide +kernel
theorem dL_law_570 : decode cL_law 570 = .ok (.iadd, 1) := by decide +kernel
theorem dL_law_571 : decode cL_law 571 = .ok (.iaload, 1) := by decide +kernel
theorem dL_law_572 : decode cL_law 572 = .ok (.invokevirtual 148, 3) := by decide +kernel
theorem dL_law_575 : decode cL_law 575 = .ok (.istore 7, 2) := by decide +kernel
theorem dL_law_577 : decode cL_law 577 = .ok (.aload_n 2, 1) := by decide +kernel
theorem dL_law_578 : decode cL_law 578 = .ok (.invokevirtual 127, 3) := by decide +kernel
theorem dL_law_581 : decode cL_law 581 = .ok (.iload 6, 2) := by decide +kernel
theorem dL_law_583 : decode cL_law 583 = .ok (.if_icmp .eq 5, 3) := by decide +kernel
theorem dL_law_586 : decode cL_law 586 = .ok (.iconst 0, 1) := by decide +kernel
theorem dL_law_587 : decode cL_law 587 = .ok (.ireturn, 1) := by decide +kernel
theorem dL_law_588 : decode cL_law 588 = .ok (.iload 6, 2) := by decide +kernel
theorem dL_law_590 : decode cL_law 590 = .ok (.ifCond .ne 22, 3) := by decide +kernel
theorem dL_law_593 : decode cL_law 593 = .ok (.aload_n 3, 1) := by decide +kernel
theorem dL_law_594 : decode cL_law 594 = .ok (.iconst 0, 1) := by decide +kernel
theorem dL_law_595 : decode cL_law 595 = .ok (.laload, 1) := by decide +kernel
theorem dL_law_596 : decode cL_law 596 = .ok (.iload 7, 2) := by decide +kernel
theorem dL_law_598 : decode cL_law 598 = .ok (.ifCond .eq 7, 3) := by decide +kernel
theorem dL_law_601 : decode cL_law 601 = .ok (.lconst 1, 1) := by decide +kernel
theorem dL_law_602 : decode cL_law 602 = .ok (.goto 4, 3) := by decide +kernel
theorem dL_law_605 : decode cL_law 605 = .ok (.lconst 0, 1) := by decide +kernel
theorem dL_law_606 : decode cL_law 606 = .ok (.lcmp, 1) := by decide +kernel
theorem dL_law_607 : decode cL_law 607 = .ok (.ifCond .eq 5, 3) := by decide +kernel
theorem dL_law_610 : decode cL_law 610 = .ok (.iconst 0, 1) := by decide +kernel
theorem dL_law_611 : decode cL_law 611 = .ok (.ireturn, 1) := by decide +kernel
theorem dL_law_612 : decode cL_law 612 = .ok (.goto 1331, 3) := by decide +kernel
theorem dL_law_615 : decode cL_law 615 = .ok (.aload_n 1, 1) := by decide +kernel
theorem dL_law_616 : decode cL_law 616 = .ok (.aload_n 0, 1) := by decide +kernel
theorem dL_law_617 : decode cL_law 617 = .ok (.iload 5, 2) := by decide +kernel
theorem dL_law_619 : decode cL_law 619 = .ok (.iconst 1, 1) := by decide +kernel
theorem dL_law_620 : decode cL_law 620 = .ok (.iadd, 1) := by decide +kernel
theorem dL_law_621 : decode cL_law 621 = .ok (.iaload, 1) := by decide +kernel
theorem dL_law_622 : decode cL_law 622 = .ok (.aload_n 0, 1) := by decide +kernel
theorem dL_law_623 : decode cL_law 623 = .ok (.iload 5, 2) := by decide +kernel
theorem dL_law_625 : decode cL_law 625 = .ok (.iconst 2, 1) := by decide +kernel
theorem dL_law_626 : decode cL_law 626 = .ok (.iadd, 1) := by decide +kernel
theorem dL_law_627 : decode cL_law 627 = .ok (.iaload, 1) := by decide +kernel
theorem dL_law_628 : decode cL_law 628 = .ok (.aload_n 0, 1) := by decide +kernel
theorem dL_law_629 : decode cL_law 629 = .ok (.iload 5, 2) := by decide +kernel
theorem dL_law_631 : decode cL_law 631 = .ok (.iconst 3, 1) := by decide +kernel
theorem dL_law_632 : decode cL_law 632 = .ok (.iadd, 1) := by decide +kernel
theorem dL_law_633 : decode cL_law 633 = .ok (.iaload, 1) := by decide +kernel
theorem dL_law_634 : decode cL_law 634 = .ok (.aload_n 3, 1) := by decide +kernel
theorem dL_law_635 : decode cL_law 635 = .ok (.invokestatic 149, 3) := by decide +kernel
theorem dL_law_638 : decode cL_law 638 = .ok (.istore 6, 2) := by decide +kernel
theorem dL_law_640 : decode cL_law 640 = .ok (.aload_n 2, 1) := by decide +kernel
theorem dL_law_641 : decode cL_law 641 = .ok (.aload_n 0, 1) := by decide +kernel
theorem dL_law_642 : decode cL_law 642 = .ok (.iload 5, 2) := by decide +kernel
theorem dL_law_644 : decode cL_law 644 = .ok (.iconst 1, 1) := by decide +kernel
theorem dL_law_645 : decode cL_law 645 = .ok (.iadd, 1) := by decide +kernel
theorem dL_law_646 : decode cL_law 646 = .ok (.iaload, 1) := by decide +kernel
theorem dL_law_647 : decode cL_law 647 = .ok (.aload_n 0, 1) := by decide +kernel
theorem dL_law_648 : decode cL_law 648 = .ok (.iload 5, 2) := by decide +kernel
theorem dL_law_650 : decode cL_law 650 = .ok (.iconst 2, 1) := by decide +kernel
theorem dL_law_651 : decode cL_law 651 = .ok (.iadd, 1) := by decide +kernel
theorem dL_law_652 : decode cL_law 652 = .ok (.iaload, 1) := by decide +kernel
theorem dL_law_653 : decode cL_law 653 = .ok (.aload_n 0, 1) := by decide +kernel
theorem dL_law_654 : decode cL_law 654 = .ok (.iload 5, 2) := by decide +kernel
theorem dL_law_656 : decode cL_law 656 = .ok (.iconst 3, 1) := by decide +kernel
theorem dL_law_657 : decode cL_law 657 = .ok (.iadd, 1) := by decide +kernel
theorem dL_law_658 : decode cL_law 658 = .ok (.iaload, 1) := by decide +kernel
theorem dL_law_659 : decode cL_law 659 = .ok (.invokevirtual 152, 3) := by decide +kernel
theorem dL_law_662 : decode cL_law 662 = .ok (.istore 7, 2) := by decide +kernel
theorem dL_law_664 : decode cL_law 664 = .ok (.aload_n 2, 1) := by decide +kernel
theorem dL_law_665 : decode cL_law 665 = .ok (.invokevirtual 127, 3) := by decide +kernel
theorem dL_law_668 : decode cL_law 668 = .ok (.iload 6, 2) := by decide +kernel
theorem dL_law_670 : decode cL_law 670 = .ok (.if_icmp .eq 5, 3) := by decide +kernel
theorem dL_law_673 : decode cL_law 673 = .ok (.iconst 0, 1) := by decide +kernel
theorem dL_law_674 : decode cL_law 674 = .ok (.ireturn, 1) := by decide +kernel
theorem dL_law_675 : decode cL_law 675 = .ok (.iload 6, 2) := by decide +kernel
theorem dL_law_677 : decode cL_law 677 = .ok (.ifCond .ne 15, 3) := by decide +kernel
theorem dL_law_680 : decode cL_law 680 = .ok (.aload_n 3, 1) := by decide +kernel
theorem dL_law_681 : decode cL_law 681 = .ok (.iconst 0, 1) := by decide +kernel
theorem dL_law_682 : decode cL_law 682 = .ok (.laload, 1) := by decide +kernel
theorem dL_law_683 : decode cL_law 683 = .ok (.iload 7, 2) := by decide +kernel
theorem dL_law_685 : decode cL_law 685 = .ok (.i2l, 1) := by decide +kernel
theorem dL_law_686 : decode cL_law 686 = .ok (.lcmp, 1) := by decide +kernel
theorem dL_law_687 : decode cL_law 687 = .ok (.ifCond .eq 5, 3) := by decide +kernel
theorem dL_law_690 : decode cL_law 690 = .ok (.iconst 0, 1) := by decide +kernel
theorem dL_law_691 : decode cL_law 691 = .ok (.ireturn, 1) := by decide +kernel
theorem dL_law_692 : decode cL_law 692 = .ok (.goto 1251, 3) := by decide +kernel
theorem dL_law_695 : decode cL_law 695 = .ok (.aload_n 1, 1) := by decide +kernel
theorem dL_law_696 : decode cL_law 696 = .ok (.aload_n 0, 1) := by decide +kernel
theorem dL_law_697 : decode cL_law 697 = .ok (.iload 5, 2) := by decide +kernel
theorem dL_law_699 : decode cL_law 699 = .ok (.iconst 1, 1) := by decide +kernel
theorem dL_law_700 : decode cL_law 700 = .ok (.iadd, 1) := by decide +kernel
theorem dL_law_701 : decode cL_law 701 = .ok (.iaload, 1) := by decide +kernel
theorem dL_law_702 : decode cL_law 702 = .ok (.aload_n 0, 1) := by decide +kernel
theorem dL_law_703 : decode cL_law 703 = .ok (.iload 5, 2) := by decide +kernel
theorem dL_law_705 : decode cL_law 705 = .ok (.iconst 2, 1) := by decide +kernel
theorem dL_law_706 : decode cL_law 706 = .ok (.iadd, 1) := by decide +kernel
theorem dL_law_707 : decode cL_law 707 = .ok (.iaload, 1) := by decide +kernel
theorem dL_law_708 : decode cL_law 708 = .ok (.aload_n 0, 1) := by decide +kernel
theorem dL_law_709 : decode cL_law 709 = .ok (.iload 5, 2) := by decide +kernel
theorem dL_law_711 : decode cL_law 711 = .ok (.iconst 3, 1) := by decide +kernel
theorem dL_law_712 : decode cL_law 712 = .ok (.iadd, 1) := by decide +kernel
theorem dL_law_713 : decode cL_law 713 = .ok (.iaload, 1) := by decide +kernel
theorem dL_law_714 : decode cL_law 714 = .ok (.aload_n 3, 1) := by decide +kernel
theorem dL_law_715 : decode cL_law 715 = .ok (.invokestatic 153, 3) := by decide +kernel
theorem dL_law_718 : decode cL_law 718 = .ok (.istore 6, 2) := by decide +kernel
theorem dL_law_720 : decode cL_law 720 = .ok (.aload_n 2, 1) := by decide +kernel
theorem dL_law_721 : decode cL_law 721 = .ok (.aload_n 0, 1) := by decide +kernel
theorem dL_law_722 : decode cL_law 722 = .ok (.iload 5, 2) := by decide +kernel
theorem dL_law_724 : decode cL_law 724 = .ok (.iconst 1, 1) := by decide +kernel
theorem dL_law_725 : decode cL_law 725 = .ok (.iadd, 1) := by decide +kernel
theorem dL_law_726 : decode cL_law 726 = .ok (.iaload, 1) := by decide +kernel
theorem dL_law_727 : decode cL_law 727 = .ok (.aload_n 0, 1) := by decide +kernel
theorem dL_law_728 : decode cL_law 728 = .ok (.iload 5, 2) := by decide +kernel
theorem dL_law_730 : decode cL_law 730 = .ok (.iconst 2, 1) := by decide +kernel
theorem dL_law_731 : decode cL_law 731 = .ok (.iadd, 1) := by decide +kernel
theorem dL_law_732 : decode cL_law 732 = .ok (.iaload, 1) := by decide +kernel
theorem dL_law_733 : decode cL_law 733 = .ok (.aload_n 0, 1) := by decide +kernel
theorem dL_law_734 : decode cL_law 734 = .ok (.iload 5, 2) := by decide +kernel
theorem dL_law_736 : decode cL_law 736 = .ok (.iconst 3, 1) := by decide +kernel
theorem dL_law_737 : decode cL_law 737 = .ok (.iadd, 1) := by decide +kernel
theorem dL_law_738 : decode cL_law 738 = .ok (.iaload, 1) := by decide +kernel
theorem dL_law_739 : decode cL_law 739 = .ok (.invokevirtual 155, 3) := by decide +kernel
theorem dL_law_742 : decode cL_law 742 = .ok (.istore 7, 2) := by decide +kernel
theorem dL_law_744 : decode cL_law 744 = .ok (.aload_n 2, 1) := by decide +kernel
theorem dL_law_745 : decode cL_law 745 = .ok (.invokevirtual 127, 3) := by decide +kernel
theorem dL_law_748 : decode cL_law 748 = .ok (.iload 6, 2) := by decide +kernel
theorem dL_law_750 : decode cL_law 750 = .ok (.if_icmp .eq 5, 3) := by decide +kernel
theorem dL_law_753 : decode cL_law 753 = .ok (.iconst 0, 1) := by decide +kernel
theorem dL_law_754 : decode cL_law 754 = .ok (.ireturn, 1) := by decide +kernel
theorem dL_law_755 : decode cL_law 755 = .ok (.iload 6, 2) := by decide +kernel
theorem dL_law_757 : decode cL_law 757 = .ok (.ifCond .ne 15, 3) := by decide +kernel
theorem dL_law_760 : decode cL_law 760 = .ok (.aload_n 3, 1) := by decide +kernel
theorem dL_law_761 : decode cL_law 761 = .ok (.iconst 0, 1) := by decide +kernel
theorem dL_law_762 : decode cL_law 762 = .ok (.laload, 1) := by decide +kernel
theorem dL_law_763 : decode cL_law 763 = .ok (.iload 7, 2) := by decide +kernel
theorem dL_law_765 : decode cL_law 765 = .ok (.i2l, 1) := by decide +kernel
theorem dL_law_766 : decode cL_law 766 = .ok (.lcmp, 1) := by decide +kernel
theorem dL_law_767 : decode cL_law 767 = .ok (.ifCond .eq 5, 3) := by decide +kernel
theorem dL_law_770 : decode cL_law 770 = .ok (.iconst 0, 1) := by decide +kernel
theorem dL_law_771 : decode cL_law 771 = .ok (.ireturn, 1) := by decide +kernel
theorem dL_law_772 : decode cL_law 772 = .ok (.goto 1171, 3) := by decide +kernel
theorem dL_law_775 : decode cL_law 775 = .ok (.aload_n 1, 1) := by decide +kernel
theorem dL_law_776 : decode cL_law 776 = .ok (.aload_n 0, 1) := by decide +kernel
theorem dL_law_777 : decode cL_law 777 = .ok (.iload 5, 2) := by decide +kernel
theorem dL_law_779 : decode cL_law 779 = .ok (.iconst 1, 1) := by decide +kernel
theorem dL_law_780 : decode cL_law 780 = .ok (.iadd, 1) := by decide +kernel
theorem dL_law_781 : decode cL_law 781 = .ok (.iaload, 1) := by decide +kernel
theorem dL_law_782 : decode cL_law 782 = .ok (.aload_n 3, 1) := by decide +kernel
theorem dL_law_783 : decode cL_law 783 = .ok (.invokestatic 156, 3) := by decide +kernel
theorem dL_law_786 : decode cL_law 786 = .ok (.istore 6, 2) := by decide +kernel
theorem dL_law_788 : decode cL_law 788 = .ok (.aload_n 2, 1) := by decide +kernel
theorem dL_law_789 : decode cL_law 789 = .ok (.aload_n 0, 1) := by decide +kernel
theorem dL_law_790 : decode cL_law 790 = .ok (.iload 5, 2) := by decide +kernel
theorem dL_law_792 : decode cL_law 792 = .ok (.iconst 1, 1) := by decide +kernel
theorem dL_law_793 : decode cL_law 793 = .ok (.iadd, 1) := by decide +kernel
theorem dL_law_794 : decode cL_law 794 = .ok (.iaload, 1) := by decide +kernel
theorem dL_law_795 : decode cL_law 795 = .ok (.invokevirtual 158, 3) := by decide +kernel
theorem dL_law_798 : decode cL_law 798 = .ok (.istore 7, 2) := by decide +kernel
theorem dL_law_800 : decode cL_law 800 = .ok (.aload_n 2, 1) := by decide +kernel
theorem dL_law_801 : decode cL_law 801 = .ok (.invokevirtual 127, 3) := by decide +kernel
theorem dL_law_804 : decode cL_law 804 = .ok (.iload 6, 2) := by decide +kernel
theorem dL_law_806 : decode cL_law 806 = .ok (.if_icmp .eq 5, 3) := by decide +kernel
theorem dL_law_809 : decode cL_law 809 = .ok (.iconst 0, 1) := by decide +kernel
theorem dL_law_810 : decode cL_law 810 = .ok (.ireturn, 1) := by decide +kernel
theorem dL_law_811 : decode cL_law 811 = .ok (.iload 6, 2) := by decide +kernel
theorem dL_law_813 : decode cL_law 813 = .ok (.ifCond .ne 15, 3) := by decide +kernel
theorem dL_law_816 : decode cL_law 816 = .ok (.aload_n 3, 1) := by decide +kernel
theorem dL_law_817 : decode cL_law 817 = .ok (.iconst 0, 1) := by decide +kernel
theorem dL_law_818 : decode cL_law 818 = .ok (.laload, 1) := by decide +kernel
theorem dL_law_819 : decode cL_law 819 = .ok (.iload 7, 2) := by decide +kernel
theorem dL_law_821 : decode cL_law 821 = .ok (.i2l, 1) := by decide +kernel
theorem dL_law_822 : decode cL_law 822 = .ok (.lcmp, 1) := by decide +kernel
theorem dL_law_823 : decode cL_law 823 = .ok (.ifCond .eq 5, 3) := by decide +kernel
theorem dL_law_826 : decode cL_law 826 = .ok (.iconst 0, 1) := by decide +kernel
theorem dL_law_827 : decode cL_law 827 = .ok (.ireturn, 1) := by decide +kernel
theorem dL_law_828 : decode cL_law 828 = .ok (.goto 1115, 3) := by decide +kernel
theorem dL_law_831 : decode cL_law 831 = .ok (.aload_n 1, 1) := by decide +kernel
theorem dL_law_832 : decode cL_law 832 = .ok (.aload_n 0, 1) := by decide +kernel
theorem dL_law_833 : decode cL_law 833 = .ok (.iload 5, 2) := by decide +kernel
theorem dL_law_835 : decode cL_law 835 = .ok (.iconst 1, 1) := by decide +kernel
theorem dL_law_836 : decode cL_law 836 = .ok (.iadd, 1) := by decide +kernel
theorem dL_law_837 : decode cL_law 837 = .ok (.iaload, 1) := by decide +kernel
theorem dL_law_838 : decode cL_law 838 = .ok (.aload_n 0, 1) := by decide +kernel
theorem dL_law_839 : decode cL_law 839 = .ok (.iload 5, 2) := by decide +kernel
theorem dL_law_841 : decode cL_law 841 = .ok (.iconst 2, 1) := by decide +kernel
theorem dL_law_842 : decode cL_law 842 = .ok (.iadd, 1) := by decide +kernel
theorem dL_law_843 : decode cL_law 843 = .ok (.iaload, 1) := by decide +kernel
theorem dL_law_844 : decode cL_law 844 = .ok (.ifCond .eq 7, 3) := by decide +kernel
theorem dL_law_847 : decode cL_law 847 = .ok (.iconst 1, 1) := by decide +kernel
theorem dL_law_848 : decode cL_law 848 = .ok (.goto 4, 3) := by decide +kernel
theorem dL_law_851 : decode cL_law 851 = .ok (.iconst 0, 1) := by decide +kernel
theorem dL_law_852 : decode cL_law 852 = .ok (.aload_n 3, 1) := by decide +kernel
theorem dL_law_853 : decode cL_law 853 = .ok (.invokestatic 159, 3) := by decide +kernel
theorem dL_law_856 : decode cL_law 856 = .ok (.istore 6, 2) := by decide +kernel
theorem dL_law_858 : decode cL_law 858 = .ok (.aload_n 2, 1) := by decide +kernel
theorem dL_law_859 : decode cL_law 859 = .ok (.aload_n 0, 1) := by decide +kernel
theorem dL_law_860 : decode cL_law 860 = .ok (.iload 5, 2) := by decide +kernel
theorem dL_law_862 : decode cL_law 862 = .ok (.iconst 1, 1) := by decide +kernel
theorem dL_law_863 : decode cL_law 863 = .ok (.iadd, 1) := by decide +kernel
theorem dL_law_864 : decode cL_law 864 = .ok (.iaload, 1) := by decide +kernel
theorem dL_law_865 : decode cL_law 865 = .ok (.aload_n 0, 1) := by decide +kernel
theorem dL_law_866 : decode cL_law 866 = .ok (.iload 5, 2) := by decide +kernel
theorem dL_law_868 : decode cL_law 868 = .ok (.iconst 2, 1) := by decide +kernel
theorem dL_law_869 : decode cL_law 869 = .ok (.iadd, 1) := by decide +kernel
theorem dL_law_870 : decode cL_law 870 = .ok (.iaload, 1) := by decide +kernel
theorem dL_law_871 : decode cL_law 871 = .ok (.ifCond .eq 7, 3) := by decide +kernel
theorem dL_law_874 : decode cL_law 874 = .ok (.iconst 1, 1) := by decide +kernel
theorem dL_law_875 : decode cL_law 875 = .ok (.goto 4, 3) := by decide +kernel
theorem dL_law_878 : decode cL_law 878 = .ok (.iconst 0, 1) := by decide +kernel
theorem dL_law_879 : decode cL_law 879 = .ok (.invokevirtual 162, 3) := by decide +kernel
theorem dL_law_882 : decode cL_law 882 = .ok (.istore 7, 2) := by decide +kernel
theorem dL_law_884 : decode cL_law 884 = .ok (.aload_n 2, 1) := by decide +kernel
theorem dL_law_885 : decode cL_law 885 = .ok (.invokevirtual 127, 3) := by decide +kernel
theorem dL_law_888 : decode cL_law 888 = .ok (.iload 6, 2) := by decide +kernel
theorem dL_law_890 : decode cL_law 890 = .ok (.if_icmp .eq 5, 3) := by decide +kernel
theorem dL_law_893 : decode cL_law 893 = .ok (.iconst 0, 1) := by decide +kernel
theorem dL_law_894 : decode cL_law 894 = .ok (.ireturn, 1) := by decide +kernel
theorem dL_law_895 : decode cL_law 895 = .ok (.iload 6, 2) := by decide +kernel
theorem dL_law_897 : decode cL_law 897 = .ok (.ifCond .ne 22, 3) := by decide +kernel
theorem dL_law_900 : decode cL_law 900 = .ok (.aload_n 3, 1) := by decide +kernel
theorem dL_law_901 : decode cL_law 901 = .ok (.iconst 0, 1) := by decide +kernel
theorem dL_law_902 : decode cL_law 902 = .ok (.laload, 1) := by decide +kernel
theorem dL_law_903 : decode cL_law 903 = .ok (.iload 7, 2) := by decide +kernel
theorem dL_law_905 : decode cL_law 905 = .ok (.ifCond .eq 7, 3) := by decide +kernel
theorem dL_law_908 : decode cL_law 908 = .ok (.lconst 1, 1) := by decide +kernel
theorem dL_law_909 : decode cL_law 909 = .ok (.goto 4, 3) := by decide +kernel
theorem dL_law_912 : decode cL_law 912 = .ok (.lconst 0, 1) := by decide +kernel
theorem dL_law_913 : decode cL_law 913 = .ok (.lcmp, 1) := by decide +kernel
theorem dL_law_914 : decode cL_law 914 = .ok (.ifCond .eq 5, 3) := by decide +kernel
theorem dL_law_917 : decode cL_law 917 = .ok (.iconst 0, 1) := by decide +kernel
theorem dL_law_918 : decode cL_law 918 = .ok (.ireturn, 1) := by decide +kernel
theorem dL_law_919 : decode cL_law 919 = .ok (.goto 1024, 3) := by decide +kernel
theorem dL_law_922 : decode cL_law 922 = .ok (.aload_n 1, 1) := by decide +kernel
theorem dL_law_923 : decode cL_law 923 = .ok (.invokevirtual 163, 3) := by decide +kernel
theorem dL_law_926 : decode cL_law 926 = .ok (.aload_n 2, 1) := by decide +kernel
theorem dL_law_927 : decode cL_law 927 = .ok (.invokevirtual 166, 3) := by decide +kernel
theorem dL_law_930 : decode cL_law 930 = .ok (.if_icmp .eq 1013, 3) := by decide +kernel
theorem dL_law_933 : decode cL_law 933 = .ok (.iconst 0, 1) := by decide +kernel
theorem dL_law_934 : decode cL_law 934 = .ok (.ireturn, 1) := by decide +kernel
theorem dL_law_935 : decode cL_law 935 = .ok (.aload_n 1, 1) := by decide +kernel
theorem dL_law_936 : decode cL_law 936 = .ok (.aload_n 0, 1) := by decide +kernel
theorem dL_law_937 : decode cL_law 937 = .ok (.iload 5, 2) := by decide +kernel
theorem dL_law_939 : decode cL_law 939 = .ok (.iconst 1, 1) := by decide +kernel
theorem dL_law_940 : decode cL_law 940 = .ok (.iadd, 1) := by decide +kernel
theorem dL_law_941 : decode cL_law 941 = .ok (.iaload, 1) := by decide +kernel
theorem dL_law_942 : decode cL_law 942 = .ok (.aload_n 3, 1) := by decide +kernel
theorem dL_law_943 : decode cL_law 943 = .ok (.invokestatic 167, 3) := by decide +kernel
theorem dL_law_946 : decode cL_law 946 = .ok (.istore 6, 2) := by decide +kernel
theorem dL_law_948 : decode cL_law 948 = .ok (.aload_n 2, 1) := by decide +kernel
theorem dL_law_949 : decode cL_law 949 = .ok (.aload_n 0, 1) := by decide +kernel
theorem dL_law_950 : decode cL_law 950 = .ok (.iload 5, 2) := by decide +kernel
theorem dL_law_952 : decode cL_law 952 = .ok (.iconst 1, 1) := by decide +kernel
theorem dL_law_953 : decode cL_law 953 = .ok (.iadd, 1) := by decide +kernel
theorem dL_law_954 : decode cL_law 954 = .ok (.iaload, 1) := by decide +kernel
theorem dL_law_955 : decode cL_law 955 = .ok (.invokevirtual 169, 3) := by decide +kernel
theorem dL_law_958 : decode cL_law 958 = .ok (.istore 7, 2) := by decide +kernel
theorem dL_law_960 : decode cL_law 960 = .ok (.aload_n 2, 1) := by decide +kernel
theorem dL_law_961 : decode cL_law 961 = .ok (.invokevirtual 127, 3) := by decide +kernel
theorem dL_law_964 : decode cL_law 964 = .ok (.iload 6, 2) := by decide +kernel
theorem dL_law_966 : decode cL_law 966 = .ok (.if_icmp .eq 5, 3) := by decide +kernel
theorem dL_law_969 : decode cL_law 969 = .ok (.iconst 0, 1) := by decide +kernel
theorem dL_law_970 : decode cL_law 970 = .ok (.ireturn, 1) := by decide +kernel
theorem dL_law_971 : decode cL_law 971 = .ok (.iload 6, 2) := by decide +kernel
theorem dL_law_973 : decode cL_law 973 = .ok (.ifCond .ne 15, 3) := by decide +kernel
theorem dL_law_976 : decode cL_law 976 = .ok (.aload_n 3, 1) := by decide +kernel
theorem dL_law_977 : decode cL_law 977 = .ok (.iconst 0, 1) := by decide +kernel
theorem dL_law_978 : decode cL_law 978 = .ok (.laload, 1) := by decide +kernel
theorem dL_law_979 : decode cL_law 979 = .ok (.iload 7, 2) := by decide +kernel
theorem dL_law_981 : decode cL_law 981 = .ok (.i2l, 1) := by decide +kernel
theorem dL_law_982 : decode cL_law 982 = .ok (.lcmp, 1) := by decide +kernel
theorem dL_law_983 : decode cL_law 983 = .ok (.ifCond .eq 5, 3) := by decide +kernel
theorem dL_law_986 : decode cL_law 986 = .ok (.iconst 0, 1) := by decide +kernel
theorem dL_law_987 : decode cL_law 987 = .ok (.ireturn, 1) := by decide +kernel
theorem dL_law_988 : decode cL_law 988 = .ok (.goto 955, 3) := by decide +kernel
theorem dL_law_991 : decode cL_law 991 = .ok (.aload_n 1, 1) := by decide +kernel
theorem dL_law_992 : decode cL_law 992 = .ok (.aload_n 0, 1) := by decide +kernel
theorem dL_law_993 : decode cL_law 993 = .ok (.iload 5, 2) := by decide +kernel
theorem dL_law_995 : decode cL_law 995 = .ok (.iconst 1, 1) := by decide +kernel
theorem dL_law_996 : decode cL_law 996 = .ok (.iadd, 1) := by decide +kernel
theorem dL_law_997 : decode cL_law 997 = .ok (.iaload, 1) := by decide +kernel
theorem dL_law_998 : decode cL_law 998 = .ok (.aload_n 3, 1) := by decide +kernel
theorem dL_law_999 : decode cL_law 999 = .ok (.invokestatic 170, 3) := by decide +kernel
theorem dL_law_1002 : decode cL_law 1002 = .ok (.istore 6, 2) := by decide +kernel
theorem dL_law_1004 : decode cL_law 1004 = .ok (.aload_n 2, 1) := by decide +kernel
theorem dL_law_1005 : decode cL_law 1005 = .ok (.aload_n 0, 1) := by decide +kernel
theorem dL_law_1006 : decode cL_law 1006 = .ok (.iload 5, 2) := by decide +kernel
theorem dL_law_1008 : decode cL_law 1008 = .ok (.iconst 1, 1) := by decide +kernel
theorem dL_law_1009 : decode cL_law 1009 = .ok (.iadd, 1) := by decide +kernel
theorem dL_law_1010 : decode cL_law 1010 = .ok (.iaload, 1) := by decide +kernel
theorem dL_law_1011 : decode cL_law 1011 = .ok (.invokevirtual 172, 3) := by decide +kernel
theorem dL_law_1014 : decode cL_law 1014 = .ok (.istore 7, 2) := by decide +kernel
theorem dL_law_1016 : decode cL_law 1016 = .ok (.aload_n 2, 1) := by decide +kernel
theorem dL_law_1017 : decode cL_law 1017 = .ok (.invokevirtual 127, 3) := by decide +kernel
theorem dL_law_1020 : decode cL_law 1020 = .ok (.iload 6, 2) := by decide +kernel
theorem dL_law_1022 : decode cL_law 1022 = .ok (.if_icmp .eq 5, 3) := by decide +kernel
theorem dL_law_1025 : decode cL_law 1025 = .ok (.iconst 0, 1) := by decide +kernel
theorem dL_law_1026 : decode cL_law 1026 = .ok (.ireturn, 1) := by decide +kernel
theorem dL_law_1027 : decode cL_law 1027 = .ok (.iload 6, 2) := by decide +kernel
theorem dL_law_1029 : decode cL_law 1029 = .ok (.ifCond .ne 15, 3) := by decide +kernel
theorem dL_law_1032 : decode cL_law 1032 = .ok (.aload_n 3, 1) := by decide +kernel
theorem dL_law_1033 : decode cL_law 1033 = .ok (.iconst 0, 1) := by decide +kernel
theorem dL_law_1034 : decode cL_law 1034 = .ok (.laload, 1) := by decide +kernel
theorem dL_law_1035 : decode cL_law 1035 = .ok (.iload 7, 2) := by decide +kernel
theorem dL_law_1037 : decode cL_law 1037 = .ok (.i2l, 1) := by decide +kernel
theorem dL_law_1038 : decode cL_law 1038 = .ok (.lcmp, 1) := by decide +kernel
theorem dL_law_1039 : decode cL_law 1039 = .ok (.ifCond .eq 5, 3) := by decide +kernel
theorem dL_law_1042 : decode cL_law 1042 = .ok (.iconst 0, 1) := by decide +kernel
theorem dL_law_1043 : decode cL_law 1043 = .ok (.ireturn, 1) := by decide +kernel
theorem dL_law_1044 : decode cL_law 1044 = .ok (.goto 899, 3) := by decide +kernel
theorem dL_law_1047 : decode cL_law 1047 = .ok (.aload_n 1, 1) := by decide +kernel
theorem dL_law_1048 : decode cL_law 1048 = .ok (.aload_n 0, 1) := by decide +kernel
theorem dL_law_1049 : decode cL_law 1049 = .ok (.iload 5, 2) := by decide +kernel
theorem dL_law_1051 : decode cL_law 1051 = .ok (.iconst 1, 1) := by decide +kernel
theorem dL_law_1052 : decode cL_law 1052 = .ok (.iadd, 1) := by decide +kernel
theorem dL_law_1053 : decode cL_law 1053 = .ok (.iaload, 1) := by decide +kernel
theorem dL_law_1054 : decode cL_law 1054 = .ok (.aload_n 3, 1) := by decide +kernel
theorem dL_law_1055 : decode cL_law 1055 = .ok (.invokestatic 173, 3) := by decide +kernel
theorem dL_law_1058 : decode cL_law 1058 = .ok (.istore 6, 2) := by decide +kernel
theorem dL_law_1060 : decode cL_law 1060 = .ok (.aload_n 2, 1) := by decide +kernel
theorem dL_law_1061 : decode cL_law 1061 = .ok (.aload_n 0, 1) := by decide +kernel
theorem dL_law_1062 : decode cL_law 1062 = .ok (.iload 5, 2) := by decide +kernel
theorem dL_law_1064 : decode cL_law 1064 = .ok (.iconst 1, 1) := by decide +kernel
theorem dL_law_1065 : decode cL_law 1065 = .ok (.iadd, 1) := by decide +kernel
theorem dL_law_1066 : decode cL_law 1066 = .ok (.iaload, 1) := by decide +kernel
theorem dL_law_1067 : decode cL_law 1067 = .ok (.invokevirtual 175, 3) := by decide +kernel
theorem dL_law_1070 : decode cL_law 1070 = .ok (.istore 7, 2) := by decide +kernel
theorem dL_law_1072 : decode cL_law 1072 = .ok (.aload_n 2, 1) := by decide +kernel
theorem dL_law_1073 : decode cL_law 1073 = .ok (.invokevirtual 127, 3) := by decide +kernel
theorem dL_law_1076 : decode cL_law 1076 = .ok (.iload 6, 2) := by decide +kernel
theorem dL_law_1078 : decode cL_law 1078 = .ok (.if_icmp .eq 5, 3) := by decide +kernel
theorem dL_law_1081 : decode cL_law 1081 = .ok (.iconst 0, 1) := by decide +kernel
theorem dL_law_1082 : decode cL_law 1082 = .ok (.ireturn, 1) := by decide +kernel
theorem dL_law_1083 : decode cL_law 1083 = .ok (.iload 6, 2) := by decide +kernel
theorem dL_law_1085 : decode cL_law 1085 = .ok (.ifCond .ne 15, 3) := by decide +kernel
theorem dL_law_1088 : decode cL_law 1088 = .ok (.aload_n 3, 1) := by decide +kernel
theorem dL_law_1089 : decode cL_law 1089 = .ok (.iconst 0, 1) := by decide +kernel
theorem dL_law_1090 : decode cL_law 1090 = .ok (.laload, 1) := by decide +kernel
theorem dL_law_1091 : decode cL_law 1091 = .ok (.iload 7, 2) := by decide +kernel
theorem dL_law_1093 : decode cL_law 1093 = .ok (.i2l, 1) := by decide +kernel
theorem dL_law_1094 : decode cL_law 1094 = .ok (.lcmp, 1) := by decide +kernel
theorem dL_law_1095 : decode cL_law 1095 = .ok (.ifCond .eq 5, 3) := by decide +kernel
theorem dL_law_1098 : decode cL_law 1098 = .ok (.iconst 0, 1) := by decide +kernel
theorem dL_law_1099 : decode cL_law 1099 = .ok (.ireturn, 1) := by decide +kernel
theorem dL_law_1100 : decode cL_law 1100 = .ok (.goto 843, 3) := by decide +kernel
theorem dL_law_1103 : decode cL_law 1103 = .ok (.aload_n 1, 1) := by decide +kernel
theorem dL_law_1104 : decode cL_law 1104 = .ok (.aload_n 0, 1) := by decide +kernel
theorem dL_law_1105 : decode cL_law 1105 = .ok (.iload 5, 2) := by decide +kernel
theorem dL_law_1107 : decode cL_law 1107 = .ok (.iconst 1, 1) := by decide +kernel
theorem dL_law_1108 : decode cL_law 1108 = .ok (.iadd, 1) := by decide +kernel
theorem dL_law_1109 : decode cL_law 1109 = .ok (.iaload, 1) := by decide +kernel
theorem dL_law_1110 : decode cL_law 1110 = .ok (.aload_n 0, 1) := by decide +kernel
theorem dL_law_1111 : decode cL_law 1111 = .ok (.iload 5, 2) := by decide +kernel
theorem dL_law_1113 : decode cL_law 1113 = .ok (.iconst 2, 1) := by decide +kernel
theorem dL_law_1114 : decode cL_law 1114 = .ok (.iadd, 1) := by decide +kernel
theorem dL_law_1115 : decode cL_law 1115 = .ok (.iaload, 1) := by decide +kernel
theorem dL_law_1116 : decode cL_law 1116 = .ok (.aload_n 3, 1) := by decide +kernel
theorem dL_law_1117 : decode cL_law 1117 = .ok (.invokestatic 176, 3) := by decide +kernel
theorem dL_law_1120 : decode cL_law 1120 = .ok (.istore 6, 2) := by decide +kernel
theorem dL_law_1122 : decode cL_law 1122 = .ok (.aload_n 2, 1) := by decide +kernel
theorem dL_law_1123 : decode cL_law 1123 = .ok (.aload_n 0, 1) := by decide +kernel
theorem dL_law_1124 : decode cL_law 1124 = .ok (.iload 5, 2) := by decide +kernel
theorem dL_law_1126 : decode cL_law 1126 = .ok (.iconst 1, 1) := by decide +kernel
theorem dL_law_1127 : decode cL_law 1127 = .ok (.iadd, 1) := by decide +kernel
theorem dL_law_1128 : decode cL_law 1128 = .ok (.iaload, 1) := by decide +kernel
theorem dL_law_1129 : decode cL_law 1129 = .ok (.aload_n 0, 1) := by decide +kernel
theorem dL_law_1130 : decode cL_law 1130 = .ok (.iload 5, 2) := by decide +kernel
theorem dL_law_1132 : decode cL_law 1132 = .ok (.iconst 2, 1) := by decide +kernel
theorem dL_law_1133 : decode cL_law 1133 = .ok (.iadd, 1) := by decide +kernel
theorem dL_law_1134 : decode cL_law 1134 = .ok (.iaload, 1) := by decide +kernel
theorem dL_law_1135 : decode cL_law 1135 = .ok (.invokevirtual 178, 3) := by decide +kernel
theorem dL_law_1138 : decode cL_law 1138 = .ok (.istore 7, 2) := by decide +kernel
theorem dL_law_1140 : decode cL_law 1140 = .ok (.aload_n 2, 1) := by decide +kernel
theorem dL_law_1141 : decode cL_law 1141 = .ok (.invokevirtual 127, 3) := by decide +kernel
theorem dL_law_1144 : decode cL_law 1144 = .ok (.iload 6, 2) := by decide +kernel
theorem dL_law_1146 : decode cL_law 1146 = .ok (.if_icmp .eq 5, 3) := by decide +kernel
theorem dL_law_1149 : decode cL_law 1149 = .ok (.iconst 0, 1) := by decide +kernel
theorem dL_law_1150 : decode cL_law 1150 = .ok (.ireturn, 1) := by decide +kernel
theorem dL_law_1151 : decode cL_law 1151 = .ok (.iload 6, 2) := by decide +kernel
theorem dL_law_1153 : decode cL_law 1153 = .ok (.ifCond .ne 15, 3) := by decide +kernel
theorem dL_law_1156 : decode cL_law 1156 = .ok (.aload_n 3, 1) := by decide +kernel
theorem dL_law_1157 : decode cL_law 1157 = .ok (.iconst 0, 1) := by decide +kernel
theorem dL_law_1158 : decode cL_law 1158 = .ok (.laload, 1) := by decide +kernel
theorem dL_law_1159 : decode cL_law 1159 = .ok (.iload 7, 2) := by decide +kernel
theorem dL_law_1161 : decode cL_law 1161 = .ok (.i2l, 1) := by decide +kernel
theorem dL_law_1162 : decode cL_law 1162 = .ok (.lcmp, 1) := by decide +kernel
theorem dL_law_1163 : decode cL_law 1163 = .ok (.ifCond .eq 5, 3) := by decide +kernel
theorem dL_law_1166 : decode cL_law 1166 = .ok (.iconst 0, 1) := by decide +kernel
theorem dL_law_1167 : decode cL_law 1167 = .ok (.ireturn, 1) := by decide +kernel
theorem dL_law_1168 : decode cL_law 1168 = .ok (.goto 775, 3) := by decide +kernel
theorem dL_law_1171 : decode cL_law 1171 = .ok (.aload_n 1, 1) := by decide +kernel
theorem dL_law_1172 : decode cL_law 1172 = .ok (.aload_n 0, 1) := by decide +kernel
theorem dL_law_1173 : decode cL_law 1173 = .ok (.iload 5, 2) := by decide +kernel
theorem dL_law_1175 : decode cL_law 1175 = .ok (.iconst 1, 1) := by decide +kernel
theorem dL_law_1176 : decode cL_law 1176 = .ok (.iadd, 1) := by decide +kernel
theorem dL_law_1177 : decode cL_law 1177 = .ok (.iaload, 1) := by decide +kernel
theorem dL_law_1178 : decode cL_law 1178 = .ok (.aload_n 3, 1) := by decide +kernel
theorem dL_law_1179 : decode cL_law 1179 = .ok (.invokestatic 179, 3) := by decide +kernel
theorem dL_law_1182 : decode cL_law 1182 = .ok (.istore 6, 2) := by decide +kernel
theorem dL_law_1184 : decode cL_law 1184 = .ok (.aload_n 2, 1) := by decide +kernel
theorem dL_law_1185 : decode cL_law 1185 = .ok (.aload_n 0, 1) := by decide +kernel
theorem dL_law_1186 : decode cL_law 1186 = .ok (.iload 5, 2) := by decide +kernel
theorem dL_law_1188 : decode cL_law 1188 = .ok (.iconst 1, 1) := by decide +kernel
theorem dL_law_1189 : decode cL_law 1189 = .ok (.iadd, 1) := by decide +kernel
theorem dL_law_1190 : decode cL_law 1190 = .ok (.iaload, 1) := by decide +kernel
theorem dL_law_1191 : decode cL_law 1191 = .ok (.invokevirtual 181, 3) := by decide +kernel
theorem dL_law_1194 : decode cL_law 1194 = .ok (.istore 7, 2) := by decide +kernel
theorem dL_law_1196 : decode cL_law 1196 = .ok (.aload_n 2, 1) := by decide +kernel
theorem dL_law_1197 : decode cL_law 1197 = .ok (.invokevirtual 127, 3) := by decide +kernel
theorem dL_law_1200 : decode cL_law 1200 = .ok (.iload 6, 2) := by decide +kernel
theorem dL_law_1202 : decode cL_law 1202 = .ok (.if_icmp .eq 5, 3) := by decide +kernel
theorem dL_law_1205 : decode cL_law 1205 = .ok (.iconst 0, 1) := by decide +kernel
theorem dL_law_1206 : decode cL_law 1206 = .ok (.ireturn, 1) := by decide +kernel
theorem dL_law_1207 : decode cL_law 1207 = .ok (.iload 6, 2) := by decide +kernel
theorem dL_law_1209 : decode cL_law 1209 = .ok (.ifCond .ne 15, 3) := by decide +kernel
theorem dL_law_1212 : decode cL_law 1212 = .ok (.aload_n 3, 1) := by decide +kernel
theorem dL_law_1213 : decode cL_law 1213 = .ok (.iconst 0, 1) := by decide +kernel
theorem dL_law_1214 : decode cL_law 1214 = .ok (.laload, 1) := by decide +kernel
theorem dL_law_1215 : decode cL_law 1215 = .ok (.iload 7, 2) := by decide +kernel
theorem dL_law_1217 : decode cL_law 1217 = .ok (.i2l, 1) := by decide +kernel
theorem dL_law_1218 : decode cL_law 1218 = .ok (.lcmp, 1) := by decide +kernel
theorem dL_law_1219 : decode cL_law 1219 = .ok (.ifCond .eq 5, 3) := by decide +kernel
theorem dL_law_1222 : decode cL_law 1222 = .ok (.iconst 0, 1) := by decide +kernel
theorem dL_law_1223 : decode cL_law 1223 = .ok (.ireturn, 1) := by decide +kernel
theorem dL_law_1224 : decode cL_law 1224 = .ok (.goto 719, 3) := by decide +kernel
theorem dL_law_1227 : decode cL_law 1227 = .ok (.aload_n 1, 1) := by decide +kernel
theorem dL_law_1228 : decode cL_law 1228 = .ok (.aload_n 0, 1) := by decide +kernel
theorem dL_law_1229 : decode cL_law 1229 = .ok (.iload 5, 2) := by decide +kernel
theorem dL_law_1231 : decode cL_law 1231 = .ok (.iconst 1, 1) := by decide +kernel
theorem dL_law_1232 : decode cL_law 1232 = .ok (.iadd, 1) := by decide +kernel
theorem dL_law_1233 : decode cL_law 1233 = .ok (.iaload, 1) := by decide +kernel
theorem dL_law_1234 : decode cL_law 1234 = .ok (.aload_n 3, 1) := by decide +kernel
theorem dL_law_1235 : decode cL_law 1235 = .ok (.invokestatic 182, 3) := by decide +kernel
theorem dL_law_1238 : decode cL_law 1238 = .ok (.istore 6, 2) := by decide +kernel
theorem dL_law_1240 : decode cL_law 1240 = .ok (.aload_n 2, 1) := by decide +kernel
theorem dL_law_1241 : decode cL_law 1241 = .ok (.aload_n 0, 1) := by decide +kernel
theorem dL_law_1242 : decode cL_law 1242 = .ok (.iload 5, 2) := by decide +kernel
theorem dL_law_1244 : decode cL_law 1244 = .ok (.iconst 1, 1) := by decide +kernel
theorem dL_law_1245 : decode cL_law 1245 = .ok (.iadd, 1) := by decide +kernel
theorem dL_law_1246 : decode cL_law 1246 = .ok (.iaload, 1) := by decide +kernel
theorem dL_law_1247 : decode cL_law 1247 = .ok (.invokevirtual 184, 3) := by decide +kernel
theorem dL_law_1250 : decode cL_law 1250 = .ok (.istore 7, 2) := by decide +kernel
theorem dL_law_1252 : decode cL_law 1252 = .ok (.aload_n 2, 1) := by decide +kernel
theorem dL_law_1253 : decode cL_law 1253 = .ok (.invokevirtual 127, 3) := by decide +kernel
theorem dL_law_1256 : decode cL_law 1256 = .ok (.iload 6, 2) := by decide +kernel
theorem dL_law_1258 : decode cL_law 1258 = .ok (.if_icmp .eq 5, 3) := by decide +kernel
theorem dL_law_1261 : decode cL_law 1261 = .ok (.iconst 0, 1) := by decide +kernel
theorem dL_law_1262 : decode cL_law 1262 = .ok (.ireturn, 1) := by decide +kernel
theorem dL_law_1263 : decode cL_law 1263 = .ok (.iload 6, 2) := by decide +kernel
theorem dL_law_1265 : decode cL_law 1265 = .ok (.ifCond .ne 15, 3) := by decide +kernel
theorem dL_law_1268 : decode cL_law 1268 = .ok (.aload_n 3, 1) := by decide +kernel
theorem dL_law_1269 : decode cL_law 1269 = .ok (.iconst 0, 1) := by decide +kernel
theorem dL_law_1270 : decode cL_law 1270 = .ok (.laload, 1) := by decide +kernel
theorem dL_law_1271 : decode cL_law 1271 = .ok (.iload 7, 2) := by decide +kernel
theorem dL_law_1273 : decode cL_law 1273 = .ok (.i2l, 1) := by decide +kernel
theorem dL_law_1274 : decode cL_law 1274 = .ok (.lcmp, 1) := by decide +kernel
theorem dL_law_1275 : decode cL_law 1275 = .ok (.ifCond .eq 5, 3) := by decide +kernel
theorem dL_law_1278 : decode cL_law 1278 = .ok (.iconst 0, 1) := by decide +kernel
theorem dL_law_1279 : decode cL_law 1279 = .ok (.ireturn, 1) := by decide +kernel
theorem dL_law_1280 : decode cL_law 1280 = .ok (.goto 663, 3) := by decide +kernel
theorem dL_law_1283 : decode cL_law 1283 = .ok (.aload_n 1, 1) := by decide +kernel
theorem dL_law_1284 : decode cL_law 1284 = .ok (.aload_n 0, 1) := by decide +kernel
theorem dL_law_1285 : decode cL_law 1285 = .ok (.iload 5, 2) := by decide +kernel
theorem dL_law_1287 : decode cL_law 1287 = .ok (.iconst 1, 1) := by decide +kernel
theorem dL_law_1288 : decode cL_law 1288 = .ok (.iadd, 1) := by decide +kernel
theorem dL_law_1289 : decode cL_law 1289 = .ok (.iaload, 1) := by decide +kernel
theorem dL_law_1290 : decode cL_law 1290 = .ok (.aload_n 3, 1) := by decide +kernel
theorem dL_law_1291 : decode cL_law 1291 = .ok (.invokestatic 185, 3) := by decide +kernel
theorem dL_law_1294 : decode cL_law 1294 = .ok (.istore 6, 2) := by decide +kernel
theorem dL_law_1296 : decode cL_law 1296 = .ok (.aload_n 2, 1) := by decide +kernel
theorem dL_law_1297 : decode cL_law 1297 = .ok (.aload_n 0, 1) := by decide +kernel
theorem dL_law_1298 : decode cL_law 1298 = .ok (.iload 5, 2) := by decide +kernel
theorem dL_law_1300 : decode cL_law 1300 = .ok (.iconst 1, 1) := by decide +kernel
theorem dL_law_1301 : decode cL_law 1301 = .ok (.iadd, 1) := by decide +kernel
theorem dL_law_1302 : decode cL_law 1302 = .ok (.iaload, 1) := by decide +kernel
theorem dL_law_1303 : decode cL_law 1303 = .ok (.invokevirtual 187, 3) := by decide +kernel
theorem dL_law_1306 : decode cL_law 1306 = .ok (.istore 7, 2) := by decide +kernel
theorem dL_law_1308 : decode cL_law 1308 = .ok (.aload_n 2, 1) := by decide +kernel
theorem dL_law_1309 : decode cL_law 1309 = .ok (.invokevirtual 127, 3) := by decide +kernel
theorem dL_law_1312 : decode cL_law 1312 = .ok (.iload 6, 2) := by decide +kernel
theorem dL_law_1314 : decode cL_law 1314 = .ok (.if_icmp .eq 5, 3) := by decide +kernel
theorem dL_law_1317 : decode cL_law 1317 = .ok (.iconst 0, 1) := by decide +kernel
theorem dL_law_1318 : decode cL_law 1318 = .ok (.ireturn, 1) := by decide +kernel
theorem dL_law_1319 : decode cL_law 1319 = .ok (.iload 6, 2) := by decide +kernel
theorem dL_law_1321 : decode cL_law 1321 = .ok (.ifCond .ne 15, 3) := by decide +kernel
theorem dL_law_1324 : decode cL_law 1324 = .ok (.aload_n 3, 1) := by decide +kernel
theorem dL_law_1325 : decode cL_law 1325 = .ok (.iconst 0, 1) := by decide +kernel
theorem dL_law_1326 : decode cL_law 1326 = .ok (.laload, 1) := by decide +kernel
theorem dL_law_1327 : decode cL_law 1327 = .ok (.iload 7, 2) := by decide +kernel
theorem dL_law_1329 : decode cL_law 1329 = .ok (.i2l, 1) := by decide +kernel
theorem dL_law_1330 : decode cL_law 1330 = .ok (.lcmp, 1) := by decide +kernel
theorem dL_law_1331 : decode cL_law 1331 = .ok (.ifCond .eq 5, 3) := by decide +kernel
theorem dL_law_1334 : decode cL_law 1334 = .ok (.iconst 0, 1) := by decide +kernel
theorem dL_law_1335 : decode cL_law 1335 = .ok (.ireturn, 1) := by decide +kernel
theorem dL_law_1336 : decode cL_law 1336 = .ok (.goto 607, 3) := by decide +kernel
theorem dL_law_1339 : decode cL_law 1339 = .ok (.aload_n 1, 1) := by decide +kernel
theorem dL_law_1340 : decode cL_law 1340 = .ok (.aload_n 0, 1) := by decide +kernel
theorem dL_law_1341 : decode cL_law 1341 = .ok (.iload 5, 2) := by decide +kernel
theorem dL_law_1343 : decode cL_law 1343 = .ok (.iconst 1, 1) := by decide +kernel
theorem dL_law_1344 : decode cL_law 1344 = .ok (.iadd, 1) := by decide +kernel
theorem dL_law_1345 : decode cL_law 1345 = .ok (.iaload, 1) := by decide +kernel
theorem dL_law_1346 : decode cL_law 1346 = .ok (.aload_n 0, 1) := by decide +kernel
theorem dL_law_1347 : decode cL_law 1347 = .ok (.iload 5, 2) := by decide +kernel
theorem dL_law_1349 : decode cL_law 1349 = .ok (.iconst 2, 1) := by decide +kernel
theorem dL_law_1350 : decode cL_law 1350 = .ok (.iadd, 1) := by decide +kernel
theorem dL_law_1351 : decode cL_law 1351 = .ok (.iaload, 1) := by decide +kernel
theorem dL_law_1352 : decode cL_law 1352 = .ok (.aload_n 3, 1) := by decide +kernel
theorem dL_law_1353 : decode cL_law 1353 = .ok (.invokestatic 188, 3) := by decide +kernel
theorem dL_law_1356 : decode cL_law 1356 = .ok (.istore 6, 2) := by decide +kernel
theorem dL_law_1358 : decode cL_law 1358 = .ok (.aload_n 2, 1) := by decide +kernel
theorem dL_law_1359 : decode cL_law 1359 = .ok (.aload_n 0, 1) := by decide +kernel
theorem dL_law_1360 : decode cL_law 1360 = .ok (.iload 5, 2) := by decide +kernel
theorem dL_law_1362 : decode cL_law 1362 = .ok (.iconst 1, 1) := by decide +kernel
theorem dL_law_1363 : decode cL_law 1363 = .ok (.iadd, 1) := by decide +kernel
theorem dL_law_1364 : decode cL_law 1364 = .ok (.iaload, 1) := by decide +kernel
theorem dL_law_1365 : decode cL_law 1365 = .ok (.aload_n 0, 1) := by decide +kernel
theorem dL_law_1366 : decode cL_law 1366 = .ok (.iload 5, 2) := by decide +kernel
theorem dL_law_1368 : decode cL_law 1368 = .ok (.iconst 2, 1) := by decide +kernel
theorem dL_law_1369 : decode cL_law 1369 = .ok (.iadd, 1) := by decide +kernel
theorem dL_law_1370 : decode cL_law 1370 = .ok (.iaload, 1) := by decide +kernel
theorem dL_law_1371 : decode cL_law 1371 = .ok (.invokevirtual 190, 3) := by decide +kernel
theorem dL_law_1374 : decode cL_law 1374 = .ok (.istore 7, 2) := by decide +kernel
theorem dL_law_1376 : decode cL_law 1376 = .ok (.aload_n 2, 1) := by decide +kernel
theorem dL_law_1377 : decode cL_law 1377 = .ok (.invokevirtual 127, 3) := by decide +kernel
theorem dL_law_1380 : decode cL_law 1380 = .ok (.iload 6, 2) := by decide +kernel
theorem dL_law_1382 : decode cL_law 1382 = .ok (.if_icmp .eq 5, 3) := by decide +kernel
theorem dL_law_1385 : decode cL_law 1385 = .ok (.iconst 0, 1) := by decide +kernel
theorem dL_law_1386 : decode cL_law 1386 = .ok (.ireturn, 1) := by decide +kernel
theorem dL_law_1387 : decode cL_law 1387 = .ok (.iload 6, 2) := by decide +kernel
theorem dL_law_1389 : decode cL_law 1389 = .ok (.ifCond .ne 15, 3) := by decide +kernel
theorem dL_law_1392 : decode cL_law 1392 = .ok (.aload_n 3, 1) := by decide +kernel
theorem dL_law_1393 : decode cL_law 1393 = .ok (.iconst 0, 1) := by decide +kernel
theorem dL_law_1394 : decode cL_law 1394 = .ok (.laload, 1) := by decide +kernel
theorem dL_law_1395 : decode cL_law 1395 = .ok (.iload 7, 2) := by decide +kernel
theorem dL_law_1397 : decode cL_law 1397 = .ok (.i2l, 1) := by decide +kernel
theorem dL_law_1398 : decode cL_law 1398 = .ok (.lcmp, 1) := by decide +kernel
theorem dL_law_1399 : decode cL_law 1399 = .ok (.ifCond .eq 5, 3) := by decide +kernel
theorem dL_law_1402 : decode cL_law 1402 = .ok (.iconst 0, 1) := by decide +kernel
theorem dL_law_1403 : decode cL_law 1403 = .ok (.ireturn, 1) := by decide +kernel
theorem dL_law_1404 : decode cL_law 1404 = .ok (.goto 539, 3) := by decide +kernel
theorem dL_law_1407 : decode cL_law 1407 = .ok (.aload_n 1, 1) := by decide +kernel
theorem dL_law_1408 : decode cL_law 1408 = .ok (.aload_n 0, 1) := by decide +kernel
theorem dL_law_1409 : decode cL_law 1409 = .ok (.iload 5, 2) := by decide +kernel
theorem dL_law_1411 : decode cL_law 1411 = .ok (.iconst 1, 1) := by decide +kernel
theorem dL_law_1412 : decode cL_law 1412 = .ok (.iadd, 1) := by decide +kernel
theorem dL_law_1413 : decode cL_law 1413 = .ok (.iaload, 1) := by decide +kernel
theorem dL_law_1414 : decode cL_law 1414 = .ok (.aload_n 0, 1) := by decide +kernel
theorem dL_law_1415 : decode cL_law 1415 = .ok (.iload 5, 2) := by decide +kernel
theorem dL_law_1417 : decode cL_law 1417 = .ok (.iconst 2, 1) := by decide +kernel
theorem dL_law_1418 : decode cL_law 1418 = .ok (.iadd, 1) := by decide +kernel
theorem dL_law_1419 : decode cL_law 1419 = .ok (.iaload, 1) := by decide +kernel
theorem dL_law_1420 : decode cL_law 1420 = .ok (.i2c, 1) := by decide +kernel
theorem dL_law_1421 : decode cL_law 1421 = .ok (.aload_n 3, 1) := by decide +kernel
theorem dL_law_1422 : decode cL_law 1422 = .ok (.invokestatic 191, 3) := by decide +kernel
theorem dL_law_1425 : decode cL_law 1425 = .ok (.istore 6, 2) := by decide +kernel
theorem dL_law_1427 : decode cL_law 1427 = .ok (.aload_n 2, 1) := by decide +kernel
theorem dL_law_1428 : decode cL_law 1428 = .ok (.aload_n 0, 1) := by decide +kernel
theorem dL_law_1429 : decode cL_law 1429 = .ok (.iload 5, 2) := by decide +kernel
theorem dL_law_1431 : decode cL_law 1431 = .ok (.iconst 1, 1) := by decide +kernel
theorem dL_law_1432 : decode cL_law 1432 = .ok (.iadd, 1) := by decide +kernel
theorem dL_law_1433 : decode cL_law 1433 = .ok (.iaload, 1) := by decide +kernel
theorem dL_law_1434 : decode cL_law 1434 = .ok (.aload_n 0, 1) := by decide +kernel
theorem dL_law_1435 : decode cL_law 1435 = .ok (.iload 5, 2) := by decide +kernel
theorem dL_law_1437 : decode cL_law 1437 = .ok (.iconst 2, 1) := by decide +kernel
theorem dL_law_1438 : decode cL_law 1438 = .ok (.iadd, 1) := by decide +kernel
theorem dL_law_1439 : decode cL_law 1439 = .ok (.iaload, 1) := by decide +kernel
theorem dL_law_1440 : decode cL_law 1440 = .ok (.i2c, 1) := by decide +kernel
theorem dL_law_1441 : decode cL_law 1441 = .ok (.invokevirtual 194, 3) := by decide +kernel
theorem dL_law_1444 : decode cL_law 1444 = .ok (.istore 7, 2) := by decide +kernel
theorem dL_law_1446 : decode cL_law 1446 = .ok (.aload_n 2, 1) := by decide +kernel
theorem dL_law_1447 : decode cL_law 1447 = .ok (.invokevirtual 127, 3) := by decide +kernel
theorem dL_law_1450 : decode cL_law 1450 = .ok (.iload 6, 2) := by decide +kernel
theorem dL_law_1452 : decode cL_law 1452 = .ok (.if_icmp .eq 5, 3) := by decide +kernel
theorem dL_law_1455 : decode cL_law 1455 = .ok (.iconst 0, 1) := by decide +kernel
theorem dL_law_1456 : decode cL_law 1456 = .ok (.ireturn, 1) := by decide +kernel
theorem dL_law_1457 : decode cL_law 1457 = .ok (.iload 6, 2) := by decide +kernel
theorem dL_law_1459 : decode cL_law 1459 = .ok (.ifCond .ne 15, 3) := by decide +kernel
theorem dL_law_1462 : decode cL_law 1462 = .ok (.aload_n 3, 1) := by decide +kernel
theorem dL_law_1463 : decode cL_law 1463 = .ok (.iconst 0, 1) := by decide +kernel
theorem dL_law_1464 : decode cL_law 1464 = .ok (.laload, 1) := by decide +kernel
theorem dL_law_1465 : decode cL_law 1465 = .ok (.iload 7, 2) := by decide +kernel
theorem dL_law_1467 : decode cL_law 1467 = .ok (.i2l, 1) := by decide +kernel
theorem dL_law_1468 : decode cL_law 1468 = .ok (.lcmp, 1) := by decide +kernel
theorem dL_law_1469 : decode cL_law 1469 = .ok (.ifCond .eq 5, 3) := by decide +kernel
theorem dL_law_1472 : decode cL_law 1472 = .ok (.iconst 0, 1) := by decide +kernel
theorem dL_law_1473 : decode cL_law 1473 = .ok (.ireturn, 1) := by decide +kernel
theorem dL_law_1474 : decode cL_law 1474 = .ok (.goto 469, 3) := by decide +kernel
theorem dL_law_1477 : decode cL_law 1477 = .ok (.aload_n 1, 1) := by decide +kernel
theorem dL_law_1478 : decode cL_law 1478 = .ok (.aload_n 0, 1) := by decide +kernel
theorem dL_law_1479 : decode cL_law 1479 = .ok (.iload 5, 2) := by decide +kernel
theorem dL_law_1481 : decode cL_law 1481 = .ok (.iconst 1, 1) := by decide +kernel
theorem dL_law_1482 : decode cL_law 1482 = .ok (.iadd, 1) := by decide +kernel
theorem dL_law_1483 : decode cL_law 1483 = .ok (.iaload, 1) := by decide +kernel
theorem dL_law_1484 : decode cL_law 1484 = .ok (.aload_n 3, 1) := by decide +kernel
theorem dL_law_1485 : decode cL_law 1485 = .ok (.invokestatic 195, 3) := by decide +kernel
theorem dL_law_1488 : decode cL_law 1488 = .ok (.istore 6, 2) := by decide +kernel
theorem dL_law_1490 : decode cL_law 1490 = .ok (.aload_n 2, 1) := by decide +kernel
theorem dL_law_1491 : decode cL_law 1491 = .ok (.aload_n 0, 1) := by decide +kernel
theorem dL_law_1492 : decode cL_law 1492 = .ok (.iload 5, 2) := by decide +kernel
theorem dL_law_1494 : decode cL_law 1494 = .ok (.iconst 1, 1) := by decide +kernel
theorem dL_law_1495 : decode cL_law 1495 = .ok (.iadd, 1) := by decide +kernel
theorem dL_law_1496 : decode cL_law 1496 = .ok (.iaload, 1) := by decide +kernel
theorem dL_law_1497 : decode cL_law 1497 = .ok (.invokevirtual 197, 3) := by decide +kernel
theorem dL_law_1500 : decode cL_law 1500 = .ok (.lstore 7, 2) := by decide +kernel
theorem dL_law_1502 : decode cL_law 1502 = .ok (.aload_n 2, 1) := by decide +kernel
theorem dL_law_1503 : decode cL_law 1503 = .ok (.invokevirtual 127, 3) := by decide +kernel
theorem dL_law_1506 : decode cL_law 1506 = .ok (.iload 6, 2) := by decide +kernel
theorem dL_law_1508 : decode cL_law 1508 = .ok (.if_icmp .eq 5, 3) := by decide +kernel
theorem dL_law_1511 : decode cL_law 1511 = .ok (.iconst 0, 1) := by decide +kernel
theorem dL_law_1512 : decode cL_law 1512 = .ok (.ireturn, 1) := by decide +kernel
theorem dL_law_1513 : decode cL_law 1513 = .ok (.iload 6, 2) := by decide +kernel
theorem dL_law_1515 : decode cL_law 1515 = .ok (.ifCond .ne 14, 3) := by decide +kernel
theorem dL_law_1518 : decode cL_law 1518 = .ok (.aload_n 3, 1) := by decide +kernel
theorem dL_law_1519 : decode cL_law 1519 = .ok (.iconst 0, 1) := by decide +kernel
theorem dL_law_1520 : decode cL_law 1520 = .ok (.laload, 1) := by decide +kernel
theorem dL_law_1521 : decode cL_law 1521 = .ok (.lload 7, 2) := by decide +kernel
theorem dL_law_1523 : decode cL_law 1523 = .ok (.lcmp, 1) := by decide +kernel
theorem dL_law_1524 : decode cL_law 1524 = .ok (.ifCond .eq 5, 3) := by decide +kernel
theorem dL_law_1527 : decode cL_law 1527 = .ok (.iconst 0, 1) := by decide +kernel
theorem dL_law_1528 : decode cL_law 1528 = .ok (.ireturn, 1) := by decide +kernel
theorem dL_law_1529 : decode cL_law 1529 = .ok (.goto 414, 3) := by decide +kernel
theorem dL_law_1532 : decode cL_law 1532 = .ok (.aload_n 1, 1) := by decide +kernel
theorem dL_law_1533 : decode cL_law 1533 = .ok (.aload_n 3, 1) := by decide +kernel
theorem dL_law_1534 : decode cL_law 1534 = .ok (.invokestatic 198, 3) := by decide +kernel
theorem dL_law_1537 : decode cL_law 1537 = .ok (.istore 6, 2) := by decide +kernel
theorem dL_law_1539 : decode cL_law 1539 = .ok (.aload_n 2, 1) := by decide +kernel
theorem dL_law_1540 : decode cL_law 1540 = .ok (.invokevirtual 201, 3) := by decide +kernel
theorem dL_law_1543 : decode cL_law 1543 = .ok (.istore 7, 2) := by decide +kernel
theorem dL_law_1545 : decode cL_law 1545 = .ok (.aload_n 2, 1) := by decide +kernel
theorem dL_law_1546 : decode cL_law 1546 = .ok (.invokevirtual 127, 3) := by decide +kernel
theorem dL_law_1549 : decode cL_law 1549 = .ok (.iload 6, 2) := by decide +kernel
theorem dL_law_1551 : decode cL_law 1551 = .ok (.if_icmp .eq 5, 3) := by decide +kernel
theorem dL_law_1554 : decode cL_law 1554 = .ok (.iconst 0, 1) := by decide +kernel
theorem dL_law_1555 : decode cL_law 1555 = .ok (.ireturn, 1) := by decide +kernel
theorem dL_law_1556 : decode cL_law 1556 = .ok (.iload 6, 2) := by decide +kernel
theorem dL_law_1558 : decode cL_law 1558 = .ok (.ifCond .ne 15, 3) := by decide +kernel
theorem dL_law_1561 : decode cL_law 1561 = .ok (.aload_n 3, 1) := by decide +kernel
theorem dL_law_1562 : decode cL_law 1562 = .ok (.iconst 0, 1) := by decide +kernel
theorem dL_law_1563 : decode cL_law 1563 = .ok (.laload, 1) := by decide +kernel
theorem dL_law_1564 : decode cL_law 1564 = .ok (.iload 7, 2) := by decide +kernel
theorem dL_law_1566 : decode cL_law 1566 = .ok (.i2l, 1) := by decide +kernel
theorem dL_law_1567 : decode cL_law 1567 = .ok (.lcmp, 1) := by decide +kernel
theorem dL_law_1568 : decode cL_law 1568 = .ok (.ifCond .eq 5, 3) := by decide +kernel
theorem dL_law_1571 : decode cL_law 1571 = .ok (.iconst 0, 1) := by decide +kernel
theorem dL_law_1572 : decode cL_law 1572 = .ok (.ireturn, 1) := by decide +kernel
theorem dL_law_1573 : decode cL_law 1573 = .ok (.goto 370, 3) := by decide +kernel
theorem dL_law_1576 : decode cL_law 1576 = .ok (.aload_n 1, 1) := by decide +kernel
theorem dL_law_1577 : decode cL_law 1577 = .ok (.aload_n 0, 1) := by decide +kernel
theorem dL_law_1578 : decode cL_law 1578 = .ok (.iload 5, 2) := by decide +kernel
theorem dL_law_1580 : decode cL_law 1580 = .ok (.iconst 1, 1) := by decide +kernel
theorem dL_law_1581 : decode cL_law 1581 = .ok (.iadd, 1) := by decide +kernel
theorem dL_law_1582 : decode cL_law 1582 = .ok (.iaload, 1) := by decide +kernel
theorem dL_law_1583 : decode cL_law 1583 = .ok (.aload_n 3, 1) := by decide +kernel
theorem dL_law_1584 : decode cL_law 1584 = .ok (.invokestatic 202, 3) := by decide +kernel
theorem dL_law_1587 : decode cL_law 1587 = .ok (.istore 6, 2) := by decide +kernel
theorem dL_law_1589 : decode cL_law 1589 = .ok (.aload_n 2, 1) := by decide +kernel
theorem dL_law_1590 : decode cL_law 1590 = .ok (.aload_n 0, 1) := by decide +kernel
theorem dL_law_1591 : decode cL_law 1591 = .ok (.iload 5, 2) := by decide +kernel
theorem dL_law_1593 : decode cL_law 1593 = .ok (.iconst 1, 1) := by decide +kernel
theorem dL_law_1594 : decode cL_law 1594 = .ok (.iadd, 1) := by decide +kernel
theorem dL_law_1595 : decode cL_law 1595 = .ok (.iaload, 1) := by decide +kernel
theorem dL_law_1596 : decode cL_law 1596 = .ok (.invokevirtual 204, 3) := by decide +kernel
theorem dL_law_1599 : decode cL_law 1599 = .ok (.lstore 7, 2) := by decide +kernel
theorem dL_law_1601 : decode cL_law 1601 = .ok (.aload_n 2, 1) := by decide +kernel
theorem dL_law_1602 : decode cL_law 1602 = .ok (.invokevirtual 127, 3) := by decide +kernel
theorem dL_law_1605 : decode cL_law 1605 = .ok (.iload 6, 2) := by decide +kernel
theorem dL_law_1607 : decode cL_law 1607 = .ok (.if_icmp .eq 5, 3) := by decide +kernel
theorem dL_law_1610 : decode cL_law 1610 = .ok (.iconst 0, 1) := by decide +kernel
theorem dL_law_1611 : decode cL_law 1611 = .ok (.ireturn, 1) := by decide +kernel
theorem dL_law_1612 : decode cL_law 1612 = .ok (.iload 6, 2) := by decide +kernel
theorem dL_law_1614 : decode cL_law 1614 = .ok (.ifCond .ne 14, 3) := by decide +kernel
theorem dL_law_1617 : decode cL_law 1617 = .ok (.aload_n 3, 1) := by decide +kernel
theorem dL_law_1618 : decode cL_law 1618 = .ok (.iconst 0, 1) := by decide +kernel
theorem dL_law_1619 : decode cL_law 1619 = .ok (.laload, 1) := by decide +kernel
theorem dL_law_1620 : decode cL_law 1620 = .ok (.lload 7, 2) := by decide +kernel
theorem dL_law_1622 : decode cL_law 1622 = .ok (.lcmp, 1) := by decide +kernel
theorem dL_law_1623 : decode cL_law 1623 = .ok (.ifCond .eq 5, 3) := by decide +kernel
theorem dL_law_1626 : decode cL_law 1626 = .ok (.iconst 0, 1) := by decide +kernel
theorem dL_law_1627 : decode cL_law 1627 = .ok (.ireturn, 1) := by decide +kernel
theorem dL_law_1628 : decode cL_law 1628 = .ok (.goto 315, 3) := by decide +kernel
theorem dL_law_1631 : decode cL_law 1631 = .ok (.aload_n 1, 1) := by decide +kernel
theorem dL_law_1632 : decode cL_law 1632 = .ok (.aload_n 0, 1) := by decide +kernel
theorem dL_law_1633 : decode cL_law 1633 = .ok (.iload 5, 2) := by decide +kernel
theorem dL_law_1635 : decode cL_law 1635 = .ok (.iconst 1, 1) := by decide +kernel
theorem dL_law_1636 : decode cL_law 1636 = .ok (.iadd, 1) := by decide +kernel
theorem dL_law_1637 : decode cL_law 1637 = .ok (.iaload, 1) := by decide +kernel
theorem dL_law_1638 : decode cL_law 1638 = .ok (.aload_n 3, 1) := by decide +kernel
theorem dL_law_1639 : decode cL_law 1639 = .ok (.invokestatic 205, 3) := by decide +kernel
theorem dL_law_1642 : decode cL_law 1642 = .ok (.istore 6, 2) := by decide +kernel
theorem dL_law_1644 : decode cL_law 1644 = .ok (.aload_n 2, 1) := by decide +kernel
theorem dL_law_1645 : decode cL_law 1645 = .ok (.aload_n 0, 1) := by decide +kernel
theorem dL_law_1646 : decode cL_law 1646 = .ok (.iload 5, 2) := by decide +kernel
theorem dL_law_1648 : decode cL_law 1648 = .ok (.iconst 1, 1) := by decide +kernel
theorem dL_law_1649 : decode cL_law 1649 = .ok (.iadd, 1) := by decide +kernel
theorem dL_law_1650 : decode cL_law 1650 = .ok (.iaload, 1) := by decide +kernel
theorem dL_law_1651 : decode cL_law 1651 = .ok (.invokevirtual 207, 3) := by decide +kernel
theorem dL_law_1654 : decode cL_law 1654 = .ok (.istore 7, 2) := by decide +kernel
theorem dL_law_1656 : decode cL_law 1656 = .ok (.aload_n 2, 1) := by decide +kernel
theorem dL_law_1657 : decode cL_law 1657 = .ok (.invokevirtual 127, 3) := by decide +kernel
theorem dL_law_1660 : decode cL_law 1660 = .ok (.iload 6, 2) := by decide +kernel
theorem dL_law_1662 : decode cL_law 1662 = .ok (.if_icmp .eq 5, 3) := by decide +kernel
theorem dL_law_1665 : decode cL_law 1665 = .ok (.iconst 0, 1) := by decide +kernel
theorem dL_law_1666 : decode cL_law 1666 = .ok (.ireturn, 1) := by decide +kernel
theorem dL_law_1667 : decode cL_law 1667 = .ok (.iload 6, 2) := by decide +kernel
theorem dL_law_1669 : decode cL_law 1669 = .ok (.ifCond .ne 15, 3) := by decide +kernel
theorem dL_law_1672 : decode cL_law 1672 = .ok (.aload_n 3, 1) := by decide +kernel
theorem dL_law_1673 : decode cL_law 1673 = .ok (.iconst 0, 1) := by decide +kernel
theorem dL_law_1674 : decode cL_law 1674 = .ok (.laload, 1) := by decide +kernel
theorem dL_law_1675 : decode cL_law 1675 = .ok (.iload 7, 2) := by decide +kernel
theorem dL_law_1677 : decode cL_law 1677 = .ok (.i2l, 1) := by decide +kernel
theorem dL_law_1678 : decode cL_law 1678 = .ok (.lcmp, 1) := by decide +kernel
theorem dL_law_1679 : decode cL_law 1679 = .ok (.ifCond .eq 5, 3) := by decide +kernel
theorem dL_law_1682 : decode cL_law 1682 = .ok (.iconst 0, 1) := by decide +kernel
theorem dL_law_1683 : decode cL_law 1683 = .ok (.ireturn, 1) := by decide +kernel
theorem dL_law_1684 : decode cL_law 1684 = .ok (.goto 259, 3) := by decide +kernel
theorem dL_law_1687 : decode cL_law 1687 = .ok (.aload_n 1, 1) := by decide +kernel
theorem dL_law_1688 : decode cL_law 1688 = .ok (.aload_n 0, 1) := by decide +kernel
theorem dL_law_1689 : decode cL_law 1689 = .ok (.iload 5, 2) := by decide +kernel
theorem dL_law_1691 : decode cL_law 1691 = .ok (.iconst 1, 1) := by decide +kernel
theorem dL_law_1692 : decode cL_law 1692 = .ok (.iadd, 1) := by decide +kernel
theorem dL_law_1693 : decode cL_law 1693 = .ok (.iaload, 1) := by decide +kernel
theorem dL_law_1694 : decode cL_law 1694 = .ok (.aload_n 3, 1) := by decide +kernel
theorem dL_law_1695 : decode cL_law 1695 = .ok (.invokestatic 208, 3) := by decide +kernel
theorem dL_law_1698 : decode cL_law 1698 = .ok (.istore 6, 2) := by decide +kernel
theorem dL_law_1700 : decode cL_law 1700 = .ok (.aload_n 2, 1) := by decide +kernel
theorem dL_law_1701 : decode cL_law 1701 = .ok (.aload_n 0, 1) := by decide +kernel
theorem dL_law_1702 : decode cL_law 1702 = .ok (.iload 5, 2) := by decide +kernel
theorem dL_law_1704 : decode cL_law 1704 = .ok (.iconst 1, 1) := by decide +kernel
theorem dL_law_1705 : decode cL_law 1705 = .ok (.iadd, 1) := by decide +kernel
theorem dL_law_1706 : decode cL_law 1706 = .ok (.iaload, 1) := by decide +kernel
theorem dL_law_1707 : decode cL_law 1707 = .ok (.invokevirtual 210, 3) := by decide +kernel
theorem dL_law_1710 : decode cL_law 1710 = .ok (.istore 7, 2) := by decide +kernel
theorem dL_law_1712 : decode cL_law 1712 = .ok (.aload_n 2, 1) := by decide +kernel
theorem dL_law_1713 : decode cL_law 1713 = .ok (.invokevirtual 127, 3) := by decide +kernel
theorem dL_law_1716 : decode cL_law 1716 = .ok (.iload 6, 2) := by decide +kernel
theorem dL_law_1718 : decode cL_law 1718 = .ok (.if_icmp .eq 5, 3) := by decide +kernel
theorem dL_law_1721 : decode cL_law 1721 = .ok (.iconst 0, 1) := by decide +kernel
theorem dL_law_1722 : decode cL_law 1722 = .ok (.ireturn, 1) := by decide +kernel
theorem dL_law_1723 : decode cL_law 1723 = .ok (.iload 6, 2) := by decide +kernel
theorem dL_law_1725 : decode cL_law 1725 = .ok (.ifCond .ne 15, 3) := by decide +kernel
theorem dL_law_1728 : decode cL_law 1728 = .ok (.aload_n 3, 1) := by decide +kernel
theorem dL_law_1729 : decode cL_law 1729 = .ok (.iconst 0, 1) := by decide +kernel
theorem dL_law_1730 : decode cL_law 1730 = .ok (.laload, 1) := by decide +kernel
theorem dL_law_1731 : decode cL_law 1731 = .ok (.iload 7, 2) := by decide +kernel
theorem dL_law_1733 : decode cL_law 1733 = .ok (.i2l, 1) := by decide +kernel
theorem dL_law_1734 : decode cL_law 1734 = .ok (.lcmp, 1) := by decide +kernel
theorem dL_law_1735 : decode cL_law 1735 = .ok (.ifCond .eq 5, 3) := by decide +kernel
theorem dL_law_1738 : decode cL_law 1738 = .ok (.iconst 0, 1) := by decide +kernel
theorem dL_law_1739 : decode cL_law 1739 = .ok (.ireturn, 1) := by decide +kernel
theorem dL_law_1740 : decode cL_law 1740 = .ok (.goto 203, 3) := by decide +kernel
theorem dL_law_1743 : decode cL_law 1743 = .ok (.aload_n 1, 1) := by decide +kernel
theorem dL_law_1744 : decode cL_law 1744 = .ok (.aload_n 0, 1) := by decide +kernel
theorem dL_law_1745 : decode cL_law 1745 = .ok (.iload 5, 2) := by decide +kernel
theorem dL_law_1747 : decode cL_law 1747 = .ok (.iconst 1, 1) := by decide +kernel
theorem dL_law_1748 : decode cL_law 1748 = .ok (.iadd, 1) := by decide +kernel
theorem dL_law_1749 : decode cL_law 1749 = .ok (.iaload, 1) := by decide +kernel
theorem dL_law_1750 : decode cL_law 1750 = .ok (.aload_n 3, 1) := by decide +kernel
theorem dL_law_1751 : decode cL_law 1751 = .ok (.invokestatic 211, 3) := by decide +kernel
theorem dL_law_1754 : decode cL_law 1754 = .ok (.istore 6, 2) := by decide +kernel
theorem dL_law_1756 : decode cL_law 1756 = .ok (.aload_n 2, 1) := by decide +kernel
theorem dL_law_1757 : decode cL_law 1757 = .ok (.aload_n 0, 1) := by decide +kernel
theorem dL_law_1758 : decode cL_law 1758 = .ok (.iload 5, 2) := by decide +kernel
theorem dL_law_1760 : decode cL_law 1760 = .ok (.iconst 1, 1) := by decide +kernel
theorem dL_law_1761 : decode cL_law 1761 = .ok (.iadd, 1) := by decide +kernel
theorem dL_law_1762 : decode cL_law 1762 = .ok (.iaload, 1) := by decide +kernel
theorem dL_law_1763 : decode cL_law 1763 = .ok (.invokevirtual 213, 3) := by decide +kernel
theorem dL_law_1766 : decode cL_law 1766 = .ok (.istore 7, 2) := by decide +kernel
theorem dL_law_1768 : decode cL_law 1768 = .ok (.aload_n 2, 1) := by decide +kernel
theorem dL_law_1769 : decode cL_law 1769 = .ok (.invokevirtual 127, 3) := by decide +kernel
theorem dL_law_1772 : decode cL_law 1772 = .ok (.iload 6, 2) := by decide +kernel
theorem dL_law_1774 : decode cL_law 1774 = .ok (.if_icmp .eq 5, 3) := by decide +kernel
theorem dL_law_1777 : decode cL_law 1777 = .ok (.iconst 0, 1) := by decide +kernel
theorem dL_law_1778 : decode cL_law 1778 = .ok (.ireturn, 1) := by decide +kernel
theorem dL_law_1779 : decode cL_law 1779 = .ok (.iload 6, 2) := by decide +kernel
theorem dL_law_1781 : decode cL_law 1781 = .ok (.ifCond .ne 15, 3) := by decide +kernel
theorem dL_law_1784 : decode cL_law 1784 = .ok (.aload_n 3, 1) := by decide +kernel
theorem dL_law_1785 : decode cL_law 1785 = .ok (.iconst 0, 1) := by decide +kernel
theorem dL_law_1786 : decode cL_law 1786 = .ok (.laload, 1) := by decide +kernel
theorem dL_law_1787 : decode cL_law 1787 = .ok (.iload 7, 2) := by decide +kernel
theorem dL_law_1789 : decode cL_law 1789 = .ok (.i2l, 1) := by decide +kernel
theorem dL_law_1790 : decode cL_law 1790 = .ok (.lcmp, 1) := by decide +kernel
theorem dL_law_1791 : decode cL_law 1791 = .ok (.ifCond .eq 5, 3) := by decide +kernel
theorem dL_law_1794 : decode cL_law 1794 = .ok (.iconst 0, 1) := by decide +kernel
theorem dL_law_1795 : decode cL_law 1795 = .ok (.ireturn, 1) := by decide +kernel
theorem dL_law_1796 : decode cL_law 1796 = .ok (.goto 147, 3) := by decide +kernel
theorem dL_law_1799 : decode cL_law 1799 = .ok (.aload_n 1, 1) := by decide +kernel
theorem dL_law_1800 : decode cL_law 1800 = .ok (.aload 4, 2) := by decide +kernel
theorem dL_law_1802 : decode cL_law 1802 = .ok (.invokestatic 214, 3) := by decide +kernel
theorem dL_law_1805 : decode cL_law 1805 = .ok (.istore 6, 2) := by decide +kernel
theorem dL_law_1807 : decode cL_law 1807 = .ok (.aload_n 2, 1) := by decide +kernel
theorem dL_law_1808 : decode cL_law 1808 = .ok (.invokevirtual 217, 3) := by decide +kernel
theorem dL_law_1811 : decode cL_law 1811 = .ok (.fstore 7, 2) := by decide +kernel
theorem dL_law_1813 : decode cL_law 1813 = .ok (.aload_n 2, 1) := by decide +kernel
theorem dL_law_1814 : decode cL_law 1814 = .ok (.invokevirtual 127, 3) := by decide +kernel
theorem dL_law_1817 : decode cL_law 1817 = .ok (.iload 6, 2) := by decide +kernel
theorem dL_law_1819 : decode cL_law 1819 = .ok (.if_icmp .eq 5, 3) := by decide +kernel
theorem dL_law_1822 : decode cL_law 1822 = .ok (.iconst 0, 1) := by decide +kernel
theorem dL_law_1823 : decode cL_law 1823 = .ok (.ireturn, 1) := by decide +kernel
theorem dL_law_1824 : decode cL_law 1824 = .ok (.iload 6, 2) := by decide +kernel
theorem dL_law_1826 : decode cL_law 1826 = .ok (.ifCond .ne 36, 3) := by decide +kernel
theorem dL_law_1829 : decode cL_law 1829 = .ok (.aload 4, 2) := by decide +kernel
theorem dL_law_1831 : decode cL_law 1831 = .ok (.iconst 0, 1) := by decide +kernel
theorem dL_law_1832 : decode cL_law 1832 = .ok (.daload, 1) := by decide +kernel
theorem dL_law_1833 : decode cL_law 1833 = .ok (.fload 7, 2) := by decide +kernel
theorem dL_law_1835 : decode cL_law 1835 = .ok (.f2d, 1) := by decide +kernel
theorem dL_law_1836 : decode cL_law 1836 = .ok (.dcmp .l, 1) := by decide +kernel
theorem dL_law_1837 : decode cL_law 1837 = .ok (.ifCond .eq 25, 3) := by decide +kernel
theorem dL_law_1840 : decode cL_law 1840 = .ok (.aload 4, 2) := by decide +kernel
theorem dL_law_1842 : decode cL_law 1842 = .ok (.iconst 0, 1) := by decide +kernel
theorem dL_law_1843 : decode cL_law 1843 = .ok (.daload, 1) := by decide +kernel
theorem dL_law_1844 : decode cL_law 1844 = .ok (.aload 4, 2) := by decide +kernel
theorem dL_law_1846 : decode cL_law 1846 = .ok (.iconst 0, 1) := by decide +kernel
theorem dL_law_1847 : decode cL_law 1847 = .ok (.daload, 1) := by decide +kernel
theorem dL_law_1848 : decode cL_law 1848 = .ok (.dcmp .l, 1) := by decide +kernel
theorem dL_law_1849 : decode cL_law 1849 = .ok (.ifCond .eq 11, 3) := by decide +kernel
theorem dL_law_1852 : decode cL_law 1852 = .ok (.fload 7, 2) := by decide +kernel
theorem dL_law_1854 : decode cL_law 1854 = .ok (.fload 7, 2) := by decide +kernel
theorem dL_law_1856 : decode cL_law 1856 = .ok (.fcmp .l, 1) := by decide +kernel
theorem dL_law_1857 : decode cL_law 1857 = .ok (.ifCond .ne 5, 3) := by decide +kernel
theorem dL_law_1860 : decode cL_law 1860 = .ok (.iconst 0, 1) := by decide +kernel
theorem dL_law_1861 : decode cL_law 1861 = .ok (.ireturn, 1) := by decide +kernel
theorem dL_law_1862 : decode cL_law 1862 = .ok (.goto 81, 3) := by decide +kernel
theorem dL_law_1865 : decode cL_law 1865 = .ok (.aload_n 1, 1) := by decide +kernel
theorem dL_law_1866 : decode cL_law 1866 = .ok (.aload 4, 2) := by decide +kernel
theorem dL_law_1868 : decode cL_law 1868 = .ok (.invokestatic 218, 3) := by decide +kernel
theorem dL_law_1871 : decode cL_law 1871 = .ok (.istore 6, 2) := by decide +kernel
theorem dL_law_1873 : decode cL_law 1873 = .ok (.aload_n 2, 1) := by decide +kernel
theorem dL_law_1874 : decode cL_law 1874 = .ok (.invokevirtual 220, 3) := by decide +kernel
theorem dL_law_1877 : decode cL_law 1877 = .ok (.dstore 7, 2) := by decide +kernel
theorem dL_law_1879 : decode cL_law 1879 = .ok (.aload_n 2, 1) := by decide +kernel
theorem dL_law_1880 : decode cL_law 1880 = .ok (.invokevirtual 127, 3) := by decide +kernel
theorem dL_law_1883 : decode cL_law 1883 = .ok (.iload 6, 2) := by decide +kernel
theorem dL_law_1885 : decode cL_law 1885 = .ok (.if_icmp .eq 5, 3) := by decide +kernel
theorem dL_law_1888 : decode cL_law 1888 = .ok (.iconst 0, 1) := by decide +kernel
theorem dL_law_1889 : decode cL_law 1889 = .ok (.ireturn, 1) := by decide +kernel
theorem dL_law_1890 : decode cL_law 1890 = .ok (.iload 6, 2) := by decide +kernel
theorem dL_law_1892 : decode cL_law 1892 = .ok (.ifCond .ne 35, 3) := by decide +kernel
theorem dL_law_1895 : decode cL_law 1895 = .ok (.aload 4, 2) := by decide +kernel
theorem dL_law_1897 : decode cL_law 1897 = .ok (.iconst 0, 1) := by decide +kernel
theorem dL_law_1898 : decode cL_law 1898 = .ok (.daload, 1) := by decide +kernel
theorem dL_law_1899 : decode cL_law 1899 = .ok (.dload 7, 2) := by decide +kernel
theorem dL_law_1901 : decode cL_law 1901 = .ok (.dcmp .l, 1) := by decide +kernel
theorem dL_law_1902 : decode cL_law 1902 = .ok (.ifCond .eq 25, 3) := by decide +kernel
theorem dL_law_1905 : decode cL_law 1905 = .ok (.aload 4, 2) := by decide +kernel
theorem dL_law_1907 : decode cL_law 1907 = .ok (.iconst 0, 1) := by decide +kernel
theorem dL_law_1908 : decode cL_law 1908 = .ok (.daload, 1) := by decide +kernel
theorem dL_law_1909 : decode cL_law 1909 = .ok (.aload 4, 2) := by decide +kernel
theorem dL_law_1911 : decode cL_law 1911 = .ok (.iconst 0, 1) := by decide +kernel
theorem dL_law_1912 : decode cL_law 1912 = .ok (.daload, 1) := by decide +kernel
theorem dL_law_1913 : decode cL_law 1913 = .ok (.dcmp .l, 1) := by decide +kernel
theorem dL_law_1914 : decode cL_law 1914 = .ok (.ifCond .eq 11, 3) := by decide +kernel
theorem dL_law_1917 : decode cL_law 1917 = .ok (.dload 7, 2) := by decide +kernel
theorem dL_law_1919 : decode cL_law 1919 = .ok (.dload 7, 2) := by decide +kernel
theorem dL_law_1921 : decode cL_law 1921 = .ok (.dcmp .l, 1) := by decide +kernel
theorem dL_law_1922 : decode cL_law 1922 = .ok (.ifCond .ne 5, 3) := by decide +kernel
theorem dL_law_1925 : decode cL_law 1925 = .ok (.iconst 0, 1) := by decide +kernel
theorem dL_law_1926 : decode cL_law 1926 = .ok (.ireturn, 1) := by decide +kernel
theorem dL_law_1927 : decode cL_law 1927 = .ok (.goto 16, 3) := by decide +kernel
theorem dL_law_1930 : decode cL_law 1930 = .ok (.aload_n 1, 1) := by decide +kernel
theorem dL_law_1931 : decode cL_law 1931 = .ok (.invokevirtual 221, 3) := by decide +kernel
theorem dL_law_1934 : decode cL_law 1934 = .ok (.aload_n 2, 1) := by decide +kernel
theorem dL_law_1935 : decode cL_law 1935 = .ok (.invokevirtual 225, 3) := by decide +kernel
theorem dL_law_1938 : decode cL_law 1938 = .ok (.if_icmp .eq 5, 3) := by decide +kernel
theorem dL_law_1941 : decode cL_law 1941 = .ok (.iconst 0, 1) := by decide +kernel
theorem dL_law_1942 : decode cL_law 1942 = .ok (.ireturn, 1) := by decide +kernel
theorem dL_law_1943 : decode cL_law 1943 = .ok (.iinc 5 4, 3) := by decide +kernel
theorem dL_law_1946 : decode cL_law 1946 = .ok (.goto (-1918), 3) := by decide +kernel
theorem dL_law_1949 : decode cL_law 1949 = .ok (.iconst 1, 1) := by decide +kernel
theorem dL_law_1950 : decode cL_law 1950 = .ok (.ireturn, 1) := by decide +kernel
end
section
/-! THE CLAIM OUT OF ONE WALK OF THE LAW'S BODY. Your part is whole_start (and what it stands on); all else here is the same for every law, but numbers. -/
def R_law : String := "LineKeeperLaw"
def lw_P (b : Addr) (xs : List Int32) (args : Array Value) (s : State) : Prop := args = #[.ref b] ∧ s.IntsAt b xs ∧ xs.length ≤ 2048 ∧ (Jvm.Cond.and given_1 narrow_1).before args s = true
/-- what a walk over the start with the record d0 says of its end, said of the start itself -/
theorem lw_closed {s t : State} {o : Outcome} {d0 : Drawn} {L : List Loc} {k n : Nat} (hd0 : s.drawn.sameBut d0 lw_cs) (hv : ∃ v, o = .returned v) (hW : (s.setDrawn d0).WarmedH t.vm) (hs : (s.setDrawn d0).sameButNew ({ t with vm := s.vm } : State) L k n) : State.butDraws s t lw_cs (fun t1 => Framed s o t1 L k n) := by
  have h2 : t.drawn = d0 := congrArg State.drawn hs.1
  refine ⟨⟨hv, hW, State.sameButNew.setDrawn hs s.drawn⟩, ?_, by decide⟩
  rw [h2]
  exact hd0
def lw_Q (_ : Array Value) (s : State) (o : Outcome) (t : State) : Prop := o = .returned (some (.int 1)) ∧ State.butDraws s t lw_cs (fun t1 => Framed s o t1 [] 603072 7219306)
def lw_Z (below : List Frame) (a : Array Value) (s : State) : State → Prop := fun t => ∃ o, t.status = .running ∧ Ended t below o ∧ lw_Q a s o t
/-- the law's own end, with 1 on the stack, nothing written that was there before, its room as the claim has it; d0: the record of draws at this point (at the entry s.drawn: begin with 'refine W.base ?_' and 'have hd0 := Drawn.sameBut.refl s.drawn lw_cs') -/
theorem lw_ret {p : Program} {l : Launch} {e : Env} {s : State} {m : MethodId} {below : List Frame} {meth : Method} {c : Code} {b : Nat} {d0 : Drawn} (hd0 : s.drawn.sameBut d0 lw_cs) (hx : p.tables.exec = Jvm.exec) (hb : c.code = code) (hr : meth.sig.returnType = ret) (hlocks : meth.locks = false) {pc : Nat} {H : Heap} {ls : Array Slot} (hdg : decode code pc = .ok (.ireturn, 1)) : W p l e room_1 (s.setDrawn d0) m #[Value.ref b] below meth c H [] 603072 7219306 (lw_Z below #[Value.ref b] s) (F0 m pc ls [.int 1]) := by
  intro T hT X
  obtain ⟨fs, hret, hrun, hended, hW, hframe⟩ := X.leave (v := some (.int 1)) (hlocks := hlocks) (fun h => by rw [hr] at h; cases h)
  have hmeth' : T.vm.method? m = some meth := X.method'
  refine ⟨T.setFrames fs, ?_, .returned (some (.int 1)), hrun, hended, rfl, lw_closed hd0 ⟨_, rfl⟩ hW hframe⟩
  jvm_step X.here [X.here.top, hx, hb, hdg, hmeth', hr, ret, narrow_b1]
  (try refine ⟨rfl, ?_⟩); (try refine ⟨rfl, ?_⟩)
  first | (intro acts; rw [hret _ acts rfl rfl rfl]) | rw [hret _ _ rfl rfl rfl]
  exact Steps.refl _
/-- what holds at the law's entry: the machine, the code, the tables' words (any of lw_tbl by 'hts w (by decide +kernel)'), the script of L ints xs at the cell b, what the Statement gives of the start (any of its parts by flat_of_before) -/
def lw_At (p : Program) (s : State) (m : MethodId) (meth : Method) (c : Code) (b L : Nat) (xs : Nat → Int32) : Prop :=
  p.tables.exec = Jvm.exec ∧ c.code = code ∧ meth.sig.returnType = ret ∧ c.maxLocals = 9 ∧ s.vm.findClass R_law = some m.cls ∧ (∀ w ∈ lw_tbl, w.before #[Value.ref b] s = true) ∧ va_X b L xs s s.heap ∧ b < s.heap.size ∧ meth.locks = false ∧ (Jvm.Cond.and given_1 narrow_1).before #[Value.ref b] s = true
-- ===== YOUR PART BEGINS =====
/-- YOUR PART: from the entry, for every script of at most 2048 ints, the law comes to its end with true ('hflags': the launch's flags, for a law that throws: no stack traces) -/
theorem whole_start {p : Program} {e : Env} {s : State} {m : MethodId} {below : List Frame} {meth : Method} {c : Code} (l : Launch) (hflags : l.flags = flags0) {b L : Nat} {xs : Nat → Int32} (hL : L ≤ 2048) (C0 : lw_At p s m meth c b L xs) : W p l e room_1 s m #[Value.ref b] below meth c s.heap [] 0 0 (lw_Z below #[Value.ref b] s) (entryFrame m ([Value.ref b] : List Value).toArray 9) := by
  sorry
-- ===== YOUR PART ENDS =====
set_option maxHeartbeats 4000000 in
theorem lw_walk (l : Launch) (hflags : l.flags = flags0) (b : Addr) (xs : List Int32) : MetFree l x (headSpec (Jvm.Cond.code x code maxLocals ret :: tables_1) room_1) (lw_P b xs) (fun _ _ _ _ _ => True) lw_Q := by
  refine MetFree.of_bodyS (code := code) (maxLocals := maxLocals) (ret := ret) (by decide) ?_ ?_
  · intro args s m h hn
    obtain ⟨meth, c, h1, h2, h3, h4, h5, h6, -, -⟩ := Cond.code_spec hn (atoms_spec (ws := Jvm.Cond.code x code maxLocals ret :: tables_1) h _ List.mem_cons_self)
    exact ⟨meth, c, h1, h2, h3, h4, h5, h6⟩
  · intro p e s m args below meth c s₁ B hml0 hP _
    obtain ⟨rfl, hx, hbd, hgv⟩ := hP
    obtain ⟨scr, harrAt, hlist, hof, hsmall⟩ := hx
    obtain ⟨hcb, hkn, -, -⟩ := State.arrayAt?_spec harrAt
    have hown : s.vm.findClass R_law = some m.cls := findClass_of_methodNamed B.named
    have hts0 : ∀ c ∈ (Jvm.Cond.code x code maxLocals ret :: tables_1), c.before #[Value.ref b] s = true := atoms_spec (ws := Jvm.Cond.code x code maxLocals ret :: tables_1) B.pre
    have hts : ∀ w ∈ lw_tbl, w.before #[Value.ref b] s = true := k2_hts_sels lw_privs (fun w hw => hts0 w (List.mem_cons_of_mem _ hw)) lw_privs_ok
    have hml : c.maxLocals = 9 := B.maxLocals_eq (hts0 _ List.mem_cons_self)
    have X₀ : Stand p l e room_1 s m #[Value.ref b] below meth c s₁ [] 0 0 := Stand.of_body B
    have hh0 : s₁.heap = s.heap := by rw [B.state]; rfl
    have hsz : scr.slots.size = xs.length := by rw [← Array.length_toList, hlist, List.length_map]
    have hval : ∀ j : Nat, j < xs.length → scr.slots[j]? = some (.int (xs.getD j 0)) := fun j hj => by
      rw [← Array.getElem?_toList, hlist]
      simp [hj]
    have hbl : b < s.heap.size := (Array.getElem?_eq_some_iff.mp hcb).1
    have hX : va_X b xs.length (fun j => xs.getD j 0) s s.heap := ⟨scr, hcb, hof, hkn, hsz, hval⟩
    have K : W p l e room_1 s m #[Value.ref b] below meth c s₁.heap [] 0 0 (lw_Z below #[Value.ref b] s) (entryFrame m ([Value.ref b] : List Value).toArray 9) := by
      rw [hh0]
      exact whole_start l hflags hbd ⟨B.exec, B.bytes, B.returns, hml, hown, hts, hX, hbl, B.notSynchronized, hgv⟩
    obtain ⟨t, a1, o, b1, b2, b3⟩ := K s₁ rfl X₀
    exact ⟨t, o, a1, b1, b2, b3⟩
theorem lw_pre_spec {args : Array Value} {s : State} (h : (Jvm.Cond.and given_1 narrow_1).before args s = true) (hr : rest_1_c.before args s = true) : ∃ (b : Addr) (xs : List Int32), lw_P b xs args s := by
  have hs := flat_of_before _ h
  have hq := flat_of_before _ hr
  have hc : (Cond.count 1).before args s = true := hs _ (by decide +kernel)
  have harr : (Cond.arrayOf (.arg 0) .int).before args s = true := hs _ (by decide +kernel)
  have hle : (Cond.le (.length (.arg 0)) (.int 2048)).before args s = true := hs _ (by decide +kernel)
  have hlen : (Cond.isInt (.length (.arg 0))).before args s = true := hq _ (by decide +kernel)
  have hall : (Cond.all (.arg 0) (.isInt (.elem (.arg 0) (.index 0)))).before args s = true := hq _ (by decide +kernel)
  obtain ⟨b, xs, hb, hx⟩ := State.ints_of_pre rfl harr hlen hall
  have hsm : xs.length < 2 ^ 31 := hx.choose_spec.2.2.2
  have hev : (Term.length (.arg 0)).eval args s none [] s = some (.int xs.length.toInt32) := hx.length_eval hb
  have hv := Cond.le_ints hev (show (Term.int 2048).eval args s none [] s = some (.int 2048) from rfl)
  have hd : xs.length.toInt32 ≤ 2048 := by
    simpa [Cond.before, Cond.holds, hv] using hle
  have hN : xs.length ≤ 2048 := (Int32.ofNat_le_ofNat hsm (by decide)).mp (show Int32.ofNat xs.length ≤ Int32.ofNat 2048 from hd)
  exact ⟨b, xs, Cond.one_arg hc (show args[0]? = some (.ref b) from hb), hx, hN, h⟩
theorem lw_comes (l : Launch) (hflags : l.flags = flags0) : Comes l x (Jvm.Cond.code x code maxLocals ret :: tables_1) room_1 (fun tb e args s => Calls_1 tb e args s ∧ rest_1 tb e args s ∧ Pre_1 tb e args s)
    (fun _ _ args s o t => lw_Q args s o t) := by
  intro p e ha hc hk s m args below hf hfit hheap happ hpre
  obtain ⟨b, xs, hP⟩ := lw_pre_spec hpre.2.2 hpre.2.1
  obtain ⟨k, o, h1, h2, h3, hQ⟩ := lw_walk l hflags b xs p e ha hc hk s m args below hf ((Spec.applies_iff_loose hf).mp happ).1 hP trivial
  exact ⟨k, o, h1, h2, h3, hQ⟩
theorem lw_frame {s t : State} {o : Outcome} {args : Array Value} (h : State.butDraws s t lw_cs (fun t1 => Framed s o t1 [] 603072 7219306)) :
    State.butDraws s t [Jvm.Choice.named "NaN.bits"] (fun t1 => Framed s o t1 (fieldLocs frame_1_writes args s ++ arrayLocs frame_1_arrays args s ++ staticLocs frame_1_statics s) 603072 7219306) := h
theorem lw_limb (L : Cond) (hL : ∀ (args : Array Value) (s t : State), L.after args s (.returned (some (.int 1))) t = true) :
    ArmFor flags0 classFile x code maxLocals ret World_1 tables_1 room_1 Calls_1 rest_1 Pre_1
      (fun tb e a s o t => postC L tb e a s o t ∧ State.butDraws s t [Jvm.Choice.named "NaN.bits"] (fun t1 => Framed s o t1 (fieldLocs frame_1_writes a s ++ arrayLocs frame_1_arrays a s ++ staticLocs frame_1_statics s) 603072 7219306)) := by
  intro l hflags _ _ p e ha hc hk s m args below hf hfit hheap happ hpre
  obtain ⟨k, o, h1, h2, h3, rfl, hF⟩ := lw_comes l hflags p e ha hc hk s m args below hf hfit hheap happ hpre
  exact ⟨k, _, h1, h2, h3, hL args s _, lw_frame hF⟩
theorem i_vc : Claimed_1_1 ∧ Claimed_1_2 := ⟨lw_limb limb_1_1 (fun args s t => by simp [limb_1_1, Cond.after, Cond.holds, Cond.value]), lw_limb limb_1_2 (fun args s t => Cond.after_iff.mpr (by
  first | (rw [show limb_1_2 = Cond.eq .result (.int 1) from rfl, Cond.eq_ints (x := 1) (y := 1) rfl rfl]; simp; done) | (simp [limb_1_2, Cond.value, Term.eval]; done)))⟩
end
