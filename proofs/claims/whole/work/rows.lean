section
-- ===== PART A: goes FIRST, ahead of the names: the tables' words, and 'selects' of the private methods out of them =====
/-- a private method of a class that the tables say can be made, by its rows of tables_1 -/
def lw_okq (q : MethodName × Nat) : Prop := (q.1.cls ≠ "java/lang/invoke/MethodHandle" ∧ q.1.cls ≠ "java/lang/invoke/VarHandle") ∧ Cond.instantiable q.1.cls q.2 ∈ tables_1 ∧ Cond.privateMethod q.1 ∈ tables_1 ∧ Cond.instanceMethod q.1 ∈ tables_1
theorem lw_p0 : lw_okq (⟨"IceBells$Peals", "countPitches", "([I)V"⟩, 6) := ⟨⟨by decide +kernel, by decide +kernel⟩, List.mem_of_getElem? (i := 74) (by decide +kernel), List.mem_of_getElem? (i := 353) (by decide +kernel), List.mem_of_getElem? (i := 354) (by decide +kernel)⟩
theorem lw_p1 : lw_okq (⟨"java/lang/Throwable", "fillInStackTrace", "(I)Ljava/lang/Throwable;"⟩, 6) := ⟨⟨by decide +kernel, by decide +kernel⟩, List.mem_of_getElem? (i := 488) (by decide +kernel), List.mem_of_getElem? (i := 486) (by decide +kernel), List.mem_of_getElem? (i := 487) (by decide +kernel)⟩
theorem lw_p2 : lw_okq (⟨"IceBells", "lakeNumbered", "(I)LIceBells$Lake;"⟩, 11) := ⟨⟨by decide +kernel, by decide +kernel⟩, List.mem_of_getElem? (i := 37) (by decide +kernel), List.mem_of_getElem? (i := 633) (by decide +kernel), List.mem_of_getElem? (i := 634) (by decide +kernel)⟩
theorem lw_p3 : lw_okq (⟨"IceBells", "lakeWithLayer", "(II)LIceBells$Lake;"⟩, 11) := ⟨⟨by decide +kernel, by decide +kernel⟩, List.mem_of_getElem? (i := 37) (by decide +kernel), List.mem_of_getElem? (i := 653) (by decide +kernel), List.mem_of_getElem? (i := 654) (by decide +kernel)⟩
theorem lw_p4 : lw_okq (⟨"IceBells$Lake", "temperatureBeneath", "(I)I"⟩, 6) := ⟨⟨by decide +kernel, by decide +kernel⟩, List.mem_of_getElem? (i := 104) (by decide +kernel), List.mem_of_getElem? (i := 759) (by decide +kernel), List.mem_of_getElem? (i := 760) (by decide +kernel)⟩
theorem lw_p5 : lw_okq (⟨"IceBells$Lake", "pushNeighbour", "(I)V"⟩, 6) := ⟨⟨by decide +kernel, by decide +kernel⟩, List.mem_of_getElem? (i := 104) (by decide +kernel), List.mem_of_getElem? (i := 787) (by decide +kernel), List.mem_of_getElem? (i := 788) (by decide +kernel)⟩
theorem lw_p6 : lw_okq (⟨"IceBells$Lake", "dropTop", "()V"⟩, 6) := ⟨⟨by decide +kernel, by decide +kernel⟩, List.mem_of_getElem? (i := 104) (by decide +kernel), List.mem_of_getElem? (i := 795) (by decide +kernel), List.mem_of_getElem? (i := 796) (by decide +kernel)⟩
theorem lw_p7 : lw_okq (⟨"IceBells", "pealSlot", "(I)I"⟩, 11) := ⟨⟨by decide +kernel, by decide +kernel⟩, List.mem_of_getElem? (i := 37) (by decide +kernel), List.mem_of_getElem? (i := 898) (by decide +kernel), List.mem_of_getElem? (i := 899) (by decide +kernel)⟩
theorem lw_p8 : lw_okq (⟨"IceBells$Landscape", "rankOf", "(I)I"⟩, 8) := ⟨⟨by decide +kernel, by decide +kernel⟩, List.mem_of_getElem? (i := 45) (by decide +kernel), List.mem_of_getElem? (i := 949) (by decide +kernel), List.mem_of_getElem? (i := 950) (by decide +kernel)⟩
theorem lw_p9 : lw_okq (⟨"IceBells$Landscape", "ranksBefore", "(II)Z"⟩, 8) := ⟨⟨by decide +kernel, by decide +kernel⟩, List.mem_of_getElem? (i := 45) (by decide +kernel), List.mem_of_getElem? (i := 953) (by decide +kernel), List.mem_of_getElem? (i := 954) (by decide +kernel)⟩
theorem lw_p10 : lw_okq (⟨"IceBells$CommandText", "readCommand", "(LIceBells$Command;)Z"⟩, 5) := ⟨⟨by decide +kernel, by decide +kernel⟩, List.mem_of_getElem? (i := 192) (by decide +kernel), List.mem_of_getElem? (i := 986) (by decide +kernel), List.mem_of_getElem? (i := 987) (by decide +kernel)⟩
theorem lw_p11 : lw_okq (⟨"IceBells$CommandText", "stands", "(C)Z"⟩, 5) := ⟨⟨by decide +kernel, by decide +kernel⟩, List.mem_of_getElem? (i := 192) (by decide +kernel), List.mem_of_getElem? (i := 1035) (by decide +kernel), List.mem_of_getElem? (i := 1036) (by decide +kernel)⟩
theorem lw_p12 : lw_okq (⟨"IceBells$CommandText", "readForm", "(Ljava/lang/String;LIceBells$Command;)Z"⟩, 5) := ⟨⟨by decide +kernel, by decide +kernel⟩, List.mem_of_getElem? (i := 192) (by decide +kernel), List.mem_of_getElem? (i := 1043) (by decide +kernel), List.mem_of_getElem? (i := 1044) (by decide +kernel)⟩
theorem lw_p13 : lw_okq (⟨"IceBells$CommandText", "readPart", "(CLIceBells$Command;)Z"⟩, 5) := ⟨⟨by decide +kernel, by decide +kernel⟩, List.mem_of_getElem? (i := 192) (by decide +kernel), List.mem_of_getElem? (i := 1055) (by decide +kernel), List.mem_of_getElem? (i := 1056) (by decide +kernel)⟩
theorem lw_p14 : lw_okq (⟨"IceBells$CommandText", "readNumber", "(IILIceBells$Command;)Z"⟩, 5) := ⟨⟨by decide +kernel, by decide +kernel⟩, List.mem_of_getElem? (i := 192) (by decide +kernel), List.mem_of_getElem? (i := 1059) (by decide +kernel), List.mem_of_getElem? (i := 1060) (by decide +kernel)⟩
theorem lw_p15 : lw_okq (⟨"IceBells$CommandText", "digitStands", "()Z"⟩, 5) := ⟨⟨by decide +kernel, by decide +kernel⟩, List.mem_of_getElem? (i := 192) (by decide +kernel), List.mem_of_getElem? (i := 1063) (by decide +kernel), List.mem_of_getElem? (i := 1064) (by decide +kernel)⟩
def lw_privs_1 : List (MethodName × Nat) := [(⟨"IceBells$Peals", "countPitches", "([I)V"⟩, 6), (⟨"java/lang/Throwable", "fillInStackTrace", "(I)Ljava/lang/Throwable;"⟩, 6), (⟨"IceBells", "lakeNumbered", "(I)LIceBells$Lake;"⟩, 11), (⟨"IceBells", "lakeWithLayer", "(II)LIceBells$Lake;"⟩, 11), (⟨"IceBells$Lake", "temperatureBeneath", "(I)I"⟩, 6), (⟨"IceBells$Lake", "pushNeighbour", "(I)V"⟩, 6), (⟨"IceBells$Lake", "dropTop", "()V"⟩, 6), (⟨"IceBells", "pealSlot", "(I)I"⟩, 11), (⟨"IceBells$Landscape", "rankOf", "(I)I"⟩, 8), (⟨"IceBells$Landscape", "ranksBefore", "(II)Z"⟩, 8), (⟨"IceBells$CommandText", "readCommand", "(LIceBells$Command;)Z"⟩, 5), (⟨"IceBells$CommandText", "stands", "(C)Z"⟩, 5), (⟨"IceBells$CommandText", "readForm", "(Ljava/lang/String;LIceBells$Command;)Z"⟩, 5), (⟨"IceBells$CommandText", "readPart", "(CLIceBells$Command;)Z"⟩, 5), (⟨"IceBells$CommandText", "readNumber", "(IILIceBells$Command;)Z"⟩, 5), (⟨"IceBells$CommandText", "digitStands", "()Z"⟩, 5)]
theorem lw_r1 : ∀ q ∈ lw_privs_1, lw_okq q := List.forall_mem_cons.mpr ⟨lw_p0, List.forall_mem_cons.mpr ⟨lw_p1, List.forall_mem_cons.mpr ⟨lw_p2, List.forall_mem_cons.mpr ⟨lw_p3, List.forall_mem_cons.mpr ⟨lw_p4, List.forall_mem_cons.mpr ⟨lw_p5, List.forall_mem_cons.mpr ⟨lw_p6, List.forall_mem_cons.mpr ⟨lw_p7, List.forall_mem_cons.mpr ⟨lw_p8, List.forall_mem_cons.mpr ⟨lw_p9, List.forall_mem_cons.mpr ⟨lw_p10, List.forall_mem_cons.mpr ⟨lw_p11, List.forall_mem_cons.mpr ⟨lw_p12, List.forall_mem_cons.mpr ⟨lw_p13, List.forall_mem_cons.mpr ⟨lw_p14, List.forall_mem_cons.mpr ⟨lw_p15, fun _ h => absurd h List.not_mem_nil⟩⟩⟩⟩⟩⟩⟩⟩⟩⟩⟩⟩⟩⟩⟩⟩
theorem lw_p16 : lw_okq (⟨"IceBells$CommandText", "readSign", "(C)Z"⟩, 5) := ⟨⟨by decide +kernel, by decide +kernel⟩, List.mem_of_getElem? (i := 192) (by decide +kernel), List.mem_of_getElem? (i := 1071) (by decide +kernel), List.mem_of_getElem? (i := 1072) (by decide +kernel)⟩
theorem lw_p17 : lw_okq (⟨"IceBellsModel", "goes", "(Z)Z"⟩, 21) := ⟨⟨by decide +kernel, by decide +kernel⟩, List.mem_of_getElem? (i := 1467) (by decide +kernel), List.mem_of_getElem? (i := 1545) (by decide +kernel), List.mem_of_getElem? (i := 1546) (by decide +kernel)⟩
theorem lw_p18 : lw_okq (⟨"IceBellsModel", "holds", "(ZZZZ)Z"⟩, 21) := ⟨⟨by decide +kernel, by decide +kernel⟩, List.mem_of_getElem? (i := 1467) (by decide +kernel), List.mem_of_getElem? (i := 1549) (by decide +kernel), List.mem_of_getElem? (i := 1550) (by decide +kernel)⟩
theorem lw_p19 : lw_okq (⟨"IceBellsModel", "begins", "()V"⟩, 21) := ⟨⟨by decide +kernel, by decide +kernel⟩, List.mem_of_getElem? (i := 1467) (by decide +kernel), List.mem_of_getElem? (i := 1568) (by decide +kernel), List.mem_of_getElem? (i := 1569) (by decide +kernel)⟩
theorem lw_p20 : lw_okq (⟨"IceBellsModel", "adds", "(I)I"⟩, 21) := ⟨⟨by decide +kernel, by decide +kernel⟩, List.mem_of_getElem? (i := 1467) (by decide +kernel), List.mem_of_getElem? (i := 1572) (by decide +kernel), List.mem_of_getElem? (i := 1573) (by decide +kernel)⟩
theorem lw_p21 : lw_okq (⟨"IceBellsModel", "ends", "(I)I"⟩, 21) := ⟨⟨by decide +kernel, by decide +kernel⟩, List.mem_of_getElem? (i := 1467) (by decide +kernel), List.mem_of_getElem? (i := 1579) (by decide +kernel), List.mem_of_getElem? (i := 1580) (by decide +kernel)⟩
theorem lw_p22 : lw_okq (⟨"IceBellsModel", "remembers", "()V"⟩, 21) := ⟨⟨by decide +kernel, by decide +kernel⟩, List.mem_of_getElem? (i := 1467) (by decide +kernel), List.mem_of_getElem? (i := 1583) (by decide +kernel), List.mem_of_getElem? (i := 1584) (by decide +kernel)⟩
theorem lw_p23 : lw_okq (⟨"IceBellsModel", "freezes", "(III)I"⟩, 21) := ⟨⟨by decide +kernel, by decide +kernel⟩, List.mem_of_getElem? (i := 1467) (by decide +kernel), List.mem_of_getElem? (i := 1591) (by decide +kernel), List.mem_of_getElem? (i := 1592) (by decide +kernel)⟩
theorem lw_p24 : lw_okq (⟨"IceBellsModel", "of", "(II)I"⟩, 21) := ⟨⟨by decide +kernel, by decide +kernel⟩, List.mem_of_getElem? (i := 1467) (by decide +kernel), List.mem_of_getElem? (i := 1595) (by decide +kernel), List.mem_of_getElem? (i := 1596) (by decide +kernel)⟩
theorem lw_p25 : lw_okq (⟨"IceBellsModel", "isLake", "(I)Z"⟩, 21) := ⟨⟨by decide +kernel, by decide +kernel⟩, List.mem_of_getElem? (i := 1467) (by decide +kernel), List.mem_of_getElem? (i := 1599) (by decide +kernel), List.mem_of_getElem? (i := 1600) (by decide +kernel)⟩
theorem lw_p26 : lw_okq (⟨"IceBellsModel", "iceOf", "(I)I"⟩, 21) := ⟨⟨by decide +kernel, by decide +kernel⟩, List.mem_of_getElem? (i := 1467) (by decide +kernel), List.mem_of_getElem? (i := 1603) (by decide +kernel), List.mem_of_getElem? (i := 1604) (by decide +kernel)⟩
theorem lw_p27 : lw_okq (⟨"IceBellsModel", "ofLayer", "(III)I"⟩, 21) := ⟨⟨by decide +kernel, by decide +kernel⟩, List.mem_of_getElem? (i := 1467) (by decide +kernel), List.mem_of_getElem? (i := 1607) (by decide +kernel), List.mem_of_getElem? (i := 1608) (by decide +kernel)⟩
theorem lw_p28 : lw_okq (⟨"IceBellsModel", "isLayer", "(II)Z"⟩, 21) := ⟨⟨by decide +kernel, by decide +kernel⟩, List.mem_of_getElem? (i := 1467) (by decide +kernel), List.mem_of_getElem? (i := 1611) (by decide +kernel), List.mem_of_getElem? (i := 1612) (by decide +kernel)⟩
theorem lw_p29 : lw_okq (⟨"IceBellsModel", "airs", "(I)I"⟩, 21) := ⟨⟨by decide +kernel, by decide +kernel⟩, List.mem_of_getElem? (i := 1467) (by decide +kernel), List.mem_of_getElem? (i := 1622) (by decide +kernel), List.mem_of_getElem? (i := 1623) (by decide +kernel)⟩
theorem lw_p30 : lw_okq (⟨"IceBellsModel", "opens", "(II)I"⟩, 21) := ⟨⟨by decide +kernel, by decide +kernel⟩, List.mem_of_getElem? (i := 1467) (by decide +kernel), List.mem_of_getElem? (i := 1630) (by decide +kernel), List.mem_of_getElem? (i := 1631) (by decide +kernel)⟩
theorem lw_p31 : lw_okq (⟨"IceBellsModel", "shuts", "(I)I"⟩, 21) := ⟨⟨by decide +kernel, by decide +kernel⟩, List.mem_of_getElem? (i := 1467) (by decide +kernel), List.mem_of_getElem? (i := 1638) (by decide +kernel), List.mem_of_getElem? (i := 1639) (by decide +kernel)⟩
def lw_privs_2 : List (MethodName × Nat) := [(⟨"IceBells$CommandText", "readSign", "(C)Z"⟩, 5), (⟨"IceBellsModel", "goes", "(Z)Z"⟩, 21), (⟨"IceBellsModel", "holds", "(ZZZZ)Z"⟩, 21), (⟨"IceBellsModel", "begins", "()V"⟩, 21), (⟨"IceBellsModel", "adds", "(I)I"⟩, 21), (⟨"IceBellsModel", "ends", "(I)I"⟩, 21), (⟨"IceBellsModel", "remembers", "()V"⟩, 21), (⟨"IceBellsModel", "freezes", "(III)I"⟩, 21), (⟨"IceBellsModel", "of", "(II)I"⟩, 21), (⟨"IceBellsModel", "isLake", "(I)Z"⟩, 21), (⟨"IceBellsModel", "iceOf", "(I)I"⟩, 21), (⟨"IceBellsModel", "ofLayer", "(III)I"⟩, 21), (⟨"IceBellsModel", "isLayer", "(II)Z"⟩, 21), (⟨"IceBellsModel", "airs", "(I)I"⟩, 21), (⟨"IceBellsModel", "opens", "(II)I"⟩, 21), (⟨"IceBellsModel", "shuts", "(I)I"⟩, 21)]
theorem lw_r2 : ∀ q ∈ lw_privs_2, lw_okq q := List.forall_mem_cons.mpr ⟨lw_p16, List.forall_mem_cons.mpr ⟨lw_p17, List.forall_mem_cons.mpr ⟨lw_p18, List.forall_mem_cons.mpr ⟨lw_p19, List.forall_mem_cons.mpr ⟨lw_p20, List.forall_mem_cons.mpr ⟨lw_p21, List.forall_mem_cons.mpr ⟨lw_p22, List.forall_mem_cons.mpr ⟨lw_p23, List.forall_mem_cons.mpr ⟨lw_p24, List.forall_mem_cons.mpr ⟨lw_p25, List.forall_mem_cons.mpr ⟨lw_p26, List.forall_mem_cons.mpr ⟨lw_p27, List.forall_mem_cons.mpr ⟨lw_p28, List.forall_mem_cons.mpr ⟨lw_p29, List.forall_mem_cons.mpr ⟨lw_p30, List.forall_mem_cons.mpr ⟨lw_p31, fun _ h => absurd h List.not_mem_nil⟩⟩⟩⟩⟩⟩⟩⟩⟩⟩⟩⟩⟩⟩⟩⟩
theorem lw_p32 : lw_okq (⟨"IceBellsModel", "strikes", "(II)I"⟩, 21) := ⟨⟨by decide +kernel, by decide +kernel⟩, List.mem_of_getElem? (i := 1467) (by decide +kernel), List.mem_of_getElem? (i := 1646) (by decide +kernel), List.mem_of_getElem? (i := 1647) (by decide +kernel)⟩
theorem lw_p33 : lw_okq (⟨"IceBellsModel", "pitchOf", "(II)I"⟩, 21) := ⟨⟨by decide +kernel, by decide +kernel⟩, List.mem_of_getElem? (i := 1467) (by decide +kernel), List.mem_of_getElem? (i := 1650) (by decide +kernel), List.mem_of_getElem? (i := 1651) (by decide +kernel)⟩
theorem lw_p34 : lw_okq (⟨"IceBellsModel", "rings", "(III)V"⟩, 21) := ⟨⟨by decide +kernel, by decide +kernel⟩, List.mem_of_getElem? (i := 1467) (by decide +kernel), List.mem_of_getElem? (i := 1654) (by decide +kernel), List.mem_of_getElem? (i := 1655) (by decide +kernel)⟩
theorem lw_p35 : lw_okq (⟨"IceBellsModel", "waits", "(I)I"⟩, 21) := ⟨⟨by decide +kernel, by decide +kernel⟩, List.mem_of_getElem? (i := 1467) (by decide +kernel), List.mem_of_getElem? (i := 1663) (by decide +kernel), List.mem_of_getElem? (i := 1664) (by decide +kernel)⟩
theorem lw_p36 : lw_okq (⟨"IceBellsModel", "passes", "()I"⟩, 21) := ⟨⟨by decide +kernel, by decide +kernel⟩, List.mem_of_getElem? (i := 1467) (by decide +kernel), List.mem_of_getElem? (i := 1667) (by decide +kernel), List.mem_of_getElem? (i := 1668) (by decide +kernel)⟩
theorem lw_p37 : lw_okq (⟨"IceBellsModel", "isOpened", "(I)Z"⟩, 21) := ⟨⟨by decide +kernel, by decide +kernel⟩, List.mem_of_getElem? (i := 1467) (by decide +kernel), List.mem_of_getElem? (i := 1671) (by decide +kernel), List.mem_of_getElem? (i := 1672) (by decide +kernel)⟩
theorem lw_p38 : lw_okq (⟨"IceBellsModel", "warms", "(I)V"⟩, 21) := ⟨⟨by decide +kernel, by decide +kernel⟩, List.mem_of_getElem? (i := 1467) (by decide +kernel), List.mem_of_getElem? (i := 1675) (by decide +kernel), List.mem_of_getElem? (i := 1676) (by decide +kernel)⟩
theorem lw_p39 : lw_okq (⟨"IceBellsModel", "strains", "(I)V"⟩, 21) := ⟨⟨by decide +kernel, by decide +kernel⟩, List.mem_of_getElem? (i := 1467) (by decide +kernel), List.mem_of_getElem? (i := 1679) (by decide +kernel), List.mem_of_getElem? (i := 1680) (by decide +kernel)⟩
theorem lw_p40 : lw_okq (⟨"IceBellsModel", "cracks", "(I)I"⟩, 21) := ⟨⟨by decide +kernel, by decide +kernel⟩, List.mem_of_getElem? (i := 1467) (by decide +kernel), List.mem_of_getElem? (i := 1684) (by decide +kernel), List.mem_of_getElem? (i := 1685) (by decide +kernel)⟩
theorem lw_p41 : lw_okq (⟨"IceBellsModel", "thaws", "(I)V"⟩, 21) := ⟨⟨by decide +kernel, by decide +kernel⟩, List.mem_of_getElem? (i := 1467) (by decide +kernel), List.mem_of_getElem? (i := 1689) (by decide +kernel), List.mem_of_getElem? (i := 1690) (by decide +kernel)⟩
theorem lw_p42 : lw_okq (⟨"IceBellsModel", "asks", "(II)I"⟩, 21) := ⟨⟨by decide +kernel, by decide +kernel⟩, List.mem_of_getElem? (i := 1467) (by decide +kernel), List.mem_of_getElem? (i := 1701) (by decide +kernel), List.mem_of_getElem? (i := 1702) (by decide +kernel)⟩
theorem lw_p43 : lw_okq (⟨"IceBellsModel", "asksLayer", "(III)I"⟩, 21) := ⟨⟨by decide +kernel, by decide +kernel⟩, List.mem_of_getElem? (i := 1467) (by decide +kernel), List.mem_of_getElem? (i := 1713) (by decide +kernel), List.mem_of_getElem? (i := 1714) (by decide +kernel)⟩
theorem lw_p44 : lw_okq (⟨"IceBellsModel", "ofWindow", "(II)I"⟩, 21) := ⟨⟨by decide +kernel, by decide +kernel⟩, List.mem_of_getElem? (i := 1467) (by decide +kernel), List.mem_of_getElem? (i := 1761) (by decide +kernel), List.mem_of_getElem? (i := 1762) (by decide +kernel)⟩
theorem lw_p45 : lw_okq (⟨"IceBellsModel", "ofPeal", "(II)I"⟩, 21) := ⟨⟨by decide +kernel, by decide +kernel⟩, List.mem_of_getElem? (i := 1467) (by decide +kernel), List.mem_of_getElem? (i := 1785) (by decide +kernel), List.mem_of_getElem? (i := 1786) (by decide +kernel)⟩
theorem lw_p46 : lw_okq (⟨"IceBellsModel", "echoes", "()I"⟩, 21) := ⟨⟨by decide +kernel, by decide +kernel⟩, List.mem_of_getElem? (i := 1467) (by decide +kernel), List.mem_of_getElem? (i := 1805) (by decide +kernel), List.mem_of_getElem? (i := 1806) (by decide +kernel)⟩
theorem lw_p47 : lw_okq (⟨"IceBellsModel", "alike", "(I)I"⟩, 21) := ⟨⟨by decide +kernel, by decide +kernel⟩, List.mem_of_getElem? (i := 1467) (by decide +kernel), List.mem_of_getElem? (i := 1809) (by decide +kernel), List.mem_of_getElem? (i := 1810) (by decide +kernel)⟩
def lw_privs_3 : List (MethodName × Nat) := [(⟨"IceBellsModel", "strikes", "(II)I"⟩, 21), (⟨"IceBellsModel", "pitchOf", "(II)I"⟩, 21), (⟨"IceBellsModel", "rings", "(III)V"⟩, 21), (⟨"IceBellsModel", "waits", "(I)I"⟩, 21), (⟨"IceBellsModel", "passes", "()I"⟩, 21), (⟨"IceBellsModel", "isOpened", "(I)Z"⟩, 21), (⟨"IceBellsModel", "warms", "(I)V"⟩, 21), (⟨"IceBellsModel", "strains", "(I)V"⟩, 21), (⟨"IceBellsModel", "cracks", "(I)I"⟩, 21), (⟨"IceBellsModel", "thaws", "(I)V"⟩, 21), (⟨"IceBellsModel", "asks", "(II)I"⟩, 21), (⟨"IceBellsModel", "asksLayer", "(III)I"⟩, 21), (⟨"IceBellsModel", "ofWindow", "(II)I"⟩, 21), (⟨"IceBellsModel", "ofPeal", "(II)I"⟩, 21), (⟨"IceBellsModel", "echoes", "()I"⟩, 21), (⟨"IceBellsModel", "alike", "(I)I"⟩, 21)]
theorem lw_r3 : ∀ q ∈ lw_privs_3, lw_okq q := List.forall_mem_cons.mpr ⟨lw_p32, List.forall_mem_cons.mpr ⟨lw_p33, List.forall_mem_cons.mpr ⟨lw_p34, List.forall_mem_cons.mpr ⟨lw_p35, List.forall_mem_cons.mpr ⟨lw_p36, List.forall_mem_cons.mpr ⟨lw_p37, List.forall_mem_cons.mpr ⟨lw_p38, List.forall_mem_cons.mpr ⟨lw_p39, List.forall_mem_cons.mpr ⟨lw_p40, List.forall_mem_cons.mpr ⟨lw_p41, List.forall_mem_cons.mpr ⟨lw_p42, List.forall_mem_cons.mpr ⟨lw_p43, List.forall_mem_cons.mpr ⟨lw_p44, List.forall_mem_cons.mpr ⟨lw_p45, List.forall_mem_cons.mpr ⟨lw_p46, List.forall_mem_cons.mpr ⟨lw_p47, fun _ h => absurd h List.not_mem_nil⟩⟩⟩⟩⟩⟩⟩⟩⟩⟩⟩⟩⟩⟩⟩⟩
theorem lw_p48 : lw_okq (⟨"IceBellsModel", "put", "(II)I"⟩, 21) := ⟨⟨by decide +kernel, by decide +kernel⟩, List.mem_of_getElem? (i := 1467) (by decide +kernel), List.mem_of_getElem? (i := 1857) (by decide +kernel), List.mem_of_getElem? (i := 1858) (by decide +kernel)⟩
theorem lw_p49 : lw_okq (⟨"IceBellsModel", "writesNumber", "(II)I"⟩, 21) := ⟨⟨by decide +kernel, by decide +kernel⟩, List.mem_of_getElem? (i := 1467) (by decide +kernel), List.mem_of_getElem? (i := 1861) (by decide +kernel), List.mem_of_getElem? (i := 1862) (by decide +kernel)⟩
theorem lw_p50 : lw_okq (⟨"IceBellsModel", "readsAll", "()V"⟩, 21) := ⟨⟨by decide +kernel, by decide +kernel⟩, List.mem_of_getElem? (i := 1467) (by decide +kernel), List.mem_of_getElem? (i := 1877) (by decide +kernel), List.mem_of_getElem? (i := 1878) (by decide +kernel)⟩
theorem lw_p51 : lw_okq (⟨"IceBellsModel", "readsCommand", "()V"⟩, 21) := ⟨⟨by decide +kernel, by decide +kernel⟩, List.mem_of_getElem? (i := 1467) (by decide +kernel), List.mem_of_getElem? (i := 1881) (by decide +kernel), List.mem_of_getElem? (i := 1882) (by decide +kernel)⟩
theorem lw_p52 : lw_okq (⟨"IceBellsModel", "kindHere", "()I"⟩, 21) := ⟨⟨by decide +kernel, by decide +kernel⟩, List.mem_of_getElem? (i := 1467) (by decide +kernel), List.mem_of_getElem? (i := 1885) (by decide +kernel), List.mem_of_getElem? (i := 1886) (by decide +kernel)⟩
theorem lw_p53 : lw_okq (⟨"IceBellsModel", "digit", "()I"⟩, 21) := ⟨⟨by decide +kernel, by decide +kernel⟩, List.mem_of_getElem? (i := 1467) (by decide +kernel), List.mem_of_getElem? (i := 1894) (by decide +kernel), List.mem_of_getElem? (i := 1895) (by decide +kernel)⟩
theorem lw_p54 : lw_okq (⟨"IceBellsModel", "reads", "(II)I"⟩, 21) := ⟨⟨by decide +kernel, by decide +kernel⟩, List.mem_of_getElem? (i := 1467) (by decide +kernel), List.mem_of_getElem? (i := 1898) (by decide +kernel), List.mem_of_getElem? (i := 1899) (by decide +kernel)⟩
theorem lw_p55 : lw_okq (⟨"IceBellsModel", "letterHere", "()I"⟩, 21) := ⟨⟨by decide +kernel, by decide +kernel⟩, List.mem_of_getElem? (i := 1467) (by decide +kernel), List.mem_of_getElem? (i := 1902) (by decide +kernel), List.mem_of_getElem? (i := 1903) (by decide +kernel)⟩
theorem lw_p56 : lw_okq (⟨"IceBellsModel", "degrees", "()I"⟩, 21) := ⟨⟨by decide +kernel, by decide +kernel⟩, List.mem_of_getElem? (i := 1467) (by decide +kernel), List.mem_of_getElem? (i := 1906) (by decide +kernel), List.mem_of_getElem? (i := 1907) (by decide +kernel)⟩
theorem lw_p57 : lw_okq (⟨"IceBellsModel", "number", "()I"⟩, 21) := ⟨⟨by decide +kernel, by decide +kernel⟩, List.mem_of_getElem? (i := 1467) (by decide +kernel), List.mem_of_getElem? (i := 1910) (by decide +kernel), List.mem_of_getElem? (i := 1911) (by decide +kernel)⟩
theorem lw_p58 : lw_okq (⟨"IceBellsModel", "sign", "(I)V"⟩, 21) := ⟨⟨by decide +kernel, by decide +kernel⟩, List.mem_of_getElem? (i := 1467) (by decide +kernel), List.mem_of_getElem? (i := 1914) (by decide +kernel), List.mem_of_getElem? (i := 1915) (by decide +kernel)⟩
theorem lw_p59 : lw_okq (⟨"IceBellsModel", "does", "(I)I"⟩, 21) := ⟨⟨by decide +kernel, by decide +kernel⟩, List.mem_of_getElem? (i := 1467) (by decide +kernel), List.mem_of_getElem? (i := 1918) (by decide +kernel), List.mem_of_getElem? (i := 1919) (by decide +kernel)⟩
theorem lw_p60 : lw_okq (⟨"IceBellsModel", "letterFor", "(I)I"⟩, 21) := ⟨⟨by decide +kernel, by decide +kernel⟩, List.mem_of_getElem? (i := 1467) (by decide +kernel), List.mem_of_getElem? (i := 1922) (by decide +kernel), List.mem_of_getElem? (i := 1923) (by decide +kernel)⟩
def lw_privs_4 : List (MethodName × Nat) := [(⟨"IceBellsModel", "put", "(II)I"⟩, 21), (⟨"IceBellsModel", "writesNumber", "(II)I"⟩, 21), (⟨"IceBellsModel", "readsAll", "()V"⟩, 21), (⟨"IceBellsModel", "readsCommand", "()V"⟩, 21), (⟨"IceBellsModel", "kindHere", "()I"⟩, 21), (⟨"IceBellsModel", "digit", "()I"⟩, 21), (⟨"IceBellsModel", "reads", "(II)I"⟩, 21), (⟨"IceBellsModel", "letterHere", "()I"⟩, 21), (⟨"IceBellsModel", "degrees", "()I"⟩, 21), (⟨"IceBellsModel", "number", "()I"⟩, 21), (⟨"IceBellsModel", "sign", "(I)V"⟩, 21), (⟨"IceBellsModel", "does", "(I)I"⟩, 21), (⟨"IceBellsModel", "letterFor", "(I)I"⟩, 21)]
theorem lw_r4 : ∀ q ∈ lw_privs_4, lw_okq q := List.forall_mem_cons.mpr ⟨lw_p48, List.forall_mem_cons.mpr ⟨lw_p49, List.forall_mem_cons.mpr ⟨lw_p50, List.forall_mem_cons.mpr ⟨lw_p51, List.forall_mem_cons.mpr ⟨lw_p52, List.forall_mem_cons.mpr ⟨lw_p53, List.forall_mem_cons.mpr ⟨lw_p54, List.forall_mem_cons.mpr ⟨lw_p55, List.forall_mem_cons.mpr ⟨lw_p56, List.forall_mem_cons.mpr ⟨lw_p57, List.forall_mem_cons.mpr ⟨lw_p58, List.forall_mem_cons.mpr ⟨lw_p59, List.forall_mem_cons.mpr ⟨lw_p60, fun _ h => absurd h List.not_mem_nil⟩⟩⟩⟩⟩⟩⟩⟩⟩⟩⟩⟩⟩
def lw_privs : List (MethodName × Nat) := lw_privs_1 ++ (lw_privs_2 ++ (lw_privs_3 ++ (lw_privs_4)))
def lw_tbl : List Cond := k2_sels lw_privs ++ tables_1
theorem lw_privs_ok : ∀ q ∈ lw_privs, lw_okq q := by
  show ∀ q ∈ lw_privs_1 ++ (lw_privs_2 ++ (lw_privs_3 ++ (lw_privs_4))), lw_okq q
  exact List.forall_mem_append.mpr ⟨lw_r1, List.forall_mem_append.mpr ⟨lw_r2, List.forall_mem_append.mpr ⟨lw_r3, lw_r4⟩⟩⟩
/-- the streams that the claim lets the run draw from -/
abbrev lw_cs : List Choice := [Jvm.Choice.named "NaN.bits"]
theorem lw_bits : nanBits ∈ lw_cs := by first | decide | exact List.mem_cons_self | simp [lw_cs, nanBits]
end
section
/-! ===== BEGIN words of one list among another's, by their places ===== -/
theorem goodIn_r {big : List Cond} (ws : List Cond) (ps : List Nat) (hp : ws = ps.filterMap (fun i => big[i]?)) (h : ws.all goodWord = true) : GoodIn big ws := by
  intro w hw
  have h1 := List.all_eq_true.mp h w hw
  rw [hp] at hw
  obtain ⟨i, -, hi⟩ := List.mem_filterMap.mp hw
  have hm : w ∈ big := by first | exact List.mem_of_getElem? hi | exact List.getElem?_mem hi
  exact ⟨hm, good_of_word h1⟩
theorem goodIn_app {big a b : List Cond} (ha : GoodIn big a) (hb : GoodIn big b) : GoodIn big (a ++ b) := fun w h => (List.mem_append.mp h).elim (ha w) (hb w)
theorem goodIn_ca {big a b : List Cond} {c : Cond} (ha : GoodIn big (c :: a)) (hb : GoodIn big b) : GoodIn big (c :: (a ++ b)) := fun w h => (List.mem_cons.mp h).elim (fun e => ha w (List.mem_cons.mpr (Or.inl e))) (fun h => (List.mem_append.mp h).elim (fun h => ha w (List.mem_cons.mpr (Or.inr h))) (hb w))
theorem goodIn_sub {big ws : List Cond} (hm : ∀ w ∈ ws, w ∈ big) (h : ws.all goodWord = true) : GoodIn big ws := fun w hw => ⟨hm w hw, good_of_word (List.all_eq_true.mp h w hw)⟩
/-! ===== END ===== -/

/-! ===== BEGIN exceptions that leave a method, and their catching by the caller (launches without stack traces) ===== -/
section VXA
/-! The laws vx_back, vx_callV, vx_callS, vx_callSW, vx_throw0, vx_throwS follow proofs of the library, with one case more: JvmDerived/Free/Laws.lean (Back.of_free), Shelf42/LK1.lean (callV, callS), Shelf/KitTraced.lean (throwNew0V, throwNewS). -/
/-- where a method has thrown q: the class by its name, the cell, what was written, the world -/
def vx_T (XC : String → State → State → Prop) (st : State) (q : Addr) (t : State) (mc ms : Nat) (free : Addr → Prop) : Prop :=
  ∃ (E : String) (ce : Cell) (L : List Loc), XC E st t ∧ t.heap[q]? = some ce ∧ ce.vm = .none ∧ st.vm.findClass E = some ce.cls ∧ st.WarmedH t.vm ∧ st.sameButNew ({ t with vm := st.vm } : State) L mc ms ∧ ∀ z ∈ L, free z.base
def vx_Q (Qc : Array Value → State → Outcome → State → Prop) (XC : String → State → State → Prop) (mc ms : Nat) (free : Addr → Prop) : Array Value → State → Outcome → State → Prop := fun a st o t =>
  (Qc a st o t ∧ ∃ L, FrameEnd st o t L mc ms ∧ ∀ q ∈ L, free q.base) ∨ ∃ q, o = .threw q ∧ vx_T XC st q t mc ms free
/-- a callee that returns or throws -/
def vx_Met (l : Launch) (y : MethodName) (ws : List Cond) (rm : Room) (Pc : Array Value → State → Prop) (Qc : Array Value → State → Outcome → State → Prop) (XC : String → State → State → Prop) (mc ms : Nat) (free : Addr → Prop) : Prop :=
  MetFree l y (headSpec ws rm) Pc (fun _ _ _ _ _ => True) (vx_Q Qc XC mc ms free)
def vx_Post (XC : String → State → State → Prop) (mc ms : Nat) (free : Addr → Prop) : Pt → Array Value → Addr → Pt → Prop := fun A a q B =>
  ∃ (g : JFrame) (mk : MethodId) (t : State) (L : List Loc) (E : String) (ce : Cell), B.U.heap = t.heap ∧ B.U.vm = t.vm ∧ XC E (A.U.calling g mk a) t ∧ t.heap[q]? = some ce ∧ ce.vm = .none ∧ A.U.vm.findClass E = some ce.cls ∧ B.locs = A.locs ++ L ∧ (∀ z ∈ L, free z.base) ∧ B.cells = A.cells + mc ∧ B.slots = A.slots + ms
def vx_Back (l : Launch) (R : Room) (p : Program) (e : Env) (below : List Frame) (s : State) (sargs : Array Value) (y : MethodName) (len W9 : Nat)
    (Pre : Pt → Array Value → Prop) (Post : Pt → Array Value → Option Value → Pt → Prop) (PostX : Pt → Array Value → Addr → Pt → Prop) : Prop :=
  ∀ (m : MethodId) (meth : Method) (c : Code) (A : Pt) (g : JFrame) (ig : Instr) (mk : MethodId) (a : Array Value),
    Stand p l e R s m sargs below meth c A.U A.locs A.cells A.slots → g.method = m → g.locals.size = c.maxLocals → decode c.code g.pc = .ok (ig, len) →
    2 * g.monitorRoom + (g.stack.map fun v => v.category).sum ≤ W9 → A.U.methodNamed? y = some mk → Pre A a →
    (∃ (v : Option Value) (B : Pt), Stand p l e R s m sargs below meth c B.U B.locs B.cells B.slots ∧ Post A a v B ∧
      Steps p.tables e below (doInvoke e (A.U.setTop g) [] mk a).1 (B.U.setTop { g with pc := g.pc + len, stack := v.toList ++ g.stack })) ∨
    (∃ (q : Addr) (B : Pt), Stand p l e R s m sargs below meth c B.U B.locs B.cells B.slots ∧ PostX A a q B ∧
      Steps p.tables e below (doInvoke e (A.U.setTop g) [] mk a).1 ((B.U.setTop g).pushFrame (.throwing q)))
section Payer
variable {l : Launch} {R : Room} {p : Program} {e : Env} {below : List Frame} {s : State} {sargs : Array Value} {y : MethodName} {len W9 : Nat}
theorem vx_back {ws : List Cond} {rm : Room} {Pc : Array Value → State → Prop} {Qc : Array Value → State → Outcome → State → Prop} {XC : String → State → State → Prop} {mc ms : Nat} {free : Addr → Prop} {bytes : ByteArray} {maxL : Nat} {ret : Option FieldType}
    (hM : vx_Met l y ws rm Pc Qc XC mc ms free) (hblind : FrameBlind Pc) (hrc : rm.cells = mc) (hrs : rm.slots = ms)
    (hframes : rm.frames + 1 ≤ R.frames) (hlocals : W9 + (maxL + 11) + rm.locals ≤ R.locals)
    (hws : ∀ w ∈ ws, ∀ a' U, s.WarmedH U.vm → w.before a' U = true) (hcode : Cond.code y bytes maxL ret ∈ ws) (hinit : ∀ a' U, s.WarmedH U.vm → (Cond.initialized y.cls).before a' U = true) :
    vx_Back l R p e below s sargs y len W9 (PreOf R mc ms Pc) (PostOf Qc mc ms free) (vx_Post XC mc ms free) := by
  intro m meth c A g ig mk a X hg hsize hdg hW hn hp
  have h1 : (headSpec ws rm).pre.before a A.U = true := atoms_intro fun w hw => hws w hw _ _ X.warmed
  have h2 : (Cond.code y bytes maxL ret).before a A.U = true := hws _ hcode _ _ X.warmed
  have h3 : (Cond.initialized y.cls).before a A.U = true := hinit _ _ X.warmed
  have h4 : A.cells + (headSpec ws rm).room.cells ≤ R.cells := by rw [show (headSpec ws rm).room.cells = mc from hrc]; exact hp.1
  have h5 : A.slots + (headSpec ws rm).room.slots ≤ R.slots := by rw [show (headSpec ws rm).room.slots = ms from hrs]; exact hp.2.1
  have hPc : Pc a (A.U.calling g mk a) := hblind _ _ _ _ hp.2.2
  obtain ⟨U, Ls, c0, s0⟩ := A
  dsimp only [Pt.U, Pt.locs, Pt.cells, Pt.slots] at h1 h2 h3 h4 h5 X hn hPc ⊢
  obtain ⟨methY, cY, hmY, hcY, -, hlY, -, -, -, -⟩ := Cond.code_spec hn h2
  obtain ⟨kY, hkY, -⟩ := className_of_methodNamed hn
  have hinitY : kY.init = .initialized := Cond.initialized_spec (findClass_of_methodNamed hn) hkY h3
  have h : At U g.method c below := by rw [hg]; exact X.here
  have hlocals9 : W9 + (maxL + 11) + (headSpec ws rm).room.locals ≤ R.locals := hlocals
  have happ : (headSpec ws rm).appliesLoose y e.platform (U.calling g mk a) = true :=
    Spec.appliesLoose_calling (g := g) h hdg hn hkY hinitY
      (X.room_calling (g := g) (R' := (headSpec ws rm).room) hsize hmY hcY hframes (by rw [hlY]; omega) h4 h5) h1
  obtain ⟨mid, hmid⟩ := h.above
  have hfr : (U.setTop g).frames = (.java g :: mid) ++ below := by rw [State.frames_setTop' g h.top, hmid]; rfl
  obtain ⟨o, s₂, hsteps, -, hend, hq⟩ := Steps.callFree hM p X.admits X.cas X.clock (acts := []) hfr happ hPc trivial
  have hq' : vx_Q Qc XC mc ms free a (U.calling g mk a) o s₂ := hq
  rw [State.frames_setTop' g h.top] at hend
  obtain ⟨g₀, hg0⟩ := Option.isSome_iff_exists.mp h.top
  obtain ⟨r, hr⟩ := State.topJava?_eq_some.mp hg0
  have hr' : (({ U with heap := s₂.heap, slotsUsed := s₂.slotsUsed } : State).setVm s₂.vm).frames = .java g₀ :: r := hr
  rcases hq' with ⟨hqc, L, hfe, hL⟩ | ⟨q, rfl, E, ce, L, hx, hce, hcv, hcl, hW₂, hsm, hL⟩
  · obtain ⟨⟨v, rfl⟩, hW₂, e2, q2, q3, q4, q5, q6⟩ := id hfe
    have e3 : s₂ = ({ (U.calling g mk a).setFrames s₂.frames with heap := s₂.heap, slotsUsed := s₂.slotsUsed } : State).setVm s₂.vm := by
      have : s₂ = ({ s₂ with vm := (U.calling g mk a).vm } : State).setVm s₂.vm := rfl
      rw [e2] at this
      exact this
    obtain ⟨c₂, i₂, len₂, hc₂, hd₂, hf₂⟩ := hend
    have hW' : U.WarmedH s₂.vm := hW₂
    have hcc : c₂ = c := by
      have h1 : s₂.code? g.method = U.code? g.method := by
        rw [State.code?_eq, State.code?_eq, hW'.alike.method?]
      exact Option.some.inj (hc₂.symm.trans (h1.trans h.code))
    subst hcc
    have hlen : len₂ = len := by rw [hdg] at hd₂; cases hd₂; rfl
    subst hlen
    have hs₂ : s₂ = (({ U with heap := s₂.heap, slotsUsed := s₂.slotsUsed } : State).setVm s₂.vm).setTop { g with pc := g.pc + len₂, stack := v.toList ++ g.stack } := by
      refine e3.trans ?_
      rw [hf₂, State.calling_eq h.top, State.setFrames_setFrames, State.setTop_of_frames _ hr', hr]
      rfl
    have hsame : U.sameButNew ({ U with heap := s₂.heap, slotsUsed := s₂.slotsUsed } : State) L mc ms := by
      refine ⟨?_, q2, q3, q4, q5, q6⟩
      obtain ⟨t, ht, -⟩ := State.frames_cons hr
      show ({ U with heap := s₂.heap, slotsUsed := s₂.slotsUsed } : State) = { U.setFrames U.frames with heap := s₂.heap, slotsUsed := s₂.slotsUsed }
      rw [State.setFrames_self ht]
    subst hg
    refine Or.inl ⟨v, ⟨(({ U with heap := s₂.heap, slotsUsed := s₂.slotsUsed } : State).setVm s₂.vm), Ls ++ L, c0 + mc, s0 + ms⟩,
      ⟨X.admits, X.cas, X.clock, X.frames, X.room, X.hears, X.method, X.code, (X.here.setHeapUsed s₂.heap s₂.slotsUsed).setVm hW'.alike, X.tail, State.WarmedH.trans X.warmed hW', X.limits, X.bytes, X.same.trans (hsame.setVm s.vm)⟩,
      ⟨g, mk, s₂, L, rfl, rfl, hqc, rfl, hL, rfl, rfl⟩, ?_⟩
    show Steps p.tables e below _ ((({ U with heap := s₂.heap, slotsUsed := s₂.slotsUsed } : State).setVm s₂.vm).setTop { g with pc := g.pc + len₂, stack := v.toList ++ g.stack })
    rw [← hs₂]
    exact hsteps
  · obtain ⟨e2, q2, q3, q4, q5, q6⟩ := id hsm
    have e3 : s₂ = ({ (U.calling g mk a).setFrames s₂.frames with heap := s₂.heap, slotsUsed := s₂.slotsUsed } : State).setVm s₂.vm := by
      have : s₂ = ({ s₂ with vm := (U.calling g mk a).vm } : State).setVm s₂.vm := rfl
      rw [e2] at this
      exact this
    have hf₂ : s₂.frames = .throwing q :: .java g :: U.frames.tail := hend
    have hW' : U.WarmedH s₂.vm := hW₂
    have hs₂ : s₂ = ((({ U with heap := s₂.heap, slotsUsed := s₂.slotsUsed } : State).setVm s₂.vm).setTop g).pushFrame (.throwing q) := by
      refine e3.trans ?_
      rw [hf₂, State.calling_eq h.top, State.setFrames_setFrames, State.pushFrame, State.frames_setTop _ hr', State.setTop_of_frames _ hr', State.setFrames_setFrames, hr]
      rfl
    have hsame : U.sameButNew ({ U with heap := s₂.heap, slotsUsed := s₂.slotsUsed } : State) L mc ms := by
      refine ⟨?_, q2, q3, q4, q5, q6⟩
      obtain ⟨t, ht, -⟩ := State.frames_cons hr
      show ({ U with heap := s₂.heap, slotsUsed := s₂.slotsUsed } : State) = { U.setFrames U.frames with heap := s₂.heap, slotsUsed := s₂.slotsUsed }
      rw [State.setFrames_self ht]
    subst hg
    refine Or.inr ⟨q, ⟨(({ U with heap := s₂.heap, slotsUsed := s₂.slotsUsed } : State).setVm s₂.vm), Ls ++ L, c0 + mc, s0 + ms⟩,
      ⟨X.admits, X.cas, X.clock, X.frames, X.room, X.hears, X.method, X.code, (X.here.setHeapUsed s₂.heap s₂.slotsUsed).setVm hW'.alike, X.tail, State.WarmedH.trans X.warmed hW', X.limits, X.bytes, X.same.trans (hsame.setVm s.vm)⟩,
      ⟨g, mk, s₂, L, E, ce, rfl, rfl, hx, hce, hcv, hcl, rfl, hL, rfl, rfl⟩, ?_⟩
    show Steps p.tables e below _ (((({ U with heap := s₂.heap, slotsUsed := s₂.slotsUsed } : State).setVm s₂.vm).setTop g).pushFrame (.throwing q))
    rw [← hs₂]
    exact hsteps
end Payer
section Calls
variable {p : Program} {l : Launch} {e : Env} {R : Room} {s : State} {m : MethodId} {args : Array Value} {below : List Frame} {meth : Method} {c : Code} {T : State} {locs : List Loc} {cells slots : Nat}
theorem vx_callV (X : Stand p l e R s m args below meth c T locs cells slots) (hexec : p.tables.exec = Jvm.exec) {own C : String} {index : Nat} {y : MethodName} {bytes : ByteArray} {maxL : Nat} {ret : Option FieldType}
    (hown : s.vm.findClass own = some m.cls) (hlink : (Cond.methodLink own index y).before args s = true) (hinst : (Cond.instanceMethod y).before args s = true) (hsel : (Cond.selects C y y).before args s = true)
    (hcode : (Cond.code y bytes maxL ret).before args s = true) (hy : y.cls ≠ "java/lang/invoke/MethodHandle" ∧ y.cls ≠ "java/lang/invoke/VarHandle")
    {W9 : Nat} {Pre : Pt → Array Value → Prop} {Post : Pt → Array Value → Option Value → Pt → Prop} {PostX : Pt → Array Value → Addr → Pt → Prop} (hK : vx_Back l R p e below s args y 3 W9 Pre Post PostX)
    {b : Addr} {cellB : Cell} (hcell : T.heap[b]? = some cellB) (hobj : cellB.vm.isStatics = false) (hcls : s.vm.findClass C = some cellB.cls)
    {g : JFrame} (hg : g.method = m) (hsize : g.locals.size = c.maxLocals) {argsL rest : List Value} (hlen : ∀ sig, parseMethodDescriptor y.desc = some sig → argsL.length = sig.parameters.length)
    (hstack : g.stack = argsL.reverse ++ .ref b :: rest) (hW : 2 * g.monitorRoom + (rest.map fun v => v.category).sum ≤ W9) (hdg : decode c.code g.pc = .ok (.invokevirtual index, 3))
    (hpre : ∀ vm₁, s.WarmedH vm₁ → Pre ⟨T.setVm vm₁, locs, cells, slots⟩ (Value.ref b :: argsL).toArray) :
    (∃ (v : Option Value) (vm₁ : Vm) (B : Pt), s.WarmedH vm₁ ∧ Stand p l e R s m args below meth c B.U B.locs B.cells B.slots ∧ Post ⟨T.setVm vm₁, locs, cells, slots⟩ (Value.ref b :: argsL).toArray v B ∧
      ∀ target, Steps p.tables e below (B.U.setTop { g with pc := g.pc + 3, stack := v.toList ++ rest }) target → Steps p.tables e below (T.setTop g) target) ∨
    (∃ (q : Addr) (vm₁ : Vm) (B : Pt), s.WarmedH vm₁ ∧ Stand p l e R s m args below meth c B.U B.locs B.cells B.slots ∧ PostX ⟨T.setVm vm₁, locs, cells, slots⟩ (Value.ref b :: argsL).toArray q B ∧
      Steps p.tables e below (T.setTop g) ((B.U.setTop { g with stack := rest }).pushFrame (.throwing q))) := by
  obtain ⟨mk, methM, hnamed, hmethM, hstM, habM⟩ := Cond.instanceMethod_spec hinst
  obtain ⟨methM', cM, hmethM', -, -, -, -, -, -, hsigM⟩ := Cond.code_spec hnamed hcode
  cases hmethM.symm.trans hmethM'
  obtain ⟨c2, r2, m2, q1, q2, q3, q4, kP, hkP, hkPi⟩ := Cond.selects_spec hsel
  cases hcls.symm.trans q1
  cases (State.methodFound?_of_named hnamed hy).symm.trans q2
  cases hnamed.symm.trans q3
  have hselP : selectMethod e.platform s.vm cellB.cls mk = .method mk := by rw [Launch.admits_selectMethod X.admits]; exact q4
  obtain ⟨vm₁, X₁, hstep₁⟩ := X.invokevirtual hexec hown hlink hnamed hmethM hstM hkP hkPi hy (a := b) (cell := cellB) hcell
    (fun z h => by rw [h] at hobj; cases hobj) hselP hmethM habM hkP hkPi (g := g) hg (argsL := argsL) (rest := rest) (hlen _ hsigM) hstack hdg
  rcases hK m meth c ⟨T.setVm vm₁, locs, cells, slots⟩ { g with stack := rest } (.invokevirtual index) mk (Value.ref b :: argsL).toArray X₁ hg hsize hdg hW (X₁.named hnamed) (hpre vm₁ X₁.warmed) with ⟨v, B, X', hpost, hsteps⟩ | ⟨q, B, X', hpost, hsteps⟩
  · exact Or.inl ⟨v, vm₁, B, X₁.warmed, X', hpost, fun target h => hstep₁ _ fun acts => by rw [doInvoke_state]; exact hsteps.trans h⟩
  · exact Or.inr ⟨q, vm₁, B, X₁.warmed, X', hpost, hstep₁ _ fun acts => by rw [doInvoke_state]; exact hsteps⟩
theorem vx_callS (X : Stand p l e R s m args below meth c T locs cells slots) (hexec : p.tables.exec = Jvm.exec) {own : String} {index : Nat} {y : MethodName} {bytes : ByteArray} {maxL : Nat} {ret : Option FieldType}
    (hown : s.vm.findClass own = some m.cls) (hlink : (Cond.methodLink own index y).before args s = true) (hstat : (Cond.static y).before args s = true) (hinit : (Cond.initialized y.cls).before args s = true)
    (hcode : (Cond.code y bytes maxL ret).before args s = true) (hy : y.cls ≠ "java/lang/invoke/MethodHandle" ∧ y.cls ≠ "java/lang/invoke/VarHandle")
    {W9 : Nat} {Pre : Pt → Array Value → Prop} {Post : Pt → Array Value → Option Value → Pt → Prop} {PostX : Pt → Array Value → Addr → Pt → Prop} (hK : vx_Back l R p e below s args y 3 W9 Pre Post PostX)
    {g : JFrame} (hg : g.method = m) (hsize : g.locals.size = c.maxLocals) {argsL rest : List Value} (hlen : ∀ sig, parseMethodDescriptor y.desc = some sig → argsL.length = sig.parameters.length)
    (hstack : g.stack = argsL.reverse ++ rest) (hW : 2 * g.monitorRoom + (rest.map fun v => v.category).sum ≤ W9) (hdg : decode c.code g.pc = .ok (.invokestatic index, 3))
    (hpre : ∀ vm₁, s.WarmedH vm₁ → Pre ⟨T.setVm vm₁, locs, cells, slots⟩ argsL.toArray) :
    (∃ (v : Option Value) (vm₁ : Vm) (B : Pt), s.WarmedH vm₁ ∧ Stand p l e R s m args below meth c B.U B.locs B.cells B.slots ∧ Post ⟨T.setVm vm₁, locs, cells, slots⟩ argsL.toArray v B ∧
      ∀ target, Steps p.tables e below (B.U.setTop { g with pc := g.pc + 3, stack := v.toList ++ rest }) target → Steps p.tables e below (T.setTop g) target) ∨
    (∃ (q : Addr) (vm₁ : Vm) (B : Pt), s.WarmedH vm₁ ∧ Stand p l e R s m args below meth c B.U B.locs B.cells B.slots ∧ PostX ⟨T.setVm vm₁, locs, cells, slots⟩ argsL.toArray q B ∧
      Steps p.tables e below (T.setTop g) ((B.U.setTop { g with stack := rest }).pushFrame (.throwing q))) := by
  obtain ⟨mk, hnamed⟩ := Cond.code_named hcode
  obtain ⟨methM, cM, hmethM, -, -, -, -, -, -, hsigM⟩ := Cond.code_spec hnamed hcode
  have hstatic : methM.isStatic = true := Cond.static_spec hnamed hmethM hstat
  obtain ⟨kP, hkP, -⟩ := className_of_methodNamed hnamed
  have hinitP : kP.init = .initialized := Cond.initialized_spec (findClass_of_methodNamed hnamed) hkP hinit
  obtain ⟨vm₁, X₁, hstep₁⟩ := X.invokestatic hexec hown hlink hnamed hmethM hstatic hkP hinitP hy (g := g) hg (argsL := argsL) (rest := rest) (hlen _ hsigM) hstack hdg
  rcases hK m meth c ⟨T.setVm vm₁, locs, cells, slots⟩ { g with stack := rest } (.invokestatic index) mk argsL.toArray X₁ hg hsize hdg hW (X₁.named hnamed) (hpre vm₁ X₁.warmed) with ⟨v, B, X', hpost, hsteps⟩ | ⟨q, B, X', hpost, hsteps⟩
  · exact Or.inl ⟨v, vm₁, B, X₁.warmed, X', hpost, fun target h => hstep₁ _ fun acts => by rw [doInvoke_state]; exact hsteps.trans h⟩
  · exact Or.inr ⟨q, vm₁, B, X₁.warmed, X', hpost, hstep₁ _ fun acts => by rw [doInvoke_state]; exact hsteps⟩
end Calls
theorem vx_cls {s : State} {T : State} {vm₁ : Vm} {E : String} {k : ClassId} (hW : s.WarmedH vm₁) (h : (T.setVm vm₁).vm.findClass E = some k) : s.vm.findClass E = some k := by
  have h1 : vm₁.findClass E = some k := h
  rw [hW.alike.findClass] at h1
  exact h1
/-- the method's frame g, with q thrown over it -/
def vx_W (p : Program) (l : Launch) (e : Env) (R : Room) (s : State) (m : MethodId) (args : Array Value) (below : List Frame) (meth : Method) (c : Code) (H : Heap) (locs : List Loc) (cells slots : Nat) (Q : State → Prop) (g : JFrame) (q : Addr) : Prop :=
  ∀ T : State, T.heap = H → Stand p l e R s m args below meth c T locs cells slots → ∃ t, Steps p.tables e below ((T.setTop g).pushFrame (.throwing q)) t ∧ Q t
def vx_Run (p : Program) (l : Launch) (e : Env) (R : Room) (s : State) (m : MethodId) (args : Array Value) (below : List Frame) (meth : Method) (c : Code) (H : Heap) (locs : List Loc) (cells slots mc ms : Nat) (g : JFrame) (rest : List Value) (Qa : State → Outcome → State → Prop) (XC : String → State → State → Prop) (free : Addr → Prop) : Prop :=
  ∀ T : State, T.heap = H → Stand p l e R s m args below meth c T locs cells slots →
    (∃ (v : Option Value) (st₀ t T' : State) (L : List Loc), st₀.heap = H ∧ Stand p l e R s m args below meth c T' (locs ++ L) (cells + mc) (slots + ms) ∧ (∀ q ∈ L, free q.base) ∧ T'.heap = t.heap ∧ T'.vm = t.vm ∧ Qa st₀ (.returned v) t ∧
      Goes p e below T g T' { g with pc := g.pc + 3, stack := v.toList ++ rest }) ∨
    (∃ (q : Addr) (st₀ t T' : State) (L : List Loc) (E : String) (ce : Cell), st₀.heap = H ∧ Stand p l e R s m args below meth c T' (locs ++ L) (cells + mc) (slots + ms) ∧ (∀ z ∈ L, free z.base) ∧ T'.heap = t.heap ∧ T'.vm = t.vm ∧ XC E st₀ t ∧ t.heap[q]? = some ce ∧ ce.vm = .none ∧ s.vm.findClass E = some ce.cls ∧
      Steps p.tables e below (T.setTop g) ((T'.setTop { g with stack := rest }).pushFrame (.throwing q)))
def vx_X {S : Type} (px : S → Prop) (B : String → S → State → Prop) (A : Nat → Prop) : String → State → State → Prop := fun E st t => ∃ u : S, px u ∧ B E u t ∧ va_F A st t
section Runs
variable {p : Program} {l : Launch} {e : Env} {R : Room} {s : State} {m : MethodId} {args : Array Value} {below : List Frame} {meth : Method} {c : Code} {H : Heap} {locs : List Loc} {cells slots : Nat}
variable {y : MethodName} {bytes cc : ByteArray} {maxL nL mc ms n index : Nat} {ret : Option FieldType} {ws : List Cond} {rm : Room} {Pc : Array Value → State → Prop} {Qc : Array Value → State → Outcome → State → Prop} {XC : String → State → State → Prop} {free : Addr → Prop} {Ts : List Cond} {own C : String} {b : Addr} {As rest : List Value} {g : JFrame}
theorem vx_callBack (cb : CallB R s args own index y bytes maxL ret ws rm mc ms n) (hM : vx_Met l y ws rm Pc Qc XC mc ms free) (hbl : FrameBlind Pc) : vx_Back l R p e below s args y 3 8 (PreOf R mc ms Pc) (PostOf Qc mc ms free) (vx_Post XC mc ms free) := by
  obtain ⟨hrc, hrs, hfr, hlo, hws, hcw, -, hini, -⟩ := cb
  exact vx_back (bytes := bytes) (maxL := maxL) (ret := ret) hM hbl hrc hrs hfr hlo hws hcw (fun a' U hW => word_at hW (Or.inl (by first | rfl | simp [Cond.onTables, Cond.keeps, Cond.steady])) hini)
theorem vx_runV (S : CallFix p m c cc nL s args Ts own) (hM : vx_Met l y ws rm Pc Qc XC mc ms free) (cw : CallW R s args own C index y bytes maxL ret ws rm mc ms n) (hp : PreV s H C b Pc As)
    (hg : g.method = m) (hn : As.length = n) (hsize : g.locals.size = nL) (hstack : g.stack = As.reverse ++ .ref b :: rest) (hW : 2 * g.monitorRoom + (rest.map fun v => v.category).sum ≤ 8) (hdg : decode cc g.pc = .ok (.invokevirtual index, 3)) (hf : cells + mc ≤ R.cells ∧ slots + ms ≤ R.slots) :
    vx_Run p l e R s m args below meth c H locs cells slots mc ms g rest (Qc (Value.ref b :: As).toArray) XC free := by
  have hK : vx_Back l R p e below s args y 3 8 (PreOf R mc ms Pc) (PostOf Qc mc ms free) (vx_Post XC mc ms free) := vx_callBack cw.1 hM hp.1
  obtain ⟨⟨-, -, -, -, -, -, hcode, -, hy, hlen, hl⟩, hin, hse⟩ := cw
  obtain ⟨hx, hb, hml, ho, -⟩ := S
  obtain ⟨-, ⟨cellB, hcB, hoB, hclB⟩, hPc⟩ := hp
  intro T hT X
  rcases vx_callV X hx (C := C) (bytes := bytes) (maxL := maxL) (ret := ret) ho hl hin hse hcode hy hK (by rw [hT]; exact hcB) hoB hclB hg (hsize.trans hml.symm) (argsL := As) (rest := rest) (fun sig h => hn.trans (hlen sig h)) hstack hW (by rw [hb]; exact hdg)
    (fun vm₁ hW₁ => ⟨hf.1, hf.2, hPc (T.setVm vm₁) hT hW₁⟩) with ⟨v, vm₁, ⟨U', l2, c2, s2⟩, hW₁, X', ⟨g', mk, t, L, e1, e2, hq, h1, hL, h2, h3⟩, st⟩ | ⟨q, vm₁, ⟨U', l2, c2, s2⟩, hW₁, X', ⟨g', mk, t, L, E, ce, e1, e2, hq, hce, hcv, hcl, h1, hL, h2, h3⟩, st⟩
  · dsimp only [Pt.U, Pt.locs, Pt.cells, Pt.slots] at X' e1 e2 h1 h2 h3 st
    subst h1; subst h2; subst h3
    exact Or.inl ⟨v, (T.setVm vm₁).calling g' mk (Value.ref b :: As).toArray, t, U', L, hT, X', hL, e1, e2, hq, st⟩
  · dsimp only [Pt.U, Pt.locs, Pt.cells, Pt.slots] at X' e1 e2 h1 h2 h3 st hcl
    subst h1; subst h2; subst h3
    exact Or.inr ⟨q, (T.setVm vm₁).calling g' mk (Value.ref b :: As).toArray, t, U', L, E, ce, hT, X', hL, e1, e2, hq, hce, hcv, vx_cls hW₁ hcl, st⟩
theorem vx_runS (S : CallFix p m c cc nL s args Ts own) (hM : vx_Met l y ws rm Pc Qc XC mc ms free) (cw : CallB R s args own index y bytes maxL ret ws rm mc ms n ∧ (Cond.static y).before args s = true) (hp : PreS s H Pc As)
    (hg : g.method = m) (hn : As.length = n) (hsize : g.locals.size = nL) (hstack : g.stack = As.reverse ++ rest) (hW : 2 * g.monitorRoom + (rest.map fun v => v.category).sum ≤ 8) (hdg : decode cc g.pc = .ok (.invokestatic index, 3)) (hf : cells + mc ≤ R.cells ∧ slots + ms ≤ R.slots) :
    vx_Run p l e R s m args below meth c H locs cells slots mc ms g rest (Qc As.toArray) XC free := by
  have hK : vx_Back l R p e below s args y 3 8 (PreOf R mc ms Pc) (PostOf Qc mc ms free) (vx_Post XC mc ms free) := vx_callBack cw.1 hM hp.1
  obtain ⟨⟨-, -, -, -, -, -, hcode, hini, hy, hlen, hl⟩, hstt⟩ := cw
  obtain ⟨hx, hb, hml, ho, -⟩ := S
  intro T hT X
  rcases vx_callS X hx (bytes := bytes) (maxL := maxL) (ret := ret) ho hl hstt hini hcode hy hK hg (hsize.trans hml.symm) (argsL := As) (rest := rest) (fun sig h => hn.trans (hlen sig h)) hstack hW (by rw [hb]; exact hdg)
    (fun vm₁ hW₁ => ⟨hf.1, hf.2, hp.2 (T.setVm vm₁) hT hW₁⟩) with ⟨v, vm₁, ⟨U', l2, c2, s2⟩, hW₁, X', ⟨g', mk, t, L, e1, e2, hq, h1, hL, h2, h3⟩, st⟩ | ⟨q, vm₁, ⟨U', l2, c2, s2⟩, hW₁, X', ⟨g', mk, t, L, E, ce, e1, e2, hq, hce, hcv, hcl, h1, hL, h2, h3⟩, st⟩
  · dsimp only [Pt.U, Pt.locs, Pt.cells, Pt.slots] at X' e1 e2 h1 h2 h3 st
    subst h1; subst h2; subst h3
    exact Or.inl ⟨v, (T.setVm vm₁).calling g' mk As.toArray, t, U', L, hT, X', hL, e1, e2, hq, st⟩
  · dsimp only [Pt.U, Pt.locs, Pt.cells, Pt.slots] at X' e1 e2 h1 h2 h3 st hcl
    subst h1; subst h2; subst h3
    exact Or.inr ⟨q, (T.setVm vm₁).calling g' mk As.toArray, t, U', L, E, ce, hT, X', hL, e1, e2, hq, hce, hcv, vx_cls hW₁ hcl, st⟩
end Runs
section Rows
variable {p : Program} {l : Launch} {e : Env} {R : Room} {s : State} {m : MethodId} {args : Array Value} {below : List Frame} {meth : Method} {c : Code} {H : Heap} {locs : List Loc} {cells slots : Nat} {Q : State → Prop}
variable {mc ms : Nat} {free : Addr → Prop} {A0 A1 : Nat → Prop} {H0 : Heap} {a : Array Value} {pc : Nat} {ls : Array Slot} {st0 rest : List Value}
theorem vx_keep {st₀ t T' : State} {L : List Loc} (h0 : st₀.heap = H) (e1 : T'.heap = t.heap) (hS : va_S A0 H0 H locs) (hA : ∀ q, q < H.size → A1 q → A0 q) (hf : ∀ q, free q → A0 q) (hL : ∀ q ∈ L, free q.base) (hF : va_F A1 st₀ t) :
    H.size ≤ T'.heap.size ∧ (∀ q : Nat, q < H.size → ¬ A1 q → T'.heap[q]? = H[q]?) ∧ va_S A0 H0 T'.heap (locs ++ L) := by
  obtain ⟨hz, hk⟩ := hF
  rw [h0] at hz hk
  exact ⟨by rw [e1]; exact hz, fun q h1 h2 => by rw [e1]; exact hk q h1 h2,
    ⟨Nat.le_trans hS.1 (by rw [e1]; exact hz), fun q h1 h2 => by rw [e1, hk q (Nat.lt_of_lt_of_le h1 hS.1) (fun z => h2 (hA q (Nat.lt_of_lt_of_le h1 hS.1) z))]; exact hS.2.1 q h1 h2, fun q hq => by
      rcases List.mem_append.mp hq with h | h
      · exact hS.2.2 q h
      · exact hf _ (hL q h)⟩⟩
theorem vx_calli {S SX : Type} {post : Int32 → S → Prop} {px : SX → Prop} {B : S → State → Prop} {BX : String → SX → State → Prop} {AX : Nat → Prop} (hr : vx_Run p l e R s m args below meth c H locs cells slots mc ms (F0 m pc ls st0) rest (va_Qi post B A1 a) (vx_X px BX AX) free) (hS : va_S A0 H0 H locs) (hA : ∀ q, q < H.size → A1 q → A0 q) (hf : ∀ q, free q → A0 q) (hAX : ∀ q, q < H.size → AX q → A0 q)
    (kx : ∀ (E : String) (ce : Cell) (q9 : Addr) (u : SX) (t : State) (H1 : Heap) (locs1 : List Loc), t.heap = H1 → s.vm.Alike t.vm → px u → BX E u t → H.size ≤ H1.size → (∀ q : Nat, q < H.size → ¬ AX q → H1[q]? = H[q]?) → va_S A0 H0 H1 locs1 → H1[q9]? = some ce → ce.vm = .none → s.vm.findClass E = some ce.cls → vx_W p l e R s m args below meth c H1 locs1 (cells + mc) (slots + ms) Q (F0 m pc ls rest) q9)
    (kk : ∀ (r : Int32) (u : S) (t : State) (H1 : Heap) (locs1 : List Loc), t.heap = H1 → s.vm.Alike t.vm → post r u → B u t → H.size ≤ H1.size → (∀ q : Nat, q < H.size → ¬ A1 q → H1[q]? = H[q]?) → va_S A0 H0 H1 locs1 → W p l e R s m args below meth c H1 locs1 (cells + mc) (slots + ms) Q (F0 m (pc + 3) ls (.int r :: rest))) : W p l e R s m args below meth c H locs cells slots Q (F0 m pc ls st0) := by
  intro T hT X
  rcases hr T hT X with ⟨v, st₀, t, T', L, h0, X', hL, e1, e2, ⟨⟨r, u, hv, hp, hb⟩, hF⟩, st⟩ | ⟨q, st₀, t, T', L, E, ce, h0, X', hL, e1, e2, ⟨u, hp, hb, hF⟩, hce, hcv, hcl, st⟩
  · cases hv
    obtain ⟨k1, k2, k3⟩ := vx_keep h0 e1 hS hA hf hL hF
    obtain ⟨t2, a1, b1⟩ := kk r u t T'.heap (locs ++ L) e1.symm (by rw [← e2]; exact X'.warmed.alike) hp hb k1 k2 k3 T' rfl X'
    exact ⟨t2, st t2 a1, b1⟩
  · obtain ⟨k1, k2, k3⟩ := vx_keep h0 e1 hS hAX hf hL hF
    obtain ⟨t2, a1, b1⟩ := kx E ce q u t T'.heap (locs ++ L) e1.symm (by rw [← e2]; exact X'.warmed.alike) hp hb k1 k2 k3 (by rw [e1]; exact hce) hcv hcl T' rfl X'
    exact ⟨t2, st.trans a1, b1⟩
theorem vx_calll {S SX : Type} {post : Int64 → S → Prop} {px : SX → Prop} {B : S → State → Prop} {BX : String → SX → State → Prop} {AX : Nat → Prop} (hr : vx_Run p l e R s m args below meth c H locs cells slots mc ms (F0 m pc ls st0) rest (va_Ql post B A1 a) (vx_X px BX AX) free) (hS : va_S A0 H0 H locs) (hA : ∀ q, q < H.size → A1 q → A0 q) (hf : ∀ q, free q → A0 q) (hAX : ∀ q, q < H.size → AX q → A0 q)
    (kx : ∀ (E : String) (ce : Cell) (q9 : Addr) (u : SX) (t : State) (H1 : Heap) (locs1 : List Loc), t.heap = H1 → s.vm.Alike t.vm → px u → BX E u t → H.size ≤ H1.size → (∀ q : Nat, q < H.size → ¬ AX q → H1[q]? = H[q]?) → va_S A0 H0 H1 locs1 → H1[q9]? = some ce → ce.vm = .none → s.vm.findClass E = some ce.cls → vx_W p l e R s m args below meth c H1 locs1 (cells + mc) (slots + ms) Q (F0 m pc ls rest) q9)
    (kk : ∀ (r : Int64) (u : S) (t : State) (H1 : Heap) (locs1 : List Loc), t.heap = H1 → s.vm.Alike t.vm → post r u → B u t → H.size ≤ H1.size → (∀ q : Nat, q < H.size → ¬ A1 q → H1[q]? = H[q]?) → va_S A0 H0 H1 locs1 → W p l e R s m args below meth c H1 locs1 (cells + mc) (slots + ms) Q (F0 m (pc + 3) ls (.long r :: rest))) : W p l e R s m args below meth c H locs cells slots Q (F0 m pc ls st0) := by
  intro T hT X
  rcases hr T hT X with ⟨v, st₀, t, T', L, h0, X', hL, e1, e2, ⟨⟨r, u, hv, hp, hb⟩, hF⟩, st⟩ | ⟨q, st₀, t, T', L, E, ce, h0, X', hL, e1, e2, ⟨u, hp, hb, hF⟩, hce, hcv, hcl, st⟩
  · cases hv
    obtain ⟨k1, k2, k3⟩ := vx_keep h0 e1 hS hA hf hL hF
    obtain ⟨t2, a1, b1⟩ := kk r u t T'.heap (locs ++ L) e1.symm (by rw [← e2]; exact X'.warmed.alike) hp hb k1 k2 k3 T' rfl X'
    exact ⟨t2, st t2 a1, b1⟩
  · obtain ⟨k1, k2, k3⟩ := vx_keep h0 e1 hS hAX hf hL hF
    obtain ⟨t2, a1, b1⟩ := kx E ce q u t T'.heap (locs ++ L) e1.symm (by rw [← e2]; exact X'.warmed.alike) hp hb k1 k2 k3 (by rw [e1]; exact hce) hcv hcl T' rfl X'
    exact ⟨t2, st.trans a1, b1⟩
theorem vx_callf {S SX : Type} {post : UInt32 → S → Prop} {px : SX → Prop} {B : S → State → Prop} {BX : String → SX → State → Prop} {AX : Nat → Prop} (hr : vx_Run p l e R s m args below meth c H locs cells slots mc ms (F0 m pc ls st0) rest (va_Qf post B A1 a) (vx_X px BX AX) free) (hS : va_S A0 H0 H locs) (hA : ∀ q, q < H.size → A1 q → A0 q) (hf : ∀ q, free q → A0 q) (hAX : ∀ q, q < H.size → AX q → A0 q)
    (kx : ∀ (E : String) (ce : Cell) (q9 : Addr) (u : SX) (t : State) (H1 : Heap) (locs1 : List Loc), t.heap = H1 → s.vm.Alike t.vm → px u → BX E u t → H.size ≤ H1.size → (∀ q : Nat, q < H.size → ¬ AX q → H1[q]? = H[q]?) → va_S A0 H0 H1 locs1 → H1[q9]? = some ce → ce.vm = .none → s.vm.findClass E = some ce.cls → vx_W p l e R s m args below meth c H1 locs1 (cells + mc) (slots + ms) Q (F0 m pc ls rest) q9)
    (kk : ∀ (r : UInt32) (u : S) (t : State) (H1 : Heap) (locs1 : List Loc), t.heap = H1 → s.vm.Alike t.vm → post r u → B u t → H.size ≤ H1.size → (∀ q : Nat, q < H.size → ¬ A1 q → H1[q]? = H[q]?) → va_S A0 H0 H1 locs1 → W p l e R s m args below meth c H1 locs1 (cells + mc) (slots + ms) Q (F0 m (pc + 3) ls (.float r :: rest))) : W p l e R s m args below meth c H locs cells slots Q (F0 m pc ls st0) := by
  intro T hT X
  rcases hr T hT X with ⟨v, st₀, t, T', L, h0, X', hL, e1, e2, ⟨⟨r, u, hv, hp, hb⟩, hF⟩, st⟩ | ⟨q, st₀, t, T', L, E, ce, h0, X', hL, e1, e2, ⟨u, hp, hb, hF⟩, hce, hcv, hcl, st⟩
  · cases hv
    obtain ⟨k1, k2, k3⟩ := vx_keep h0 e1 hS hA hf hL hF
    obtain ⟨t2, a1, b1⟩ := kk r u t T'.heap (locs ++ L) e1.symm (by rw [← e2]; exact X'.warmed.alike) hp hb k1 k2 k3 T' rfl X'
    exact ⟨t2, st t2 a1, b1⟩
  · obtain ⟨k1, k2, k3⟩ := vx_keep h0 e1 hS hAX hf hL hF
    obtain ⟨t2, a1, b1⟩ := kx E ce q u t T'.heap (locs ++ L) e1.symm (by rw [← e2]; exact X'.warmed.alike) hp hb k1 k2 k3 (by rw [e1]; exact hce) hcv hcl T' rfl X'
    exact ⟨t2, st.trans a1, b1⟩
theorem vx_calld {S SX : Type} {post : UInt64 → S → Prop} {px : SX → Prop} {B : S → State → Prop} {BX : String → SX → State → Prop} {AX : Nat → Prop} (hr : vx_Run p l e R s m args below meth c H locs cells slots mc ms (F0 m pc ls st0) rest (va_Qd post B A1 a) (vx_X px BX AX) free) (hS : va_S A0 H0 H locs) (hA : ∀ q, q < H.size → A1 q → A0 q) (hf : ∀ q, free q → A0 q) (hAX : ∀ q, q < H.size → AX q → A0 q)
    (kx : ∀ (E : String) (ce : Cell) (q9 : Addr) (u : SX) (t : State) (H1 : Heap) (locs1 : List Loc), t.heap = H1 → s.vm.Alike t.vm → px u → BX E u t → H.size ≤ H1.size → (∀ q : Nat, q < H.size → ¬ AX q → H1[q]? = H[q]?) → va_S A0 H0 H1 locs1 → H1[q9]? = some ce → ce.vm = .none → s.vm.findClass E = some ce.cls → vx_W p l e R s m args below meth c H1 locs1 (cells + mc) (slots + ms) Q (F0 m pc ls rest) q9)
    (kk : ∀ (r : UInt64) (u : S) (t : State) (H1 : Heap) (locs1 : List Loc), t.heap = H1 → s.vm.Alike t.vm → post r u → B u t → H.size ≤ H1.size → (∀ q : Nat, q < H.size → ¬ A1 q → H1[q]? = H[q]?) → va_S A0 H0 H1 locs1 → W p l e R s m args below meth c H1 locs1 (cells + mc) (slots + ms) Q (F0 m (pc + 3) ls (.double r :: rest))) : W p l e R s m args below meth c H locs cells slots Q (F0 m pc ls st0) := by
  intro T hT X
  rcases hr T hT X with ⟨v, st₀, t, T', L, h0, X', hL, e1, e2, ⟨⟨r, u, hv, hp, hb⟩, hF⟩, st⟩ | ⟨q, st₀, t, T', L, E, ce, h0, X', hL, e1, e2, ⟨u, hp, hb, hF⟩, hce, hcv, hcl, st⟩
  · cases hv
    obtain ⟨k1, k2, k3⟩ := vx_keep h0 e1 hS hA hf hL hF
    obtain ⟨t2, a1, b1⟩ := kk r u t T'.heap (locs ++ L) e1.symm (by rw [← e2]; exact X'.warmed.alike) hp hb k1 k2 k3 T' rfl X'
    exact ⟨t2, st t2 a1, b1⟩
  · obtain ⟨k1, k2, k3⟩ := vx_keep h0 e1 hS hAX hf hL hF
    obtain ⟨t2, a1, b1⟩ := kx E ce q u t T'.heap (locs ++ L) e1.symm (by rw [← e2]; exact X'.warmed.alike) hp hb k1 k2 k3 (by rw [e1]; exact hce) hcv hcl T' rfl X'
    exact ⟨t2, st.trans a1, b1⟩
theorem vx_callv {S SX : Type} {post : S → Prop} {px : SX → Prop} {B : S → State → Prop} {BX : String → SX → State → Prop} {AX : Nat → Prop} (hr : vx_Run p l e R s m args below meth c H locs cells slots mc ms (F0 m pc ls st0) rest (va_Qv post B A1 a) (vx_X px BX AX) free) (hS : va_S A0 H0 H locs) (hA : ∀ q, q < H.size → A1 q → A0 q) (hf : ∀ q, free q → A0 q) (hAX : ∀ q, q < H.size → AX q → A0 q)
    (kx : ∀ (E : String) (ce : Cell) (q9 : Addr) (u : SX) (t : State) (H1 : Heap) (locs1 : List Loc), t.heap = H1 → s.vm.Alike t.vm → px u → BX E u t → H.size ≤ H1.size → (∀ q : Nat, q < H.size → ¬ AX q → H1[q]? = H[q]?) → va_S A0 H0 H1 locs1 → H1[q9]? = some ce → ce.vm = .none → s.vm.findClass E = some ce.cls → vx_W p l e R s m args below meth c H1 locs1 (cells + mc) (slots + ms) Q (F0 m pc ls rest) q9)
    (kk : ∀ (u : S) (t : State) (H1 : Heap) (locs1 : List Loc), t.heap = H1 → s.vm.Alike t.vm → post u → B u t → H.size ≤ H1.size → (∀ q : Nat, q < H.size → ¬ A1 q → H1[q]? = H[q]?) → va_S A0 H0 H1 locs1 → W p l e R s m args below meth c H1 locs1 (cells + mc) (slots + ms) Q (F0 m (pc + 3) ls (rest))) : W p l e R s m args below meth c H locs cells slots Q (F0 m pc ls st0) := by
  intro T hT X
  rcases hr T hT X with ⟨v, st₀, t, T', L, h0, X', hL, e1, e2, ⟨⟨u, hv, hp, hb⟩, hF⟩, st⟩ | ⟨q, st₀, t, T', L, E, ce, h0, X', hL, e1, e2, ⟨u, hp, hb, hF⟩, hce, hcv, hcl, st⟩
  · cases hv
    obtain ⟨k1, k2, k3⟩ := vx_keep h0 e1 hS hA hf hL hF
    obtain ⟨t2, a1, b1⟩ := kk u t T'.heap (locs ++ L) e1.symm (by rw [← e2]; exact X'.warmed.alike) hp hb k1 k2 k3 T' rfl X'
    exact ⟨t2, st t2 a1, b1⟩
  · obtain ⟨k1, k2, k3⟩ := vx_keep h0 e1 hS hAX hf hL hF
    obtain ⟨t2, a1, b1⟩ := kx E ce q u t T'.heap (locs ++ L) e1.symm (by rw [← e2]; exact X'.warmed.alike) hp hb k1 k2 k3 (by rw [e1]; exact hce) hcv hcl T' rfl X'
    exact ⟨t2, st.trans a1, b1⟩
/-- caught by the row x of this method's table; the rows ahead don't take it -/
theorem vx_catch {own name : String} {E : String} {ce : Cell} {q : Addr} (hown : s.vm.findClass own = some m.cls) (pre : List ExceptionTableEntry) (x : ExceptionTableEntry) (suf : List ExceptionTableEntry) (hsplit : c.exceptionTable.toList = pre ++ x :: suf)
    (hpass : ∀ z ∈ pre, covers z pc = false ∨ (z.catchType ≠ 0 ∧ ∃ nm : String, (Cond.classLink own z.catchType nm).before args s = true ∧ va_Nc E nm s)) (hx : covers x pc = true) (h0 : x.catchType ≠ 0)
    (hlink : (Cond.classLink own x.catchType name).before args s = true) (hcast : (Cond.castable E name).before args s = true) (hcell : H[q]? = some ce) (hv : ce.vm = .none) (hcl : s.vm.findClass E = some ce.cls)
    (kk : W p l e R s m args below meth c H locs cells slots Q (F0 m x.handlerPc ls [.ref q])) : vx_W p l e R s m args below meth c H locs cells slots Q (F0 m pc ls rest) q := by
  intro T hT X
  have hpl : e.platform.magicAccessors = ({} : Platform).magicAccessors := by rw [X.admits.platform]
  obtain ⟨c3, c4, hc3, hc4, hasg⟩ := Cond.castable_spec hcast
  cases Option.some.inj (hc3.symm.trans hcl)
  obtain ⟨c5, hc5, hcl5⟩ := Cond.classLink_spec hown hlink e.platform hpl
  cases Option.some.inj (hc4.symm.trans hc5)
  obtain ⟨vm', X', st⟩ := X.thenCaughtThrough q (g := F0 m pc ls rest) rfl (Steps.refl _) (by rw [hT]; exact hcell) (by rw [hv]; rfl) (by obtain ⟨k9, h9, -⟩ := Vm.findClass_spec hcl; exact ⟨k9, h9⟩) pre x suf hsplit
    (fun z hz => by
      rcases hpass z hz with h | ⟨hz0, nm, hl1, hn1⟩
      · exact Or.inl h
      · obtain ⟨c6, hc6, hcl6⟩ := Cond.classLink_spec hown hl1 e.platform hpl
        obtain ⟨a8, b8, h1, h2, h3⟩ := hn1
        cases Option.some.inj (h1.symm.trans hcl)
        cases Option.some.inj (h2.symm.trans hc6)
        exact Or.inr ⟨hz0, _, hcl6, h3⟩) hx (Or.inr ⟨h0, c4, hcl5, hasg⟩)
  obtain ⟨t, a1, b1⟩ := kk (T.setVm vm') hT X'
  exact ⟨t, st.trans a1, b1⟩
end Rows
section Ends
variable {p : Program} {l : Launch} {e : Env} {R : Room} {s : State} {m : MethodId} {args : Array Value} {below : List Frame} {meth : Method} {c : Code} {H : Heap} {locs : List Loc} {cells slots : Nat} {Q : State → Prop}
variable {mc ms : Nat} {free : Addr → Prop} {A0 A1 : Nat → Prop} {H0 : Heap} {a : Array Value} {ls : Array Slot} {st0 rest : List Value}
variable {Qc : Array Value → State → Outcome → State → Prop} {XC : String → State → State → Prop}
/-- what a body that may throw owes at its end -/
def vx_MQ (below : List Frame) (Qc : Array Value → State → Outcome → State → Prop) (XC : String → State → State → Prop) (a : Array Value) (s : State) (mc ms : Nat) (free : Addr → Prop) : State → Prop := fun t =>
  ∃ o, t.status = .running ∧ Ended t below o ∧ vx_Q Qc XC mc ms free a s o t
theorem vx_ret {g : JFrame} {mc ms : Nat} (k : W p l e R s m args below meth c H locs cells slots (MQ below Qc args s mc ms free) g) : W p l e R s m args below meth c H locs cells slots (vx_MQ below Qc XC args s mc ms free) g := by
  intro T hT X
  obtain ⟨t, a1, o, b1, b2, b3, b4⟩ := k T hT X
  exact ⟨t, a1, o, b1, b2, Or.inl ⟨b3, b4⟩⟩
/-- not caught here: it goes on to the caller -/
theorem vx_widen {g : JFrame} {q : Addr} {k n : Nat} (h1 : cells ≤ k) (h2 : slots ≤ n) (kk : vx_W p l e R s m args below meth c H locs k n Q g q) : vx_W p l e R s m args below meth c H locs cells slots Q g q := fun T hT X => kk T hT (stand_widen X h1 h2)
theorem vx_out {pc : Nat} {E : String} {ce : Cell} {q : Addr} {mc ms : Nat} (hout : ∀ x ∈ c.exceptionTable.toList, covers x pc = false) (hlocks : meth.locks = false) (hcell : H[q]? = some ce) (hv : ce.vm = .none) (hcl : s.vm.findClass E = some ce.cls)
    (hx : ∀ t : State, t.heap = H → s.vm.Alike t.vm → XC E s t) (hf : ∀ z ∈ locs, free z.base) (hc : cells ≤ mc) (hs : slots ≤ ms) :
    vx_W p l e R s m args below meth c H locs cells slots (vx_MQ below Qc XC args s mc ms free) (F0 m pc ls rest) q := by
  intro T hT X
  obtain ⟨st1, hrun, hend, hW, hsm⟩ := X.leaveThrown q (g := F0 m pc ls rest) rfl rfl rfl hout hlocks
  have hcell9 : (T.setFrames (.throwing q :: below)).heap[q]? = some ce := by
    show T.heap[q]? = some ce
    rw [hT]; exact hcell
  exact ⟨_, st1, .threw q, hrun, hend, Or.inr ⟨q, rfl, E, ce, locs, hx _ hT hW.alike, hcell9, hv, hcl, hW, hsm.mono hc hs, hf⟩⟩
theorem vx_frame {U : State} {k n : Nat} (h : s.sameButNew ({ U with vm := s.vm } : State) locs k n) : s.heap.size ≤ U.heap.size ∧ ∀ q : Nat, q < s.heap.size → (∀ z ∈ locs, z.base ≠ q) → U.heap[q]? = s.heap[q]? := by
  obtain ⟨-, h2, -, -, -, h6⟩ := h
  refine ⟨h2, fun q hq hz => ?_⟩
  obtain ⟨c9, e1, e2, e3, e4⟩ := h6 q _ (Array.getElem?_eq_getElem hq)
  have hs : c9.slots = (s.heap[q]).slots := Array.ext_getElem? fun i => e4 i fun hm => hz _ hm rfl
  have h9 : c9 = s.heap[q] := by
    rw [hs] at e2
    exact e2
  have e5 : U.heap[q]? = some c9 := e1
  rw [e5, h9, Array.getElem?_eq_getElem hq]
/-- the words of a throw but the four that speak of the heap -/
def vx_no (w : Cond) : Bool := decide (w ≠ .isRef (.static Bundle.tN "UNASSIGNED_STACK" Bundle.steD)) && decide (w ≠ .isRef (.static Bundle.tN "SUPPRESSED_SENTINEL" Bundle.listD)) && decide (w ≠ .laysStatic Bundle.tN "UNASSIGNED_STACK" Bundle.steD) && decide (w ≠ .laysStatic Bundle.tN "SUPPRESSED_SENTINEL" Bundle.listD)
def vx_at0 (own : String) (ic : Nat) (X : String) (names : List String) : List Cond := (Bundle.ownAtoms0 own ic X names).filter vx_no
def vx_atS (own : String) (ic : Nat) (X : String) (names : List String) : List Cond := (Bundle.ownAtoms own ic X names).filter vx_no
/-- a word that the tables alone decide, or a good one -/
def vx_ot (w : Cond) : Bool := w.onTables || goodWord w
theorem vx_ot_at {args a' : Array Value} {s U : State} {w : Cond} (hW : s.WarmedH U.vm) (hvm : s.vm = U.vm) (hg : vx_ot w = true) (h : w.before args s = true) : w.before a' U = true := by
  simp only [vx_ot, Bool.or_eq_true] at hg
  rcases hg with hg | hg
  · exact va_tabs hg hvm h
  · exact word_at hW (good_of_word hg) h
/-- a list's words: the good ones out of the method's own list, the others by premises of their own -/
theorem vx_hat {args : Array Value} {s : State} {L B : List Cond} (h1 : ∀ w ∈ L.filter goodWord, w.before args s = true) (h2 : ∀ w ∈ L.filter (fun w => !goodWord w), w ∈ B) (h3 : ∀ w ∈ B, w.before args s = true) : ∀ w ∈ L, w.before args s = true := by
  intro w hw
  by_cases g : goodWord w = true
  · exact h1 w (List.mem_filter.mpr ⟨hw, g⟩)
  · refine h3 w (h2 w (List.mem_filter.mpr ⟨hw, ?_⟩))
    show (!goodWord w) = true
    cases hgw : goodWord w
    · rfl
    · exact absurd hgw g
theorem vx_c {args : Array Value} {s : State} {w : Cond} {B : List Cond} (h : w.before args s = true) (t : ∀ w ∈ B, w.before args s = true) : ∀ w' ∈ w :: B, w'.before args s = true := fun w' h' => (List.mem_cons.mp h').elim (fun e => by rw [e]; exact h) (t w')
theorem vx_n {args : Array Value} {s : State} : ∀ w ∈ ([] : List Cond), w.before args s = true := fun _ h => nomatch h
theorem vx_own {args : Array Value} {s : State} {L : List Cond} (h1 : ∀ w ∈ L.filter vx_no, w.before args s = true)
    (hU : (Cond.isRef (.static Bundle.tN "UNASSIGNED_STACK" Bundle.steD)).before args s = true) (hN : (Cond.isRef (.static Bundle.tN "SUPPRESSED_SENTINEL" Bundle.listD)).before args s = true)
    (lU : (Cond.laysStatic Bundle.tN "UNASSIGNED_STACK" Bundle.steD).before args s = true) (lN : (Cond.laysStatic Bundle.tN "SUPPRESSED_SENTINEL" Bundle.listD).before args s = true) : ∀ w ∈ L, w.before args s = true := by
  intro w hw
  by_cases e1 : w = .isRef (.static Bundle.tN "UNASSIGNED_STACK" Bundle.steD)
  · rw [e1]; exact hU
  · by_cases e2 : w = .isRef (.static Bundle.tN "SUPPRESSED_SENTINEL" Bundle.listD)
    · rw [e2]; exact hN
    · by_cases e3 : w = .laysStatic Bundle.tN "UNASSIGNED_STACK" Bundle.steD
      · rw [e3]; exact lU
      · by_cases e4 : w = .laysStatic Bundle.tN "SUPPRESSED_SENTINEL" Bundle.listD
        · rw [e4]; exact lN
        · exact h1 w (List.mem_filter.mpr ⟨hw, by unfold vx_no; rw [decide_eq_true e1, decide_eq_true e2, decide_eq_true e3, decide_eq_true e4]; rfl⟩)
/-- where a static field lies, its class's statics cell in H -/
def vx_L (C n d : String) (A : Nat → Prop) (U : State) (H : Heap) : Prop := ∃ (c : ClassId) (k : Class) (i : Nat) (f : Field) (a : Nat) (cell : Cell), U.vm.findClass C = some c ∧ U.fieldFound? C n d = some (c, k, i, f) ∧ f.isStatic = true ∧ k.statics = some a ∧ H[a]? = some cell ∧ cell.vm.isStatics = true ∧ cell.cls = c ∧ f.slot < cell.slots.size ∧ k.staticTypes[f.slot]? = some f.type ∧ ¬ A a
theorem vx_L.moved {C n d : String} {A : Nat → Prop} {u U : State} {H : Heap} (hvm : u.vm.Alike U.vm) (h : vx_L C n d A u H) : vx_L C n d A U H := by
  obtain ⟨c, k, i, f, a, cell, h1, h2, h3, h4, h5, h6, h7, h8, h9, h10⟩ := h
  obtain ⟨k', hi', he⟩ := State.fieldFound?_setVm hvm h2
  exact ⟨c, k', i, f, a, cell, by rw [hvm.findClass]; exact h1, hi', h3, by rw [he]; exact h4, h5, h6, h7, h8, by rw [he]; exact h9, h10⟩
theorem vx_L.kept {C n d : String} {A : Nat → Prop} {U : State} {H H1 : Heap} (h : vx_L C n d A U H) (hq : ∀ a : Nat, a < H.size → ¬ A a → H1[a]? = H[a]?) : vx_L C n d A U H1 := by
  obtain ⟨c, k, i, f, a, cell, h1, h2, h3, h4, h5, h6, h7, h8, h9, h10⟩ := h
  exact ⟨c, k, i, f, a, cell, h1, h2, h3, h4, by rw [hq a (Array.getElem?_eq_some_iff.mp h5).1 h10]; exact h5, h6, h7, h8, h9, h10⟩
theorem vx_L.narrow {C n d : String} {A B : Nat → Prop} {U : State} {H : Heap} (h : vx_L C n d A U H) (hAB : ∀ q, B q → A q) : vx_L C n d B U H := by
  obtain ⟨c, k, i, f, a, cell, h1, h2, h3, h4, h5, h6, h7, h8, h9, h10⟩ := h
  exact ⟨c, k, i, f, a, cell, h1, h2, h3, h4, h5, h6, h7, h8, h9, fun z => h10 (hAB _ z)⟩
theorem vx_L.word {C n d : String} {A : Nat → Prop} {s : State} {args : Array Value} (h : vx_L C n d A s s.heap) : (Cond.laysStatic C n d).before args s = true := by
  obtain ⟨c, k, i, f, a, cell, h1, h2, h3, h4, h5, h6, h7, h8, h9, -⟩ := h
  show (Cond.laysStatic C n d).holds args s none s [] = true
  exact Cond.laysStatic_of h1 h2 h3 h4 h5 h6 h7 h8 h9
/-- .. and what it holds: null or some reference -/
def vx_Zq (C n d : String) (A : Nat → Prop) (U : State) (H : Heap) : Prop := va_Zq C n d A U H ∧ vx_L C n d A U H
theorem vx_Zq.moved {C n d : String} {A : Nat → Prop} {u U : State} {H : Heap} (hvm : u.vm.Alike U.vm) (h : vx_Zq C n d A u H) : vx_Zq C n d A U H := ⟨va_Zq.moved hvm h.1, vx_L.moved hvm h.2⟩
theorem vx_Zq.kept {C n d : String} {A : Nat → Prop} {U : State} {H H1 : Heap} (h : vx_Zq C n d A U H) (hq : ∀ a : Nat, a < H.size → ¬ A a → H1[a]? = H[a]?) : vx_Zq C n d A U H1 := ⟨va_Zq.kept h.1 hq, vx_L.kept h.2 hq⟩
theorem vx_Zq.narrow {C n d : String} {A B : Nat → Prop} {U : State} {H : Heap} (h : vx_Zq C n d A U H) (hAB : ∀ q, B q → A q) : vx_Zq C n d B U H := ⟨va_Zq.narrow h.1 hAB, vx_L.narrow h.2 hAB⟩
theorem vx_Zqof {args : Array Value} {s : State} {C n d : String} {A : Nat → Prop} (hl : (Cond.laysStatic C n d).before args s = true) (hini : (Cond.initialized C).before args s = true) (h : (Cond.isRef (.static C n d)).before args s = true) (hA : ∀ a : Nat, a < s.heap.size → ¬ A a) : vx_Zq C n d A s s.heap := by
  refine ⟨va_Zqof hl hini h hA, ?_⟩
  obtain ⟨c, k, i, f, a, cell, h1, h2, h3, h4, h5, h6, h7, h8, h9⟩ := Cond.laysStatic_spec hl
  exact ⟨c, k, i, f, a, cell, h1, h2, h3, h4, h5, h6, h7, h8, h9, hA a (Array.getElem?_eq_some_iff.mp h5).1⟩
theorem vx_isRef {C n d : String} {v : Value} {A : Nat → Prop} {s : State} {args : Array Value} (h : va_Z C n d v A s s.heap) (hv : v.isRef = true) : (Cond.isRef (.static C n d)).before args s = true := by
  obtain ⟨cf, kf, fi, f, a, cell, h1, h2, h3, h4, h5, h6, h7, -⟩ := h
  have he : (Term.static C n d).eval args s none [] s = some v := by
    simp [Term.eval, State.fieldNamed?, h1, h2, h4, h5, h6, h7]
  simp only [Cond.before, Cond.holds, Cond.value, he]
  cases v <;> simp_all [Value.isRef]
theorem vx_isRefq {C n d : String} {A : Nat → Prop} {s : State} {args : Array Value} (h : va_Zq C n d A s s.heap) : (Cond.isRef (.static C n d)).before args s = true := by
  rcases h with h | ⟨t, h⟩
  · exact vx_isRef h rfl
  · exact vx_isRef h rfl
/-- the same frame, seen from here: as if the method were called anew in this heap -/
theorem vx_rebase {T : State} (X : Stand p l e R s m args below meth c T locs cells slots) {R' : Room} (hf : R'.frames ≤ R.frames) (hl : R'.locals ≤ R.locals) (hc : cells + R'.cells ≤ R.cells) (hs : slots + R'.slots ≤ R.slots) :
    Stand p l e R' ((T.setVm s.vm).setFrames (.invoking m args :: below)) m args below meth c T [] 0 0 := by
  have htop : (T.setVm s.vm).topJava?.isSome := X.here.top
  have hF : ((T.setVm s.vm).setFrames (.invoking m args :: below)).frames = .invoking m args :: below := State.frames_setFrames _ (State.cur_lt_of_top htop)
  obtain ⟨g₀, hg0⟩ := Option.isSome_iff_exists.mp htop
  obtain ⟨r, hr⟩ := State.topJava?_eq_some.mp hg0
  have hl9 : e.platform.stackLimits (T.setVm s.vm).me = e.platform.stackLimits s.me := X.limits
  have hb9 : (T.setVm s.vm).me.stackBytes = s.me.stackBytes := X.bytes
  refine ⟨X.admits, X.cas, X.clock, hF, ?_, X.hears, X.method, X.code, X.here, X.tail, X.warmed, ?_, ?_, ?_⟩
  · have h := X.room
    have hU : ((T.setVm s.vm).setFrames (.invoking m args :: below)).localsInUse = s.localsInUse := by
      rw [State.localsInUse_invoking hF (meth := meth) (c := c) X.method X.code, State.localsInUse_invoking X.frames X.method X.code]
    simp only [State.hasRoom, Bool.and_eq_true, decide_eq_true_eq] at h ⊢
    obtain ⟨⟨⟨⟨h1, h2, h3, h4, h5, h6⟩, h7⟩, h8⟩, h9⟩ := h
    rw [X.frames, List.length_cons] at h2 h3
    have q1 := X.heapSize
    have q2 := X.used
    simp only [hF, hU, List.length_cons, State.stackLimits_setFrames, State.stackBytes_setFrames, hl9, hb9]
    refine ⟨⟨⟨⟨by omega, by omega, by omega, by omega, by omega, h6⟩, ?_⟩, ?_⟩, X.book⟩
    · show T.heap.size + R'.cells ≤ e.platform.maxCells
      omega
    · show T.slotsUsed + R'.slots ≤ e.platform.maxSlots
      omega
  · rw [State.stackLimits_setFrames]; rfl
  · rw [State.stackBytes_setFrames]; rfl
  · refine ⟨?_, Nat.le_refl _, Nat.le_refl _, ?_, ?_, fun a c9 h9 => ⟨c9, h9, rfl, rfl, fun _ _ => rfl⟩⟩
    · obtain ⟨t, ht, -⟩ := State.frames_cons hr
      show T.setVm s.vm = { ((T.setVm s.vm).setFrames (.invoking m args :: below)).setFrames (T.setVm s.vm).frames with heap := T.heap, slotsUsed := T.slotsUsed }
      rw [State.setFrames_setFrames, State.setFrames_self ht]
      rfl
    · show T.slotsUsed = T.slotsUsed + ((T.heap.toList.drop T.heap.size).map (·.slots.size)).sum
      rw [List.drop_eq_nil_of_le (Nat.le_of_eq Array.length_toList)]
      rfl
    · show ((T.heap.toList.drop T.heap.size).map (·.slots.size)).sum ≤ 0
      rw [List.drop_eq_nil_of_le (Nat.le_of_eq Array.length_toList)]
      exact Nat.le_refl _
/-- 'throw new E()': new; dup; invokespecial; athrow -/
theorem vx_throw0 {cc : ByteArray} {pc : Nat} (hexec : p.tables.exec = Jvm.exec) (hb : c.code = cc) (hl : l.stackTraces = false) {own cls : String} {names : List String} {ik ic mc ms : Nat} {A : Nat → Prop}
    (hown : s.vm.findClass own = some m.cls) (hcls : Bundle.fit cls = true) (hnames : ∀ n ∈ names, Bundle.fit n = true)
    (hk : (Cond.classLink own ik cls).before args s = true) (hini : (Cond.initialized cls).before args s = true) (hat : ∀ w ∈ vx_at0 own ic cls names, w.before args s = true)
    (hgood : ∀ w ∈ Cond.classLink own ik cls :: Cond.initialized cls :: vx_at0 own ic cls names, vx_ot w = true)
    (hU : vx_Zq Bundle.tN "UNASSIGNED_STACK" Bundle.steD A s s.heap) (hN : vx_Zq Bundle.tN "SUPPRESSED_SENTINEL" Bundle.listD A s s.heap) (hS : va_S A s.heap H locs) (hsize : ls.size = c.maxLocals)
    (d0 : decode cc pc = .ok (.new ik, 3)) (d3 : decode cc (pc + 3) = .ok (.dup, 1)) (d4 : decode cc (pc + 4) = .ok (.invokespecial ic, 3)) (d7 : decode cc (pc + 7) = .ok (.athrow, 1))
    (hout : ∀ x ∈ c.exceptionTable.toList, covers x (pc + 7) = false)
    (hRframes : names.length + 3 < R.frames) (hRlocals : (rest.map fun v => v.category).sum + (13 * (names.length + 1) + 42) ≤ R.locals) (hRcells : cells + 1 ≤ R.cells) (hRslots : slots + 6 ≤ R.slots) (hlocks : meth.locks = false)
    (hx : ∀ t : State, s.vm.Alike t.vm → H.size ≤ t.heap.size → (∀ q : Nat, q < H.size → t.heap[q]? = H[q]?) → XC cls s t)
    (hf : ∀ z ∈ locs, free z.base) (hc : cells + 1 ≤ mc) (hs : slots + 6 ≤ ms) :
    W p l e R s m args below meth c H locs cells slots (vx_MQ below Qc XC args s mc ms free) (F0 m pc ls rest) := by
  intro T hT X
  have htr : e.platform.stackTraces = false := (show e.platform.stackTraces = l.stackTraces by rw [X.admits.platform]).trans hl
  have Y := vx_rebase X (R' := { frames := R.frames, locals := R.locals, cells := 1, slots := 6 }) (Nat.le_refl _) (Nat.le_refl _) hRcells hRslots
  obtain ⟨s', hA⟩ : ∃ z, z = (T.setVm s.vm).setFrames (.invoking m args :: below) := ⟨_, rfl⟩
  rw [← hA] at Y
  have hvm : s'.vm = s.vm := by rw [hA]; rfl
  have hhp : s'.heap = H := by rw [hA]; exact hT
  have hW0 : s.WarmedH s'.vm := by rw [hvm]; exact State.WarmedH.refl s
  have hat' : ∀ w ∈ vx_at0 own ic cls names, w.before args s' = true := fun w hw => vx_ot_at hW0 hvm.symm (hgood w (List.mem_cons_of_mem _ (List.mem_cons_of_mem _ hw))) (hat w hw)
  have hk' : (Cond.classLink own ik cls).before args s' = true := vx_ot_at hW0 hvm.symm (hgood _ List.mem_cons_self) hk
  have hini' : (Cond.initialized cls).before args s' = true := vx_ot_at hW0 hvm.symm (hgood _ (List.mem_cons_of_mem _ List.mem_cons_self)) hini
  have hU' : vx_Zq Bundle.tN "UNASSIGNED_STACK" Bundle.steD A s' s'.heap := by rw [hhp]; exact vx_Zq.moved hW0.alike (hU.kept hS.2.1)
  have hN' : vx_Zq Bundle.tN "SUPPRESSED_SENTINEL" Bundle.listD A s' s'.heap := by rw [hhp]; exact vx_Zq.moved hW0.alike (hN.kept hS.2.1)
  have h : ∀ w ∈ Bundle.ownAtoms0 own ic cls names, w.before args s' = true := vx_own hat' (vx_isRefq hU'.1) (vx_isRefq hN'.1) hU'.2.word hN'.2.word
  have hown' : s'.vm.findClass own = some m.cls := by rw [hvm]; exact hown
  have hins : (Cond.instantiable cls 6).before args s' = true := h _ (by simp [Bundle.ownAtoms0])
  obtain ⟨vm₁, cX, kX, hfX, hkX, -, -, X₁, st1⟩ := Y.newCold hexec (own := own) (C := cls) (index := ik) (n := 6) hown' hk' hins hini'
    (g := F0 m pc ls rest) rfl (by rw [hb]; exact d0) (Nat.le_refl _) (Nat.le_refl _)
  generalize hT1 : (T.setVm vm₁).pushCell { cls := cX, slots := kX.instanceTypes.map defaultValue, vm := .none } = T1 at X₁ st1
  have hcat : (Value.ref T.heap.size).category = 1 := rfl
  have hcellA : T1.heap[T.heap.size]? = some (freshCell cX kX) := by rw [← hT1]; exact State.heap_pushCell_size _ _
  have d3' : decode c.code (pc + 3) = .ok (.dup, 1) := by rw [hb]; exact d3
  obtain ⟨U, hsteps, hrun, hend, hW, hsame, ce, hce, hO⟩ := X₁.ctorThrow0 hexec htr (own := own) (cls := cls) (names := names) (ic := ic) hown' hcls hnames h (fun x hx => nomatch hx) hfX hkX hcellA (by rw [hhp, hT]; exact Nat.le_refl _)
    (g := { method := m, pc := pc + 4, locals := ls, stack := .ref T.heap.size :: .ref T.heap.size :: rest, locked := none }) rfl hsize rfl rfl (rest := rest) rfl
    (by rw [hb]; exact d4) (by rw [hb]; exact d7) hout hRframes (by simp only [List.map_cons, List.sum_cons, hcat]; omega) hlocks
  obtain ⟨f1, f2⟩ := vx_frame hsame
  rw [hhp] at f1 f2
  have hWs : s.WarmedH U.vm := State.WarmedH.trans hW0 hW
  have hcl : s.vm.findClass cls = some ce.cls := by
    have h9 := hO.cls
    rw [hvm] at h9
    exact h9
  have hall : s.sameButNew ({ U with vm := s.vm } : State) locs mc ms := by
    subst hA
    obtain ⟨e1, e2⟩ := hsame
    rw [State.setFrames_setFrames] at e1
    have h2 : (T.setVm s.vm).sameButNew ({ U with vm := s.vm } : State) [] (0 + 1) (0 + 6) := ⟨e1, e2⟩
    have h3 := X.same.trans h2
    rw [List.append_nil] at h3
    exact h3.mono hc hs
  refine ⟨U, ?_, .threw T.heap.size, hrun, hend, Or.inr ⟨T.heap.size, rfl, cls, ce, locs, hx U hWs.alike f1 (fun q hq => f2 q hq (fun z hz => nomatch hz)), hce, hO.vm, hcl, hWs, hall, hf⟩⟩
  refine st1 _ ?_
  show Steps p.tables e below (T1.setTop { method := m, pc := pc + 3, locals := ls, stack := .ref T.heap.size :: rest, locked := none }) _
  jvm_step X₁.here [X₁.here.top, hexec, d3', Value.category]
  exact hsteps
/-- 'throw new E("text")': new; dup; ldc; invokespecial; athrow -/
theorem vx_throwS {cc : ByteArray} {pc : Nat} (hexec : p.tables.exec = Jvm.exec) (hb : c.code = cc) (hl : l.stackTraces = false) {own cls text : String} {names : List String} {ik is ic mc ms sa : Nat} {A : Nat → Prop}
    (hown : s.vm.findClass own = some m.cls) (hcls : Bundle.fit cls = true) (hnames : ∀ n ∈ names, Bundle.fit n = true)
    (hk : (Cond.classLink own ik cls).before args s = true) (hini : (Cond.initialized cls).before args s = true) (hstr : vk_R own is text sa s) (hat : ∀ w ∈ vx_atS own ic cls names, w.before args s = true)
    (hgood : ∀ w ∈ Cond.classLink own ik cls :: Cond.initialized cls :: vx_atS own ic cls names, vx_ot w = true)
    (hU : vx_Zq Bundle.tN "UNASSIGNED_STACK" Bundle.steD A s s.heap) (hN : vx_Zq Bundle.tN "SUPPRESSED_SENTINEL" Bundle.listD A s s.heap) (hS : va_S A s.heap H locs) (hsize : ls.size = c.maxLocals)
    (d0 : decode cc pc = .ok (.new ik, 3)) (d3 : decode cc (pc + 3) = .ok (.dup, 1)) (d4 : decode cc (pc + 4) = .ok (.ldc is, 2)) (d6 : decode cc (pc + 6) = .ok (.invokespecial ic, 3)) (d9 : decode cc (pc + 9) = .ok (.athrow, 1))
    (hout : ∀ x ∈ c.exceptionTable.toList, covers x (pc + 9) = false)
    (hRframes : names.length + 3 < R.frames) (hRlocals : (rest.map fun v => v.category).sum + (13 * (names.length + 1) + 43) ≤ R.locals) (hRcells : cells + 1 ≤ R.cells) (hRslots : slots + 6 ≤ R.slots) (hlocks : meth.locks = false)
    (hx : ∀ t : State, s.vm.Alike t.vm → H.size ≤ t.heap.size → (∀ q : Nat, q < H.size → t.heap[q]? = H[q]?) → XC cls s t)
    (hf : ∀ z ∈ locs, free z.base) (hc : cells + 1 ≤ mc) (hs : slots + 6 ≤ ms) :
    W p l e R s m args below meth c H locs cells slots (vx_MQ below Qc XC args s mc ms free) (F0 m pc ls rest) := by
  intro T hT X
  have htr : e.platform.stackTraces = false := (show e.platform.stackTraces = l.stackTraces by rw [X.admits.platform]).trans hl
  have Y := vx_rebase X (R' := { frames := R.frames, locals := R.locals, cells := 1, slots := 6 }) (Nat.le_refl _) (Nat.le_refl _) hRcells hRslots
  obtain ⟨s', hA⟩ : ∃ z, z = (T.setVm s.vm).setFrames (.invoking m args :: below) := ⟨_, rfl⟩
  rw [← hA] at Y
  have hvm : s'.vm = s.vm := by rw [hA]; rfl
  have hhp : s'.heap = H := by rw [hA]; exact hT
  have hW0 : s.WarmedH s'.vm := by rw [hvm]; exact State.WarmedH.refl s
  have hat' : ∀ w ∈ vx_atS own ic cls names, w.before args s' = true := fun w hw => vx_ot_at hW0 hvm.symm (hgood w (List.mem_cons_of_mem _ (List.mem_cons_of_mem _ hw))) (hat w hw)
  have hk' : (Cond.classLink own ik cls).before args s' = true := vx_ot_at hW0 hvm.symm (hgood _ List.mem_cons_self) hk
  have hini' : (Cond.initialized cls).before args s' = true := vx_ot_at hW0 hvm.symm (hgood _ (List.mem_cons_of_mem _ List.mem_cons_self)) hini
  have hU' : vx_Zq Bundle.tN "UNASSIGNED_STACK" Bundle.steD A s' s'.heap := by rw [hhp]; exact vx_Zq.moved hW0.alike (hU.kept hS.2.1)
  have hN' : vx_Zq Bundle.tN "SUPPRESSED_SENTINEL" Bundle.listD A s' s'.heap := by rw [hhp]; exact vx_Zq.moved hW0.alike (hN.kept hS.2.1)
  have h : ∀ w ∈ Bundle.ownAtoms own ic cls names, w.before args s' = true := vx_own hat' (vx_isRefq hU'.1) (vx_isRefq hN'.1) hU'.2.word hN'.2.word
  have hown' : s'.vm.findClass own = some m.cls := by rw [hvm]; exact hown
  have hins : (Cond.instantiable cls 6).before args s' = true := h _ (by simp [Bundle.ownAtoms])
  obtain ⟨vm₁, cX, kX, hfX, hkX, -, -, X₁, st1⟩ := Y.newCold hexec (own := own) (C := cls) (index := ik) (n := 6) hown' hk' hins hini'
    (g := F0 m pc ls rest) rfl (by rw [hb]; exact d0) (Nat.le_refl _) (Nat.le_refl _)
  generalize hT1 : (T.setVm vm₁).pushCell { cls := cX, slots := kX.instanceTypes.map defaultValue, vm := .none } = T1 at X₁ st1
  have hcat : (Value.ref T.heap.size).category = 1 := rfl
  have hcellA : T1.heap[T.heap.size]? = some (freshCell cX kX) := by rw [← hT1]; exact State.heap_pushCell_size _ _
  have d3' : decode c.code (pc + 3) = .ok (.dup, 1) := by rw [hb]; exact d3
  have d4' : decode c.code (pc + 4) = .ok (.ldc is, 2) := by rw [hb]; exact d4
  have hstr' : vk_R own is text sa s' := vk_R.warm hW0 hstr
  obtain ⟨U, hsteps, hrun, hend, hW, hsame, ce, hce, hO⟩ := X₁.ctorThrowS hexec htr (own := own) (cls := cls) (names := names) (ic := ic) hown' hcls hnames h (fun x hx => nomatch hx) hfX hkX hcellA (by rw [hhp, hT]; exact Nat.le_refl _) (msg := .ref sa) rfl
    (g := { method := m, pc := pc + 6, locals := ls, stack := .ref sa :: .ref T.heap.size :: .ref T.heap.size :: rest, locked := none }) rfl hsize rfl rfl (rest := rest) rfl
    (by rw [hb]; exact d6) (by rw [hb]; exact d9) hout hRframes (by simp only [List.map_cons, List.sum_cons, hcat]; omega) hlocks
  obtain ⟨f1, f2⟩ := vx_frame hsame
  rw [hhp] at f1 f2
  have hWs : s.WarmedH U.vm := State.WarmedH.trans hW0 hW
  have hcl : s.vm.findClass cls = some ce.cls := by
    have h9 := hO.cls
    rw [hvm] at h9
    exact h9
  have hall : s.sameButNew ({ U with vm := s.vm } : State) locs mc ms := by
    subst hA
    obtain ⟨e1, e2⟩ := hsame
    rw [State.setFrames_setFrames] at e1
    have h2 : (T.setVm s.vm).sameButNew ({ U with vm := s.vm } : State) [] (0 + 1) (0 + 6) := ⟨e1, e2⟩
    have h3 := X.same.trans h2
    rw [List.append_nil] at h3
    exact h3.mono hc hs
  refine ⟨U, ?_, .threw T.heap.size, hrun, hend, Or.inr ⟨T.heap.size, rfl, cls, ce, locs, hx U hWs.alike f1 (fun q hq => f2 q hq (fun z hz => nomatch hz)), hce, hO.vm, hcl, hWs, hall, hf⟩⟩
  refine st1 _ ?_
  show Steps p.tables e below (T1.setTop { method := m, pc := pc + 3, locals := ls, stack := .ref T.heap.size :: rest, locked := none }) _
  jvm_step X₁.here [X₁.here.top, hexec, d3', Value.category]
  exact X₁.ldcString hexec (own := own) (text := text) (index := is) (a := sa) hown' hstr'.1 hstr'.2
    (g := { method := m, pc := pc + 4, locals := ls, stack := .ref T.heap.size :: .ref T.heap.size :: rest, locked := none }) rfl d4' _ hsteps
/-- 'throw new E("text")', the text by a wide index -/
theorem vx_throwSW {cc : ByteArray} {pc : Nat} (hexec : p.tables.exec = Jvm.exec) (hb : c.code = cc) (hl : l.stackTraces = false) {own cls text : String} {names : List String} {ik is ic mc ms sa : Nat} {A : Nat → Prop}
    (hown : s.vm.findClass own = some m.cls) (hcls : Bundle.fit cls = true) (hnames : ∀ n ∈ names, Bundle.fit n = true)
    (hk : (Cond.classLink own ik cls).before args s = true) (hini : (Cond.initialized cls).before args s = true) (hstr : vk_R own is text sa s) (hat : ∀ w ∈ vx_atS own ic cls names, w.before args s = true)
    (hgood : ∀ w ∈ Cond.classLink own ik cls :: Cond.initialized cls :: vx_atS own ic cls names, vx_ot w = true)
    (hU : vx_Zq Bundle.tN "UNASSIGNED_STACK" Bundle.steD A s s.heap) (hN : vx_Zq Bundle.tN "SUPPRESSED_SENTINEL" Bundle.listD A s s.heap) (hS : va_S A s.heap H locs) (hsize : ls.size = c.maxLocals)
    (d0 : decode cc pc = .ok (.new ik, 3)) (d3 : decode cc (pc + 3) = .ok (.dup, 1)) (d4 : decode cc (pc + 4) = .ok (.ldc_w is, 3)) (d7 : decode cc (pc + 7) = .ok (.invokespecial ic, 3)) (d10 : decode cc (pc + 10) = .ok (.athrow, 1))
    (hout : ∀ x ∈ c.exceptionTable.toList, covers x (pc + 10) = false)
    (hRframes : names.length + 3 < R.frames) (hRlocals : (rest.map fun v => v.category).sum + (13 * (names.length + 1) + 43) ≤ R.locals) (hRcells : cells + 1 ≤ R.cells) (hRslots : slots + 6 ≤ R.slots) (hlocks : meth.locks = false)
    (hx : ∀ t : State, s.vm.Alike t.vm → H.size ≤ t.heap.size → (∀ q : Nat, q < H.size → t.heap[q]? = H[q]?) → XC cls s t)
    (hf : ∀ z ∈ locs, free z.base) (hc : cells + 1 ≤ mc) (hs : slots + 6 ≤ ms) :
    W p l e R s m args below meth c H locs cells slots (vx_MQ below Qc XC args s mc ms free) (F0 m pc ls rest) := by
  intro T hT X
  have htr : e.platform.stackTraces = false := (show e.platform.stackTraces = l.stackTraces by rw [X.admits.platform]).trans hl
  have Y := vx_rebase X (R' := { frames := R.frames, locals := R.locals, cells := 1, slots := 6 }) (Nat.le_refl _) (Nat.le_refl _) hRcells hRslots
  obtain ⟨s', hA⟩ : ∃ z, z = (T.setVm s.vm).setFrames (.invoking m args :: below) := ⟨_, rfl⟩
  rw [← hA] at Y
  have hvm : s'.vm = s.vm := by rw [hA]; rfl
  have hhp : s'.heap = H := by rw [hA]; exact hT
  have hW0 : s.WarmedH s'.vm := by rw [hvm]; exact State.WarmedH.refl s
  have hat' : ∀ w ∈ vx_atS own ic cls names, w.before args s' = true := fun w hw => vx_ot_at hW0 hvm.symm (hgood w (List.mem_cons_of_mem _ (List.mem_cons_of_mem _ hw))) (hat w hw)
  have hk' : (Cond.classLink own ik cls).before args s' = true := vx_ot_at hW0 hvm.symm (hgood _ List.mem_cons_self) hk
  have hini' : (Cond.initialized cls).before args s' = true := vx_ot_at hW0 hvm.symm (hgood _ (List.mem_cons_of_mem _ List.mem_cons_self)) hini
  have hU' : vx_Zq Bundle.tN "UNASSIGNED_STACK" Bundle.steD A s' s'.heap := by rw [hhp]; exact vx_Zq.moved hW0.alike (hU.kept hS.2.1)
  have hN' : vx_Zq Bundle.tN "SUPPRESSED_SENTINEL" Bundle.listD A s' s'.heap := by rw [hhp]; exact vx_Zq.moved hW0.alike (hN.kept hS.2.1)
  have h : ∀ w ∈ Bundle.ownAtoms own ic cls names, w.before args s' = true := vx_own hat' (vx_isRefq hU'.1) (vx_isRefq hN'.1) hU'.2.word hN'.2.word
  have hown' : s'.vm.findClass own = some m.cls := by rw [hvm]; exact hown
  have hins : (Cond.instantiable cls 6).before args s' = true := h _ (by simp [Bundle.ownAtoms])
  obtain ⟨vm₁, cX, kX, hfX, hkX, -, -, X₁, st1⟩ := Y.newCold hexec (own := own) (C := cls) (index := ik) (n := 6) hown' hk' hins hini'
    (g := F0 m pc ls rest) rfl (by rw [hb]; exact d0) (Nat.le_refl _) (Nat.le_refl _)
  generalize hT1 : (T.setVm vm₁).pushCell { cls := cX, slots := kX.instanceTypes.map defaultValue, vm := .none } = T1 at X₁ st1
  have hcat : (Value.ref T.heap.size).category = 1 := rfl
  have hcellA : T1.heap[T.heap.size]? = some (freshCell cX kX) := by rw [← hT1]; exact State.heap_pushCell_size _ _
  have d3' : decode c.code (pc + 3) = .ok (.dup, 1) := by rw [hb]; exact d3
  have d4' : decode c.code (pc + 4) = .ok (.ldc_w is, 3) := by rw [hb]; exact d4
  have hstr' : vk_R own is text sa s' := vk_R.warm hW0 hstr
  obtain ⟨U, hsteps, hrun, hend, hW, hsame, ce, hce, hO⟩ := X₁.ctorThrowS hexec htr (own := own) (cls := cls) (names := names) (ic := ic) hown' hcls hnames h (fun x hx => nomatch hx) hfX hkX hcellA (by rw [hhp, hT]; exact Nat.le_refl _) (msg := .ref sa) rfl
    (g := { method := m, pc := pc + 7, locals := ls, stack := .ref sa :: .ref T.heap.size :: .ref T.heap.size :: rest, locked := none }) rfl hsize rfl rfl (rest := rest) rfl
    (by rw [hb]; exact d7) (by rw [hb]; exact d10) hout hRframes (by simp only [List.map_cons, List.sum_cons, hcat]; omega) hlocks
  obtain ⟨f1, f2⟩ := vx_frame hsame
  rw [hhp] at f1 f2
  have hWs : s.WarmedH U.vm := State.WarmedH.trans hW0 hW
  have hcl : s.vm.findClass cls = some ce.cls := by
    have h9 := hO.cls
    rw [hvm] at h9
    exact h9
  have hall : s.sameButNew ({ U with vm := s.vm } : State) locs mc ms := by
    subst hA
    obtain ⟨e1, e2⟩ := hsame
    rw [State.setFrames_setFrames] at e1
    have h2 : (T.setVm s.vm).sameButNew ({ U with vm := s.vm } : State) [] (0 + 1) (0 + 6) := ⟨e1, e2⟩
    have h3 := X.same.trans h2
    rw [List.append_nil] at h3
    exact h3.mono hc hs
  refine ⟨U, ?_, .threw T.heap.size, hrun, hend, Or.inr ⟨T.heap.size, rfl, cls, ce, locs, hx U hWs.alike f1 (fun q hq => f2 q hq (fun z hz => nomatch hz)), hce, hO.vm, hcl, hWs, hall, hf⟩⟩
  refine st1 _ ?_
  show Steps p.tables e below (T1.setTop { method := m, pc := pc + 3, locals := ls, stack := .ref T.heap.size :: rest, locked := none }) _
  jvm_step X₁.here [X₁.here.top, hexec, d3', Value.category]
  exact X₁.ldcStringW hexec (own := own) (text := text) (index := is) (a := sa) hown' hstr'.1 hstr'.2
    (g := { method := m, pc := pc + 4, locals := ls, stack := .ref T.heap.size :: .ref T.heap.size :: rest, locked := none }) rfl d4' _ hsteps
end Ends
section Bodies
variable {l : Launch}
theorem vx_ofW {y : MethodName} {ws ws' : List Cond} {rm : Room} {Pc : Array Value → State → Prop} {Qc : Array Value → State → Outcome → State → Prop} {XC : String → State → State → Prop} {mc ms : Nat} {free : Addr → Prop} {cc : ByteArray} {maxL : Nat} {ret : Option FieldType}
    (hy : plainName y.cls = true) (hw : ws = Cond.code y cc maxL ret :: ws')
    (body : ∀ p e s m args below meth c s₁, BodyLoose p l y (headSpec ws rm) cc maxL ret e s m args below meth c s₁ → c.maxLocals = maxL → (∀ x ∈ c.exceptionTable.toList, False) → Pc args s →
      W p l e (headSpec ws rm).room s m args below meth c s.heap [] 0 0 (vx_MQ below Qc XC args s mc ms free) (entryFrame m args maxL)) : vx_Met l y ws rm Pc Qc XC mc ms free := by
  refine MetFree.of_bodyS (code := cc) (maxLocals := maxL) (ret := ret) hy ?_ ?_
  · intro args s m h hn
    obtain ⟨meth, c, h1, h2, h3, h4, h5, h6, -, -⟩ := Cond.code_spec hn (atoms_spec (ws := ws) h _ (by rw [hw]; exact List.mem_cons_self))
    exact ⟨meth, c, h1, h2, h3, h4, h5, h6⟩
  · intro p e s m args below meth c s₁ B hml hP _
    have hh0 : s₁.heap = s.heap := by rw [B.state]; rfl
    have ht : ∀ x ∈ c.exceptionTable.toList, False := by
      obtain ⟨meth9, c9, h1, h2, -, -, -, -, h7, -⟩ := Cond.code_spec B.named (atoms_spec (ws := ws) B.pre _ (by rw [hw]; exact List.mem_cons_self))
      cases Option.some.inj (h1.symm.trans B.method)
      cases Option.some.inj (h2.symm.trans (Stand.of_body B).code)
      intro x hx
      rw [Array.isEmpty_iff.mp h7] at hx
      cases hx
    obtain ⟨t, a1, o, b1, b2, b3⟩ := body p e s m args below meth c s₁ B hml ht hP s₁ hh0 (Stand.of_body B)
    exact ⟨t, o, a1, b1, b2, b3⟩
/-- the table of a body with handlers -/
theorem vx_table {p : Program} {x y : MethodName} {S : Spec} {cc bytes : ByteArray} {maxL maxL' : Nat} {ret ret' : Option FieldType} {e : Env} {s s₁ : State} {m : MethodId} {args : Array Value} {below : List Frame} {meth : Method} {c : Code} {hh : List (Nat × Nat × Nat × Nat)}
    (B : BodyLoose p l y S cc maxL ret e s m args below meth c s₁) (h : (Cond.codeWith y bytes maxL' ret' hh).before args s = true) : c.exceptionTable.toList = tableOf hh := by
  obtain ⟨m9, meth9, c9, hn9, h1, h2, -, -, h6, -⟩ := Cond.codeWith_spec h
  cases Option.some.inj (hn9.symm.trans B.named)
  cases Option.some.inj (h1.symm.trans B.method)
  cases Option.some.inj (h2.symm.trans (Stand.of_body B).code)
  rw [← h6, table_eq]
end Bodies
end VXA
/-! ===== END ===== -/
/-! ===== BEGIN a static call of a method with an exception table ===== -/
section VXS
variable {p : Program} {l : Launch} {e : Env} {R : Room} {s : State} {m : MethodId} {args : Array Value} {below : List Frame} {meth : Method} {c : Code} {T : State} {H : Heap} {locs : List Loc} {cells slots : Nat}
abbrev vx_CSW (R : Room) (s : State) (args : Array Value) (own : String) (index : Nat) (y : MethodName) (bytes : ByteArray) (maxL : Nat) (ret : Option FieldType) (hh : List (Nat × Nat × Nat × Nat)) (ws : List Cond) (rm : Room) (mc ms n : Nat) : Prop :=
  (rm.cells = mc ∧ rm.slots = ms ∧ rm.frames + 1 ≤ R.frames ∧ 8 + (maxL + 11) + rm.locals ≤ R.locals ∧ (∀ w ∈ ws, ∀ (a' : Array Value) (U : State), s.WarmedH U.vm → w.before a' U = true) ∧ Cond.codeWith y bytes maxL ret hh ∈ ws) ∧
  (Cond.codeWith y bytes maxL ret hh).before args s = true ∧ (Cond.initialized y.cls).before args s = true ∧ (y.cls ≠ "java/lang/invoke/MethodHandle" ∧ y.cls ≠ "java/lang/invoke/VarHandle") ∧
  (∀ sig, parseMethodDescriptor y.desc = some sig → n = sig.parameters.length) ∧ (Cond.methodLink own index y).before args s = true ∧ (Cond.static y).before args s = true
theorem vx_cwSW {own : String} {index maxL mc ms : Nat} {y : MethodName} {bytes : ByteArray} {ret : Option FieldType} {hh : List (Nat × Nat × Nat × Nat)} {Ts ws ws' : List Cond} {rm : Room} (n : Nat) (ht : ∀ w ∈ Ts, w.before args s = true) (hT : GoodIn Ts (va_wsS own index y ws)) (hw : ws = Cond.codeWith y bytes maxL ret hh :: ws') (hrc : rm.cells = mc) (hrs : rm.slots = ms)
    (hd : y.cls ≠ "java/lang/invoke/MethodHandle" ∧ y.cls ≠ "java/lang/invoke/VarHandle" ∧ (parseMethodDescriptor y.desc).map (fun d => d.parameters.length) = some n) (hR : rm.frames + 1 ≤ R.frames ∧ 8 + (maxL + 11) + rm.locals ≤ R.locals) :
    vx_CSW R s args own index y bytes maxL ret hh ws rm mc ms n := by
  have ok : ∀ w ∈ va_wsS own index y ws, w.before args s = true := fun w h => ht w (hT w h).1
  have hG : GoodIn Ts ws := fun w h => hT w (by unfold va_wsS; exact List.mem_append_right _ h)
  have hc : Cond.codeWith y bytes maxL ret hh ∈ ws := by rw [hw]; exact List.mem_cons_self
  refine ⟨⟨hrc, hrs, hR.1, hR.2, pay_in ht hG, hc⟩, ht _ (hG _ hc).1, ok _ (by simp [va_wsS]), ⟨hd.1, hd.2.1⟩, fun sig h => ?_, ok _ (by simp [va_wsS]), ok _ (by simp [va_wsS])⟩
  have h2 := hd.2.2
  rw [h] at h2
  exact (Option.some.inj h2).symm
theorem vx_callSW (X : Stand p l e R s m args below meth c T locs cells slots) (hexec : p.tables.exec = Jvm.exec) {own : String} {index : Nat} {y : MethodName} {bytes : ByteArray} {maxL : Nat} {ret : Option FieldType} {hh : List (Nat × Nat × Nat × Nat)}
    (hown : s.vm.findClass own = some m.cls) (hlink : (Cond.methodLink own index y).before args s = true) (hstat : (Cond.static y).before args s = true) (hinit : (Cond.initialized y.cls).before args s = true)
    (hcode : (Cond.codeWith y bytes maxL ret hh).before args s = true) (hy : y.cls ≠ "java/lang/invoke/MethodHandle" ∧ y.cls ≠ "java/lang/invoke/VarHandle")
    {W9 : Nat} {Pre : Pt → Array Value → Prop} {Post : Pt → Array Value → Option Value → Pt → Prop} (hK : Back l R p e below s args y 3 W9 Pre Post)
    {g : JFrame} (hg : g.method = m) (hsize : g.locals.size = c.maxLocals) {argsL rest : List Value} (hlen : ∀ sig, parseMethodDescriptor y.desc = some sig → argsL.length = sig.parameters.length)
    (hstack : g.stack = argsL.reverse ++ rest) (hW : 2 * g.monitorRoom + (rest.map fun v => v.category).sum ≤ W9) (hdg : decode c.code g.pc = .ok (.invokestatic index, 3))
    (hpre : ∀ vm₁, s.WarmedH vm₁ → Pre ⟨T.setVm vm₁, locs, cells, slots⟩ argsL.toArray) :
    ∃ (v : Option Value) (vm₁ : Vm) (B : Pt), s.WarmedH vm₁ ∧ Stand p l e R s m args below meth c B.U B.locs B.cells B.slots ∧ Post ⟨T.setVm vm₁, locs, cells, slots⟩ argsL.toArray v B ∧
      ∀ target, Steps p.tables e below (B.U.setTop { g with pc := g.pc + 3, stack := v.toList ++ rest }) target → Steps p.tables e below (T.setTop g) target := by
  obtain ⟨mk, methM, cM, hnamed, hmethM, -, -, -, -, -, -, hsigM⟩ := Cond.codeWith_spec hcode
  have hstatic : methM.isStatic = true := Cond.static_spec hnamed hmethM hstat
  obtain ⟨kP, hkP, -⟩ := className_of_methodNamed hnamed
  have hinitP : kP.init = .initialized := Cond.initialized_spec (findClass_of_methodNamed hnamed) hkP hinit
  obtain ⟨vm₁, X₁, hstep₁⟩ := X.invokestatic hexec hown hlink hnamed hmethM hstatic hkP hinitP hy (g := g) hg (argsL := argsL) (rest := rest) (hlen _ hsigM) hstack hdg
  obtain ⟨v, B, X', hpost, hsteps⟩ := hK m meth c ⟨T.setVm vm₁, locs, cells, slots⟩ { g with stack := rest } (.invokestatic index) mk argsL.toArray X₁ hg hsize hdg hW (X₁.named hnamed) (hpre vm₁ X₁.warmed)
  exact ⟨v, vm₁, B, X₁.warmed, X', hpost, fun target h => hstep₁ _ fun acts => by rw [doInvoke_state]; exact hsteps.trans h⟩
theorem vx_runSW {y : MethodName} {bytes cc : ByteArray} {maxL nL mc ms n index : Nat} {ret : Option FieldType} {hh : List (Nat × Nat × Nat × Nat)} {ws : List Cond} {rm : Room} {Pc : Array Value → State → Prop} {Qc : Array Value → State → Outcome → State → Prop} {free : Addr → Prop} {Ts : List Cond} {own : String} {As rest : List Value} {g : JFrame}
    (S : CallFix p m c cc nL s args Ts own) (hM : Met l y ws rm Pc Qc mc ms free) (cw : vx_CSW R s args own index y bytes maxL ret hh ws rm mc ms n) (hp : PreS s H Pc As)
    (hg : g.method = m) (hn : As.length = n) (hsize : g.locals.size = nL) (hstack : g.stack = As.reverse ++ rest) (hW : 2 * g.monitorRoom + (rest.map fun v => v.category).sum ≤ 8) (hdg : decode cc g.pc = .ok (.invokestatic index, 3)) (hf : cells + mc ≤ R.cells ∧ slots + ms ≤ R.slots) :
    va_Run p l e R s m args below meth c H locs cells slots mc ms g rest (Qc As.toArray) (free) := by
  obtain ⟨⟨hrc, hrs, hfr, hlo, hws, hcw⟩, hcode, hini, hy, hlen, hl, hstt⟩ := cw
  have hK : Back l R p e below s args y 3 8 (PreOf R mc ms Pc) (PostOf Qc mc ms free) := va_backW (hh := hh) (bytes := bytes) (maxL := maxL) (ret := ret) hM hp.1 hrc hrs hfr hlo hws hcw (fun a' U hW => word_at hW (Or.inl (by first | rfl | simp [Cond.onTables, Cond.keeps, Cond.steady])) hini)
  obtain ⟨hx, hb, hml, ho, -⟩ := S
  intro T hT X
  obtain ⟨v, vm₁, ⟨U', l2, c2, s2⟩, hW₁, X', ⟨g', mk, t, L, e1, e2, hq, h1, hL, h2, h3⟩, st⟩ := vx_callSW X hx (hh := hh) (bytes := bytes) (maxL := maxL) (ret := ret) ho hl hstt hini hcode hy hK hg (hsize.trans hml.symm) (argsL := As) (rest := rest) (fun sig h => hn.trans (hlen sig h)) hstack hW (by rw [hb]; exact hdg)
    (fun vm₁ hW₁ => ⟨hf.1, hf.2, hp.2 (T.setVm vm₁) hT hW₁⟩)
  dsimp only [Pt.U, Pt.locs, Pt.cells, Pt.slots] at X' e1 e2 h1 h2 h3 st
  subst h1; subst h2; subst h3
  exact ⟨v, (T.setVm vm₁).calling g' mk As.toArray, t, U', L, hT, X', hL, e1, e2, hq, st⟩
/-- not caught here, past rows that name other classes: it goes on to the caller -/
theorem vx_outP {p : Program} {l : Launch} {e : Env} {R : Room} {s : State} {m : MethodId} {args : Array Value} {below : List Frame} {meth : Method} {c : Code} {H : Heap} {locs : List Loc} {cells slots : Nat} {free : Addr → Prop} {ls : Array Slot} {rest : List Value} {Qc : Array Value → State → Outcome → State → Prop} {XC : String → State → State → Prop}
    {pc : Nat} {own E : String} {ce : Cell} {q : Addr} {mc ms : Nat} (hown : s.vm.findClass own = some m.cls) (hlocks : meth.locks = false)
    (hpass : ∀ z ∈ c.exceptionTable.toList, covers z pc = false ∨ (z.catchType ≠ 0 ∧ ∃ nm : String, (Cond.classLink own z.catchType nm).before args s = true ∧ va_Nc E nm s)) (hcell : H[q]? = some ce) (hv : ce.vm = .none) (hcl : s.vm.findClass E = some ce.cls)
    (hx : ∀ t : State, t.heap = H → s.vm.Alike t.vm → XC E s t) (hf : ∀ z ∈ locs, free z.base) (hc : cells ≤ mc) (hs : slots ≤ ms) :
    vx_W p l e R s m args below meth c H locs cells slots (vx_MQ below Qc XC args s mc ms free) (F0 m pc ls rest) q := by
  intro T hT X
  have hpl : e.platform.magicAccessors = ({} : Platform).magicAccessors := by rw [X.admits.platform]
  obtain ⟨vm', hW', X', st⟩ := X.outThrough hlocks q (g := F0 m pc ls rest) rfl rfl rfl (cell := ce) (by rw [hT]; exact hcell) (by rw [hv]; rfl)
    (by obtain ⟨k9, h9, -⟩ := Vm.findClass_spec hcl; exact ⟨k9, h9⟩) (fun z hz => by
      rcases hpass z hz with h | ⟨hz0, nm, hl1, hn1⟩
      · exact Or.inl h
      · obtain ⟨c6, hc6, hcl6⟩ := Cond.classLink_spec hown hl1 e.platform hpl
        obtain ⟨a8, b8, h1, h2, h3⟩ := hn1
        cases Option.some.inj (h1.symm.trans hcl)
        cases Option.some.inj (h2.symm.trans hc6)
        exact Or.inr ⟨hz0, _, hcl6, h3⟩)
  obtain ⟨g₀, hfr⟩ := X'.frames_eq
  have hcell9 : ((T.setVm vm').setFrames (.throwing q :: below)).heap[q]? = some ce := by
    show T.heap[q]? = some ce
    rw [hT]; exact hcell
  have hend : Ended ((T.setVm vm').setFrames (.throwing q :: below)) below (.threw q) := State.frames_setFrames _ (State.cur_lt_of_frames hfr)
  refine ⟨(T.setVm vm').setFrames (.throwing q :: below), ?_, .threw q, X'.here.running, hend, Or.inr ⟨q, rfl, E, ce, locs, hx _ hT (X'.ends _).1.alike, hcell9, hv, hcl, (X'.ends _).1, (X'.ends _).2.mono hc hs, hf⟩⟩
  rw [X.pushThrowing_eq]
  exact st
/-- a thing of a world lies in the heap -/
theorem vx_lt {D : va_G} {cl : List vw_C} {ws : va_W} {H1 : Heap} (h : va_P D cl ws H1) {k : Nat} {q : Nat × va_E} (hk : ws[k]? = some q) : q.1 < H1.size := (h k q hk).lt
end VXS
/-! ===== END ===== -/
/-! ===== BEGIN methods with a table of their own: called by a name, returning or throwing ===== -/
section VXH
/-! vx_backW, vx_callVX, vx_callSX, vx_callVW, vx_runVW, vx_runVX, vx_runSX, vx_ofWH follow the same proofs as their sisters above (Free/Laws.lean, Shelf42/LK1.lean); vx_outP calls Shelf42/NT130.lean (outThrough). -/
section
variable {l : Launch} {R : Room} {p : Program} {e : Env} {below : List Frame} {s : State} {sargs : Array Value} {y : MethodName} {len W9 : Nat}
theorem vx_backW {ws : List Cond} {rm : Room} {Pc : Array Value → State → Prop} {Qc : Array Value → State → Outcome → State → Prop} {XC : String → State → State → Prop} {mc ms : Nat} {free : Addr → Prop} {bytes : ByteArray} {maxL : Nat} {ret : Option FieldType} {hh : List (Nat × Nat × Nat × Nat)}
    (hM : vx_Met l y ws rm Pc Qc XC mc ms free) (hblind : FrameBlind Pc) (hrc : rm.cells = mc) (hrs : rm.slots = ms)
    (hframes : rm.frames + 1 ≤ R.frames) (hlocals : W9 + (maxL + 11) + rm.locals ≤ R.locals)
    (hws : ∀ w ∈ ws, ∀ a' U, s.WarmedH U.vm → w.before a' U = true) (hcode : Cond.codeWith y bytes maxL ret hh ∈ ws) (hinit : ∀ a' U, s.WarmedH U.vm → (Cond.initialized y.cls).before a' U = true) :
    vx_Back l R p e below s sargs y len W9 (PreOf R mc ms Pc) (PostOf Qc mc ms free) (vx_Post XC mc ms free) := by
  intro m meth c A g ig mk a X hg hsize hdg hW hn hp
  have h1 : (headSpec ws rm).pre.before a A.U = true := atoms_intro fun w hw => hws w hw _ _ X.warmed
  have h2 : (Cond.codeWith y bytes maxL ret hh).before a A.U = true := hws _ hcode _ _ X.warmed
  have h3 : (Cond.initialized y.cls).before a A.U = true := hinit _ _ X.warmed
  have h4 : A.cells + (headSpec ws rm).room.cells ≤ R.cells := by rw [show (headSpec ws rm).room.cells = mc from hrc]; exact hp.1
  have h5 : A.slots + (headSpec ws rm).room.slots ≤ R.slots := by rw [show (headSpec ws rm).room.slots = ms from hrs]; exact hp.2.1
  have hPc : Pc a (A.U.calling g mk a) := hblind _ _ _ _ hp.2.2
  obtain ⟨U, Ls, c0, s0⟩ := A
  dsimp only [Pt.U, Pt.locs, Pt.cells, Pt.slots] at h1 h2 h3 h4 h5 X hn hPc ⊢
  obtain ⟨m9, methY, cY, hn9, hmY, hcY, -, hlY, -⟩ := Cond.codeWith_spec h2
  cases Option.some.inj (hn9.symm.trans hn)
  obtain ⟨kY, hkY, -⟩ := className_of_methodNamed hn
  have hinitY : kY.init = .initialized := Cond.initialized_spec (findClass_of_methodNamed hn) hkY h3
  have h : At U g.method c below := by rw [hg]; exact X.here
  have hlocals9 : W9 + (maxL + 11) + (headSpec ws rm).room.locals ≤ R.locals := hlocals
  have happ : (headSpec ws rm).appliesLoose y e.platform (U.calling g mk a) = true :=
    Spec.appliesLoose_calling (g := g) h hdg hn hkY hinitY
      (X.room_calling (g := g) (R' := (headSpec ws rm).room) hsize hmY hcY hframes (by rw [hlY]; omega) h4 h5) h1
  obtain ⟨mid, hmid⟩ := h.above
  have hfr : (U.setTop g).frames = (.java g :: mid) ++ below := by rw [State.frames_setTop' g h.top, hmid]; rfl
  obtain ⟨o, s₂, hsteps, -, hend, hq⟩ := Steps.callFree hM p X.admits X.cas X.clock (acts := []) hfr happ hPc trivial
  have hq' : vx_Q Qc XC mc ms free a (U.calling g mk a) o s₂ := hq
  rw [State.frames_setTop' g h.top] at hend
  obtain ⟨g₀, hg0⟩ := Option.isSome_iff_exists.mp h.top
  obtain ⟨r, hr⟩ := State.topJava?_eq_some.mp hg0
  have hr' : (({ U with heap := s₂.heap, slotsUsed := s₂.slotsUsed } : State).setVm s₂.vm).frames = .java g₀ :: r := hr
  rcases hq' with ⟨hqc, L, hfe, hL⟩ | ⟨q, rfl, E, ce, L, hx, hce, hcv, hcl, hW₂, hsm, hL⟩
  · obtain ⟨⟨v, rfl⟩, hW₂, e2, q2, q3, q4, q5, q6⟩ := id hfe
    have e3 : s₂ = ({ (U.calling g mk a).setFrames s₂.frames with heap := s₂.heap, slotsUsed := s₂.slotsUsed } : State).setVm s₂.vm := by
      have : s₂ = ({ s₂ with vm := (U.calling g mk a).vm } : State).setVm s₂.vm := rfl
      rw [e2] at this
      exact this
    obtain ⟨c₂, i₂, len₂, hc₂, hd₂, hf₂⟩ := hend
    have hW' : U.WarmedH s₂.vm := hW₂
    have hcc : c₂ = c := by
      have h1 : s₂.code? g.method = U.code? g.method := by
        rw [State.code?_eq, State.code?_eq, hW'.alike.method?]
      exact Option.some.inj (hc₂.symm.trans (h1.trans h.code))
    subst hcc
    have hlen : len₂ = len := by rw [hdg] at hd₂; cases hd₂; rfl
    subst hlen
    have hs₂ : s₂ = (({ U with heap := s₂.heap, slotsUsed := s₂.slotsUsed } : State).setVm s₂.vm).setTop { g with pc := g.pc + len₂, stack := v.toList ++ g.stack } := by
      refine e3.trans ?_
      rw [hf₂, State.calling_eq h.top, State.setFrames_setFrames, State.setTop_of_frames _ hr', hr]
      rfl
    have hsame : U.sameButNew ({ U with heap := s₂.heap, slotsUsed := s₂.slotsUsed } : State) L mc ms := by
      refine ⟨?_, q2, q3, q4, q5, q6⟩
      obtain ⟨t, ht, -⟩ := State.frames_cons hr
      show ({ U with heap := s₂.heap, slotsUsed := s₂.slotsUsed } : State) = { U.setFrames U.frames with heap := s₂.heap, slotsUsed := s₂.slotsUsed }
      rw [State.setFrames_self ht]
    subst hg
    refine Or.inl ⟨v, ⟨(({ U with heap := s₂.heap, slotsUsed := s₂.slotsUsed } : State).setVm s₂.vm), Ls ++ L, c0 + mc, s0 + ms⟩,
      ⟨X.admits, X.cas, X.clock, X.frames, X.room, X.hears, X.method, X.code, (X.here.setHeapUsed s₂.heap s₂.slotsUsed).setVm hW'.alike, X.tail, State.WarmedH.trans X.warmed hW', X.limits, X.bytes, X.same.trans (hsame.setVm s.vm)⟩,
      ⟨g, mk, s₂, L, rfl, rfl, hqc, rfl, hL, rfl, rfl⟩, ?_⟩
    show Steps p.tables e below _ ((({ U with heap := s₂.heap, slotsUsed := s₂.slotsUsed } : State).setVm s₂.vm).setTop { g with pc := g.pc + len₂, stack := v.toList ++ g.stack })
    rw [← hs₂]
    exact hsteps
  · obtain ⟨e2, q2, q3, q4, q5, q6⟩ := id hsm
    have e3 : s₂ = ({ (U.calling g mk a).setFrames s₂.frames with heap := s₂.heap, slotsUsed := s₂.slotsUsed } : State).setVm s₂.vm := by
      have : s₂ = ({ s₂ with vm := (U.calling g mk a).vm } : State).setVm s₂.vm := rfl
      rw [e2] at this
      exact this
    have hf₂ : s₂.frames = .throwing q :: .java g :: U.frames.tail := hend
    have hW' : U.WarmedH s₂.vm := hW₂
    have hs₂ : s₂ = ((({ U with heap := s₂.heap, slotsUsed := s₂.slotsUsed } : State).setVm s₂.vm).setTop g).pushFrame (.throwing q) := by
      refine e3.trans ?_
      rw [hf₂, State.calling_eq h.top, State.setFrames_setFrames, State.pushFrame, State.frames_setTop _ hr', State.setTop_of_frames _ hr', State.setFrames_setFrames, hr]
      rfl
    have hsame : U.sameButNew ({ U with heap := s₂.heap, slotsUsed := s₂.slotsUsed } : State) L mc ms := by
      refine ⟨?_, q2, q3, q4, q5, q6⟩
      obtain ⟨t, ht, -⟩ := State.frames_cons hr
      show ({ U with heap := s₂.heap, slotsUsed := s₂.slotsUsed } : State) = { U.setFrames U.frames with heap := s₂.heap, slotsUsed := s₂.slotsUsed }
      rw [State.setFrames_self ht]
    subst hg
    refine Or.inr ⟨q, ⟨(({ U with heap := s₂.heap, slotsUsed := s₂.slotsUsed } : State).setVm s₂.vm), Ls ++ L, c0 + mc, s0 + ms⟩,
      ⟨X.admits, X.cas, X.clock, X.frames, X.room, X.hears, X.method, X.code, (X.here.setHeapUsed s₂.heap s₂.slotsUsed).setVm hW'.alike, X.tail, State.WarmedH.trans X.warmed hW', X.limits, X.bytes, X.same.trans (hsame.setVm s.vm)⟩,
      ⟨g, mk, s₂, L, E, ce, rfl, rfl, hx, hce, hcv, hcl, rfl, hL, rfl, rfl⟩, ?_⟩
    show Steps p.tables e below _ (((({ U with heap := s₂.heap, slotsUsed := s₂.slotsUsed } : State).setVm s₂.vm).setTop g).pushFrame (.throwing q))
    rw [← hs₂]
    exact hsteps
end
variable {p : Program} {l : Launch} {e : Env} {R : Room} {s : State} {m : MethodId} {args : Array Value} {below : List Frame} {meth : Method} {c : Code} {T : State} {H : Heap} {locs : List Loc} {cells slots : Nat}
theorem vx_callVX (X : Stand p l e R s m args below meth c T locs cells slots) (hexec : p.tables.exec = Jvm.exec) {own C : String} {index : Nat} {y : MethodName} {bytes : ByteArray} {maxL : Nat} {ret : Option FieldType} {hh : List (Nat × Nat × Nat × Nat)}
    (hown : s.vm.findClass own = some m.cls) (hlink : (Cond.methodLink own index y).before args s = true) (hinst : (Cond.instanceMethod y).before args s = true) (hsel : (Cond.selects C y y).before args s = true)
    (hcode : (Cond.codeWith y bytes maxL ret hh).before args s = true) (hy : y.cls ≠ "java/lang/invoke/MethodHandle" ∧ y.cls ≠ "java/lang/invoke/VarHandle")
    {W9 : Nat} {Pre : Pt → Array Value → Prop} {Post : Pt → Array Value → Option Value → Pt → Prop} {PostX : Pt → Array Value → Addr → Pt → Prop} (hK : vx_Back l R p e below s args y 3 W9 Pre Post PostX)
    {b : Addr} {cellB : Cell} (hcell : T.heap[b]? = some cellB) (hobj : cellB.vm.isStatics = false) (hcls : s.vm.findClass C = some cellB.cls)
    {g : JFrame} (hg : g.method = m) (hsize : g.locals.size = c.maxLocals) {argsL rest : List Value} (hlen : ∀ sig, parseMethodDescriptor y.desc = some sig → argsL.length = sig.parameters.length)
    (hstack : g.stack = argsL.reverse ++ .ref b :: rest) (hW : 2 * g.monitorRoom + (rest.map fun v => v.category).sum ≤ W9) (hdg : decode c.code g.pc = .ok (.invokevirtual index, 3))
    (hpre : ∀ vm₁, s.WarmedH vm₁ → Pre ⟨T.setVm vm₁, locs, cells, slots⟩ (Value.ref b :: argsL).toArray) :
    (∃ (v : Option Value) (vm₁ : Vm) (B : Pt), s.WarmedH vm₁ ∧ Stand p l e R s m args below meth c B.U B.locs B.cells B.slots ∧ Post ⟨T.setVm vm₁, locs, cells, slots⟩ (Value.ref b :: argsL).toArray v B ∧
      ∀ target, Steps p.tables e below (B.U.setTop { g with pc := g.pc + 3, stack := v.toList ++ rest }) target → Steps p.tables e below (T.setTop g) target) ∨
    (∃ (q : Addr) (vm₁ : Vm) (B : Pt), s.WarmedH vm₁ ∧ Stand p l e R s m args below meth c B.U B.locs B.cells B.slots ∧ PostX ⟨T.setVm vm₁, locs, cells, slots⟩ (Value.ref b :: argsL).toArray q B ∧
      Steps p.tables e below (T.setTop g) ((B.U.setTop { g with stack := rest }).pushFrame (.throwing q))) := by
  obtain ⟨mk, methM, hnamed, hmethM, hstM, habM⟩ := Cond.instanceMethod_spec hinst
  obtain ⟨m8, methM', cM, hn8, hmethM', -, -, -, -, -, -, hsigM⟩ := Cond.codeWith_spec hcode
  cases Option.some.inj (hn8.symm.trans hnamed)
  cases hmethM.symm.trans hmethM'
  obtain ⟨c2, r2, m2, q1, q2, q3, q4, kP, hkP, hkPi⟩ := Cond.selects_spec hsel
  cases hcls.symm.trans q1
  cases (State.methodFound?_of_named hnamed hy).symm.trans q2
  cases hnamed.symm.trans q3
  have hselP : selectMethod e.platform s.vm cellB.cls mk = .method mk := by rw [Launch.admits_selectMethod X.admits]; exact q4
  obtain ⟨vm₁, X₁, hstep₁⟩ := X.invokevirtual hexec hown hlink hnamed hmethM hstM hkP hkPi hy (a := b) (cell := cellB) hcell
    (fun z h => by rw [h] at hobj; cases hobj) hselP hmethM habM hkP hkPi (g := g) hg (argsL := argsL) (rest := rest) (hlen _ hsigM) hstack hdg
  rcases hK m meth c ⟨T.setVm vm₁, locs, cells, slots⟩ { g with stack := rest } (.invokevirtual index) mk (Value.ref b :: argsL).toArray X₁ hg hsize hdg hW (X₁.named hnamed) (hpre vm₁ X₁.warmed) with ⟨v, B, X', hpost, hsteps⟩ | ⟨q, B, X', hpost, hsteps⟩
  · exact Or.inl ⟨v, vm₁, B, X₁.warmed, X', hpost, fun target h => hstep₁ _ fun acts => by rw [doInvoke_state]; exact hsteps.trans h⟩
  · exact Or.inr ⟨q, vm₁, B, X₁.warmed, X', hpost, hstep₁ _ fun acts => by rw [doInvoke_state]; exact hsteps⟩
theorem vx_callSX (X : Stand p l e R s m args below meth c T locs cells slots) (hexec : p.tables.exec = Jvm.exec) {own : String} {index : Nat} {y : MethodName} {bytes : ByteArray} {maxL : Nat} {ret : Option FieldType} {hh : List (Nat × Nat × Nat × Nat)}
    (hown : s.vm.findClass own = some m.cls) (hlink : (Cond.methodLink own index y).before args s = true) (hstat : (Cond.static y).before args s = true) (hinit : (Cond.initialized y.cls).before args s = true)
    (hcode : (Cond.codeWith y bytes maxL ret hh).before args s = true) (hy : y.cls ≠ "java/lang/invoke/MethodHandle" ∧ y.cls ≠ "java/lang/invoke/VarHandle")
    {W9 : Nat} {Pre : Pt → Array Value → Prop} {Post : Pt → Array Value → Option Value → Pt → Prop} {PostX : Pt → Array Value → Addr → Pt → Prop} (hK : vx_Back l R p e below s args y 3 W9 Pre Post PostX)
    {g : JFrame} (hg : g.method = m) (hsize : g.locals.size = c.maxLocals) {argsL rest : List Value} (hlen : ∀ sig, parseMethodDescriptor y.desc = some sig → argsL.length = sig.parameters.length)
    (hstack : g.stack = argsL.reverse ++ rest) (hW : 2 * g.monitorRoom + (rest.map fun v => v.category).sum ≤ W9) (hdg : decode c.code g.pc = .ok (.invokestatic index, 3))
    (hpre : ∀ vm₁, s.WarmedH vm₁ → Pre ⟨T.setVm vm₁, locs, cells, slots⟩ argsL.toArray) :
    (∃ (v : Option Value) (vm₁ : Vm) (B : Pt), s.WarmedH vm₁ ∧ Stand p l e R s m args below meth c B.U B.locs B.cells B.slots ∧ Post ⟨T.setVm vm₁, locs, cells, slots⟩ argsL.toArray v B ∧
      ∀ target, Steps p.tables e below (B.U.setTop { g with pc := g.pc + 3, stack := v.toList ++ rest }) target → Steps p.tables e below (T.setTop g) target) ∨
    (∃ (q : Addr) (vm₁ : Vm) (B : Pt), s.WarmedH vm₁ ∧ Stand p l e R s m args below meth c B.U B.locs B.cells B.slots ∧ PostX ⟨T.setVm vm₁, locs, cells, slots⟩ argsL.toArray q B ∧
      Steps p.tables e below (T.setTop g) ((B.U.setTop { g with stack := rest }).pushFrame (.throwing q))) := by
  obtain ⟨mk, methM, cM, hnamed, hmethM, -, -, -, -, -, -, hsigM⟩ := Cond.codeWith_spec hcode
  have hstatic : methM.isStatic = true := Cond.static_spec hnamed hmethM hstat
  obtain ⟨kP, hkP, -⟩ := className_of_methodNamed hnamed
  have hinitP : kP.init = .initialized := Cond.initialized_spec (findClass_of_methodNamed hnamed) hkP hinit
  obtain ⟨vm₁, X₁, hstep₁⟩ := X.invokestatic hexec hown hlink hnamed hmethM hstatic hkP hinitP hy (g := g) hg (argsL := argsL) (rest := rest) (hlen _ hsigM) hstack hdg
  rcases hK m meth c ⟨T.setVm vm₁, locs, cells, slots⟩ { g with stack := rest } (.invokestatic index) mk argsL.toArray X₁ hg hsize hdg hW (X₁.named hnamed) (hpre vm₁ X₁.warmed) with ⟨v, B, X', hpost, hsteps⟩ | ⟨q, B, X', hpost, hsteps⟩
  · exact Or.inl ⟨v, vm₁, B, X₁.warmed, X', hpost, fun target h => hstep₁ _ fun acts => by rw [doInvoke_state]; exact hsteps.trans h⟩
  · exact Or.inr ⟨q, vm₁, B, X₁.warmed, X', hpost, hstep₁ _ fun acts => by rw [doInvoke_state]; exact hsteps⟩
theorem vx_callVW (X : Stand p l e R s m args below meth c T locs cells slots) (hexec : p.tables.exec = Jvm.exec) {own C : String} {index : Nat} {y : MethodName} {bytes : ByteArray} {maxL : Nat} {ret : Option FieldType} {hh : List (Nat × Nat × Nat × Nat)}
    (hown : s.vm.findClass own = some m.cls) (hlink : (Cond.methodLink own index y).before args s = true) (hinst : (Cond.instanceMethod y).before args s = true) (hsel : (Cond.selects C y y).before args s = true)
    (hcode : (Cond.codeWith y bytes maxL ret hh).before args s = true) (hy : y.cls ≠ "java/lang/invoke/MethodHandle" ∧ y.cls ≠ "java/lang/invoke/VarHandle")
    {W9 : Nat} {Pre : Pt → Array Value → Prop} {Post : Pt → Array Value → Option Value → Pt → Prop} (hK : Back l R p e below s args y 3 W9 Pre Post)
    {b : Addr} {cellB : Cell} (hcell : T.heap[b]? = some cellB) (hobj : cellB.vm.isStatics = false) (hcls : s.vm.findClass C = some cellB.cls)
    {g : JFrame} (hg : g.method = m) (hsize : g.locals.size = c.maxLocals) {argsL rest : List Value} (hlen : ∀ sig, parseMethodDescriptor y.desc = some sig → argsL.length = sig.parameters.length)
    (hstack : g.stack = argsL.reverse ++ .ref b :: rest) (hW : 2 * g.monitorRoom + (rest.map fun v => v.category).sum ≤ W9) (hdg : decode c.code g.pc = .ok (.invokevirtual index, 3))
    (hpre : ∀ vm₁, s.WarmedH vm₁ → Pre ⟨T.setVm vm₁, locs, cells, slots⟩ (Value.ref b :: argsL).toArray) :
    ∃ (v : Option Value) (vm₁ : Vm) (B : Pt), s.WarmedH vm₁ ∧ Stand p l e R s m args below meth c B.U B.locs B.cells B.slots ∧ Post ⟨T.setVm vm₁, locs, cells, slots⟩ (Value.ref b :: argsL).toArray v B ∧
      ∀ target, Steps p.tables e below (B.U.setTop { g with pc := g.pc + 3, stack := v.toList ++ rest }) target → Steps p.tables e below (T.setTop g) target := by
  obtain ⟨mk, methM, hnamed, hmethM, hstM, habM⟩ := Cond.instanceMethod_spec hinst
  obtain ⟨m8, methM', cM, hn8, hmethM', -, -, -, -, -, -, hsigM⟩ := Cond.codeWith_spec hcode
  cases Option.some.inj (hn8.symm.trans hnamed)
  cases hmethM.symm.trans hmethM'
  obtain ⟨c2, r2, m2, q1, q2, q3, q4, kP, hkP, hkPi⟩ := Cond.selects_spec hsel
  cases hcls.symm.trans q1
  cases (State.methodFound?_of_named hnamed hy).symm.trans q2
  cases hnamed.symm.trans q3
  have hselP : selectMethod e.platform s.vm cellB.cls mk = .method mk := by rw [Launch.admits_selectMethod X.admits]; exact q4
  obtain ⟨vm₁, X₁, hstep₁⟩ := X.invokevirtual hexec hown hlink hnamed hmethM hstM hkP hkPi hy (a := b) (cell := cellB) hcell
    (fun z h => by rw [h] at hobj; cases hobj) hselP hmethM habM hkP hkPi (g := g) hg (argsL := argsL) (rest := rest) (hlen _ hsigM) hstack hdg
  obtain ⟨v, B, X', hpost, hsteps⟩ := hK m meth c ⟨T.setVm vm₁, locs, cells, slots⟩ { g with stack := rest } (.invokevirtual index) mk (Value.ref b :: argsL).toArray X₁ hg hsize hdg hW (X₁.named hnamed) (hpre vm₁ X₁.warmed)
  exact ⟨v, vm₁, B, X₁.warmed, X', hpost, fun target h => hstep₁ _ fun acts => by rw [doInvoke_state]; exact hsteps.trans h⟩
abbrev vx_CVW (R : Room) (s : State) (args : Array Value) (own C : String) (index : Nat) (y : MethodName) (bytes : ByteArray) (maxL : Nat) (ret : Option FieldType) (hh : List (Nat × Nat × Nat × Nat)) (ws : List Cond) (rm : Room) (mc ms n : Nat) : Prop :=
  (rm.cells = mc ∧ rm.slots = ms ∧ rm.frames + 1 ≤ R.frames ∧ 8 + (maxL + 11) + rm.locals ≤ R.locals ∧ (∀ w ∈ ws, ∀ (a' : Array Value) (U : State), s.WarmedH U.vm → w.before a' U = true) ∧ Cond.codeWith y bytes maxL ret hh ∈ ws) ∧
  (Cond.codeWith y bytes maxL ret hh).before args s = true ∧ (Cond.initialized y.cls).before args s = true ∧ (y.cls ≠ "java/lang/invoke/MethodHandle" ∧ y.cls ≠ "java/lang/invoke/VarHandle") ∧
  (∀ sig, parseMethodDescriptor y.desc = some sig → n = sig.parameters.length) ∧ (Cond.methodLink own index y).before args s = true ∧ (Cond.instanceMethod y).before args s = true ∧ (Cond.selects C y y).before args s = true
theorem vx_cwVW {own C : String} {index maxL mc ms : Nat} {y : MethodName} {bytes : ByteArray} {ret : Option FieldType} {hh : List (Nat × Nat × Nat × Nat)} {Ts ws ws' : List Cond} {rm : Room} (n : Nat) (ht : ∀ w ∈ Ts, w.before args s = true) (hT : GoodIn Ts (wsV own index C y ws)) (hw : ws = Cond.codeWith y bytes maxL ret hh :: ws') (hrc : rm.cells = mc) (hrs : rm.slots = ms)
    (hd : y.cls = C ∧ y.cls ≠ "java/lang/invoke/MethodHandle" ∧ y.cls ≠ "java/lang/invoke/VarHandle" ∧ (parseMethodDescriptor y.desc).map (fun d => d.parameters.length) = some n) (hR : rm.frames + 1 ≤ R.frames ∧ 8 + (maxL + 11) + rm.locals ≤ R.locals) :
    vx_CVW R s args own C index y bytes maxL ret hh ws rm mc ms n := by
  obtain ⟨hC, hd⟩ := hd
  subst hC
  have ok : ∀ w ∈ wsV own index y.cls y ws, w.before args s = true := fun w h => ht w (hT w h).1
  have hG : GoodIn Ts ws := fun w h => hT w (by unfold wsV; exact List.mem_append_right _ h)
  have hc : Cond.codeWith y bytes maxL ret hh ∈ ws := by rw [hw]; exact List.mem_cons_self
  refine ⟨⟨hrc, hrs, hR.1, hR.2, pay_in ht hG, hc⟩, ht _ (hG _ hc).1, ok _ (by simp [wsV]), ⟨hd.1, hd.2.1⟩, fun sig h => ?_, ok _ (by simp [wsV]), ok _ (by simp [wsV]), ok _ (by simp [wsV])⟩
  have h2 := hd.2.2
  rw [h] at h2
  exact (Option.some.inj h2).symm
theorem vx_runVW {y : MethodName} {bytes cc : ByteArray} {maxL nL mc ms n index : Nat} {ret : Option FieldType} {hh : List (Nat × Nat × Nat × Nat)} {ws : List Cond} {rm : Room} {Pc : Array Value → State → Prop} {Qc : Array Value → State → Outcome → State → Prop} {free : Addr → Prop} {Ts : List Cond} {own C : String} {b : Addr} {As rest : List Value} {g : JFrame}
    (S : CallFix p m c cc nL s args Ts own) (hM : Met l y ws rm Pc Qc mc ms free) (cw : vx_CVW R s args own C index y bytes maxL ret hh ws rm mc ms n) (hp : PreV s H C b Pc As)
    (hg : g.method = m) (hn : As.length = n) (hsize : g.locals.size = nL) (hstack : g.stack = As.reverse ++ .ref b :: rest) (hW : 2 * g.monitorRoom + (rest.map fun v => v.category).sum ≤ 8) (hdg : decode cc g.pc = .ok (.invokevirtual index, 3)) (hf : cells + mc ≤ R.cells ∧ slots + ms ≤ R.slots) :
    va_Run p l e R s m args below meth c H locs cells slots mc ms g rest (Qc (Value.ref b :: As).toArray) free := by
  obtain ⟨⟨hrc, hrs, hfr, hlo, hws, hcw⟩, hcode, hini, hy, hlen, hl, hin, hse⟩ := cw
  have hK : Back l R p e below s args y 3 8 (PreOf R mc ms Pc) (PostOf Qc mc ms free) := va_backW (hh := hh) (bytes := bytes) (maxL := maxL) (ret := ret) hM hp.1 hrc hrs hfr hlo hws hcw (fun a' U hW => word_at hW (Or.inl (by first | rfl | simp [Cond.onTables, Cond.keeps, Cond.steady])) hini)
  obtain ⟨hx, hb, hml, ho, -⟩ := S
  obtain ⟨-, ⟨cellB, hcB, hoB, hclB⟩, hPc⟩ := hp
  intro T hT X
  obtain ⟨v, vm₁, ⟨U', l2, c2, s2⟩, hW₁, X', ⟨g', mk, t, L, e1, e2, hq, h1, hL, h2, h3⟩, st⟩ := vx_callVW X hx (C := C) (hh := hh) (bytes := bytes) (maxL := maxL) (ret := ret) ho hl hin hse hcode hy hK (by rw [hT]; exact hcB) hoB hclB hg (hsize.trans hml.symm) (argsL := As) (rest := rest) (fun sig h => hn.trans (hlen sig h)) hstack hW (by rw [hb]; exact hdg)
    (fun vm₁ hW₁ => ⟨hf.1, hf.2, hPc (T.setVm vm₁) hT hW₁⟩)
  dsimp only [Pt.U, Pt.locs, Pt.cells, Pt.slots] at X' e1 e2 h1 h2 h3 st
  subst h1; subst h2; subst h3
  exact ⟨v, (T.setVm vm₁).calling g' mk (Value.ref b :: As).toArray, t, U', L, hT, X', hL, e1, e2, hq, st⟩
section
variable {y : MethodName} {bytes cc : ByteArray} {maxL nL mc ms n index : Nat} {ret : Option FieldType} {ws : List Cond} {rm : Room} {Pc : Array Value → State → Prop} {Qc : Array Value → State → Outcome → State → Prop} {XC : String → State → State → Prop} {free : Addr → Prop} {Ts : List Cond} {own C : String} {b : Addr} {As rest : List Value} {g : JFrame}
theorem vx_runVX {hh : List (Nat × Nat × Nat × Nat)} (S : CallFix p m c cc nL s args Ts own) (hM : vx_Met l y ws rm Pc Qc XC mc ms free) (cw : vx_CVW R s args own C index y bytes maxL ret hh ws rm mc ms n) (hp : PreV s H C b Pc As)
    (hg : g.method = m) (hn : As.length = n) (hsize : g.locals.size = nL) (hstack : g.stack = As.reverse ++ .ref b :: rest) (hW : 2 * g.monitorRoom + (rest.map fun v => v.category).sum ≤ 8) (hdg : decode cc g.pc = .ok (.invokevirtual index, 3)) (hf : cells + mc ≤ R.cells ∧ slots + ms ≤ R.slots) :
    vx_Run p l e R s m args below meth c H locs cells slots mc ms g rest (Qc (Value.ref b :: As).toArray) XC free := by
  obtain ⟨⟨hrc, hrs, hfr, hlo, hws, hcw⟩, hcode, hini, hy, hlen, hl, hin, hse⟩ := cw
  have hK : vx_Back l R p e below s args y 3 8 (PreOf R mc ms Pc) (PostOf Qc mc ms free) (vx_Post XC mc ms free) := vx_backW (hh := hh) (bytes := bytes) (maxL := maxL) (ret := ret) hM hp.1 hrc hrs hfr hlo hws hcw (fun a' U hW => word_at hW (Or.inl (by first | rfl | simp [Cond.onTables, Cond.keeps, Cond.steady])) hini)
  obtain ⟨hx, hb, hml, ho, -⟩ := S
  obtain ⟨-, ⟨cellB, hcB, hoB, hclB⟩, hPc⟩ := hp
  intro T hT X
  rcases vx_callVX X hx (C := C) (hh := hh) (bytes := bytes) (maxL := maxL) (ret := ret) ho hl hin hse hcode hy hK (by rw [hT]; exact hcB) hoB hclB hg (hsize.trans hml.symm) (argsL := As) (rest := rest) (fun sig h => hn.trans (hlen sig h)) hstack hW (by rw [hb]; exact hdg)
    (fun vm₁ hW₁ => ⟨hf.1, hf.2, hPc (T.setVm vm₁) hT hW₁⟩) with ⟨v, vm₁, ⟨U', l2, c2, s2⟩, hW₁, X', ⟨g', mk, t, L, e1, e2, hq, h1, hL, h2, h3⟩, st⟩ | ⟨q, vm₁, ⟨U', l2, c2, s2⟩, hW₁, X', ⟨g', mk, t, L, E, ce, e1, e2, hq, hce, hcv, hcl, h1, hL, h2, h3⟩, st⟩
  · dsimp only [Pt.U, Pt.locs, Pt.cells, Pt.slots] at X' e1 e2 h1 h2 h3 st
    subst h1; subst h2; subst h3
    exact Or.inl ⟨v, (T.setVm vm₁).calling g' mk (Value.ref b :: As).toArray, t, U', L, hT, X', hL, e1, e2, hq, st⟩
  · dsimp only [Pt.U, Pt.locs, Pt.cells, Pt.slots] at X' e1 e2 h1 h2 h3 st hcl
    subst h1; subst h2; subst h3
    exact Or.inr ⟨q, (T.setVm vm₁).calling g' mk (Value.ref b :: As).toArray, t, U', L, E, ce, hT, X', hL, e1, e2, hq, hce, hcv, vx_cls hW₁ hcl, st⟩
theorem vx_runSX {hh : List (Nat × Nat × Nat × Nat)} (S : CallFix p m c cc nL s args Ts own) (hM : vx_Met l y ws rm Pc Qc XC mc ms free) (cw : vx_CSW R s args own index y bytes maxL ret hh ws rm mc ms n) (hp : PreS s H Pc As)
    (hg : g.method = m) (hn : As.length = n) (hsize : g.locals.size = nL) (hstack : g.stack = As.reverse ++ rest) (hW : 2 * g.monitorRoom + (rest.map fun v => v.category).sum ≤ 8) (hdg : decode cc g.pc = .ok (.invokestatic index, 3)) (hf : cells + mc ≤ R.cells ∧ slots + ms ≤ R.slots) :
    vx_Run p l e R s m args below meth c H locs cells slots mc ms g rest (Qc As.toArray) XC free := by
  obtain ⟨⟨hrc, hrs, hfr, hlo, hws, hcw⟩, hcode, hini, hy, hlen, hl, hstt⟩ := cw
  have hK : vx_Back l R p e below s args y 3 8 (PreOf R mc ms Pc) (PostOf Qc mc ms free) (vx_Post XC mc ms free) := vx_backW (hh := hh) (bytes := bytes) (maxL := maxL) (ret := ret) hM hp.1 hrc hrs hfr hlo hws hcw (fun a' U hW => word_at hW (Or.inl (by first | rfl | simp [Cond.onTables, Cond.keeps, Cond.steady])) hini)
  obtain ⟨hx, hb, hml, ho, -⟩ := S
  intro T hT X
  rcases vx_callSX X hx (hh := hh) (bytes := bytes) (maxL := maxL) (ret := ret) ho hl hstt hini hcode hy hK hg (hsize.trans hml.symm) (argsL := As) (rest := rest) (fun sig h => hn.trans (hlen sig h)) hstack hW (by rw [hb]; exact hdg)
    (fun vm₁ hW₁ => ⟨hf.1, hf.2, hp.2 (T.setVm vm₁) hT hW₁⟩) with ⟨v, vm₁, ⟨U', l2, c2, s2⟩, hW₁, X', ⟨g', mk, t, L, e1, e2, hq, h1, hL, h2, h3⟩, st⟩ | ⟨q, vm₁, ⟨U', l2, c2, s2⟩, hW₁, X', ⟨g', mk, t, L, E, ce, e1, e2, hq, hce, hcv, hcl, h1, hL, h2, h3⟩, st⟩
  · dsimp only [Pt.U, Pt.locs, Pt.cells, Pt.slots] at X' e1 e2 h1 h2 h3 st
    subst h1; subst h2; subst h3
    exact Or.inl ⟨v, (T.setVm vm₁).calling g' mk As.toArray, t, U', L, hT, X', hL, e1, e2, hq, st⟩
  · dsimp only [Pt.U, Pt.locs, Pt.cells, Pt.slots] at X' e1 e2 h1 h2 h3 st hcl
    subst h1; subst h2; subst h3
    exact Or.inr ⟨q, (T.setVm vm₁).calling g' mk As.toArray, t, U', L, E, ce, hT, X', hL, e1, e2, hq, hce, hcv, vx_cls hW₁ hcl, st⟩
end
end VXH
theorem vx_ofWH {l : Launch} {y : MethodName} {ws ws' : List Cond} {rm : Room} {Pc : Array Value → State → Prop} {Qc : Array Value → State → Outcome → State → Prop} {XC : String → State → State → Prop} {mc ms : Nat} {free : Addr → Prop} {cc : ByteArray} {maxL : Nat} {ret : Option FieldType} {hh : List (Nat × Nat × Nat × Nat)}
    (hy : plainName y.cls = true) (hw : ws = Cond.codeWith y cc maxL ret hh :: ws')
    (body : ∀ p e s m args below meth c s₁, BodyLoose p l y (headSpec ws rm) cc maxL ret e s m args below meth c s₁ → c.maxLocals = maxL → Pc args s →
      W p l e (headSpec ws rm).room s m args below meth c s.heap [] 0 0 (vx_MQ below Qc XC args s mc ms free) (entryFrame m args maxL)) : vx_Met l y ws rm Pc Qc XC mc ms free := by
  refine MetFree.of_bodyS (code := cc) (maxLocals := maxL) (ret := ret) hy ?_ ?_
  · intro args s m h hn
    obtain ⟨m9, meth, c, hn9, h1, h2, h3, h4, -, h5, h6, -⟩ := Cond.codeWith_spec (atoms_spec (ws := ws) h _ (by rw [hw]; exact List.mem_cons_self))
    cases hn.symm.trans hn9
    exact ⟨meth, c, h1, h2, h3, h4, h5, h6⟩
  · intro p e s m args below meth c s₁ B hml hP _
    have hh0 : s₁.heap = s.heap := by rw [B.state]; rfl
    obtain ⟨t, a1, o, b1, b2, b3⟩ := body p e s m args below meth c s₁ B hml hP s₁ hh0 (Stand.of_body B)
    exact ⟨t, o, a1, b1, b2, b3⟩
/-! ===== END ===== -/

/-! ===== BEGIN what the machine throws by itself, no traces kept ===== -/
section VXM
set_option maxHeartbeats 1000000 in
/-- the machine throws cls with the message text, no traces kept: from its note over the frame g to 'throwing' over the same frame (follows the proofs of Stand.vmThrowsMessage, Shelf/KitTracedVmS.lean, and Stand.throwsMessageColdBareV, StandMessageColdV.lean, without the step out of the frame) -/
theorem vx_vmAt {p : Program} {l : Launch} {e : Env} {R : Room} {s : State} {m₀ : MethodId} {args : Array Value} {below : List Frame} {meth : Method} {c : Code} {W : State} {locs : List Loc} {cells slots : Nat}
    (X : Stand p l e R s m₀ args below meth c W locs cells slots) (hexec : p.tables.exec = Jvm.exec) (htr : e.platform.stackTraces = false) {cls : String} {names : List String} {text : String}
    (hcls : Bundle.fit cls = true) (hnames : ∀ n ∈ names, Bundle.fit n = true) (hsoe : (cls == "java/lang/StackOverflowError") = false) (hoom : (cls == "java/lang/OutOfMemoryError") = false)
    (h : ∀ a ∈ Bundle.messageArmAtoms cls names, a.before args s = true)
    (hlocs : ∀ x ∈ locs, ∀ cell, s.heap[x.base]? = some cell → cell.vm.isStatics = false)
    (htext : (text == notModelled) = false) (hlimit : ¬ (stringBytes (stringToUtf16 text)).size > e.platform.arrayLengthLimit) (hheap : ¬ (stringBytes (stringToUtf16 text)).size * componentBytes .byte > e.platform.maxHeapBytes)
    {g : JFrame} (hg : g.method = m₀) (hsize : g.locals.size = c.maxLocals)
    (hRframes : names.length + 4 < R.frames) (hRlocals : 2 * g.monitorRoom + (g.stack.map fun v => v.category).sum + 10240 ≤ R.locals) (hshort : 13 * names.length + 55 ≤ 10240)
    (hRcells : cells + 3 ≤ R.cells) (hRslots : slots + ((stringBytes (stringToUtf16 text)).size + 4 + 6) ≤ R.slots) (hlocks : meth.locks = false) :
    ∃ (S : State) (q : Addr) (ce : Cell), (∀ target, Steps p.tables e below ((S.setTop g).pushFrame (.throwing q)) target → Steps p.tables e below ((W.setTop g).pushFrame (.throwNew cls (some text) none)) target) ∧
      Stand p l e R s m₀ args below meth c S locs (cells + 3) (slots + ((stringBytes (stringToUtf16 text)).size + 4 + 6)) ∧ S.heap[q]? = some ce ∧ s.vm.findClass cls = some ce.cls ∧ ce.vm = .none := by
  have howns : e.platform.frameOwnsMonitors = true := by rw [X.admits.platform]
  have hfin : e.platform.finalization = false := by rw [X.admits.platform]
  have hpl : e.platform.magicAccessors = ({} : Platform).magicAccessors := by rw [X.admits.platform]
  have a : ∀ x, x ∈ Bundle.messageArmAtoms cls names → x.holds args s none s [] = true := fun x hx => h x hx
  obtain ⟨T, Z0, L, -, Y⟩ := ThrowableC.of_atoms (args := args) howns hfin hpl (fun x hx => h x (by simp [Bundle.messageArmAtoms, hx]))
  obtain ⟨Z, M, LZ, LM, hnZ⟩ := Init0T.ofS_atoms (args := args) hpl L Y (fun x hx => h x (by simp [Bundle.messageArmAtoms, hx]))
  obtain ⟨P1, Ps, hlen, L1, hL, hP1m, hlink1, hlink⟩ := Bundle.chainS (args := args) hpl hnZ names cls hcls hnames (fun x hx => h x (by simp [Bundle.messageArmAtoms, hx]))
  obtain ⟨Zs, LZs, hn4, hfitv, hfitc⟩ := StringT.of_atoms (args := args) (fun x hx => h x (by simp [Bundle.messageArmAtoms, hx]))
  have hfound : s.vm.findClass cls = some P1.m.cls := findClass_of_methodNamed hP1m
  obtain ⟨c1, kX, hc1, hk, hord, -, -, hn6⟩ := Cond.instantiable_spec (a (.instantiable cls 6) (by simp [Bundle.messageArmAtoms]))
  cases Option.some.inj (hc1.symm.trans hfound)
  have hinit := Cond.initialized_spec hfound hk (a (.initialized cls) (by simp [Bundle.messageArmAtoms]))
  have hctor : kX.findMethod "<init>" "(Ljava/lang/String;)V" = some P1.m.idx := findMethod_of_methodNamed hP1m hk
  have hsel0 : selectMethod e.platform s.vm P1.m.cls T.fill0 = .method T.fill0 := by
    obtain ⟨c2, r2, m2, q1, q2, q3, q4, -⟩ := Cond.selects_spec (a (.selects cls Bundle.tFill0 Bundle.tFill0) (by simp [Bundle.messageArmAtoms]))
    cases Option.some.inj (q1.symm.trans hfound)
    cases Option.some.inj (q2.symm.trans (State.methodFound?_of_named Y.fill0 (by decide)))
    cases Option.some.inj (q3.symm.trans Y.fill0)
    rw [Launch.admits_selectMethod X.admits]; exact q4
  have hselF : selectMethod e.platform s.vm P1.m.cls T.fill = .method T.fill := by
    obtain ⟨c2, r2, m2, q1, q2, q3, q4, -⟩ := Cond.selects_spec (a (.selects cls Bundle.tFill Bundle.tFill) (by simp [Bundle.messageArmAtoms]))
    cases Option.some.inj (q1.symm.trans hfound)
    cases Option.some.inj (q2.symm.trans (State.methodFound?_of_named Y.fill (by decide)))
    cases Option.some.inj (q3.symm.trans Y.fill)
    rw [Launch.admits_selectMethod X.admits]; exact q4
  obtain ⟨cellS0, hcS0, hiss⟩ := Y.statics
  obtain ⟨u0, hu0⟩ := Cond.staticRefV Y.unassigned L.unassignedStatic L.statics hcS0 hiss (a (.isRef (.static Bundle.tN "UNASSIGNED_STACK" Bundle.steD)) (by simp [Bundle.messageArmAtoms]))
  obtain ⟨sen, hsen⟩ := Cond.staticRefV Y.sentinel L.sentinelStatic L.statics hcS0 hiss (a (.isRef (.static Bundle.tN "SUPPRESSED_SENTINEL" Bundle.listD)) (by simp [Bundle.messageArmAtoms]))
  obtain ⟨ci198, i198, fB, hk198, hg198, ha198, hsB, -, hnB, htB, hffB⟩ := Cond.ownField (t := .object "java/lang/Object") Y.found L.cls (by decide +kernel) (a (.fieldLink Bundle.tN 198 Bundle.tN "backtrace" "Ljava/lang/Object;") (by simp [Bundle.messageArmAtoms])) (a (.lays Bundle.tN Bundle.tN "backtrace" "Ljava/lang/Object;") (by simp [Bundle.messageArmAtoms])) e.platform hpl
  obtain ⟨cellS, hcS', heS, -, hkeep⟩ := X.same.2.2.2.2.2 T.aS cellS0 hcS0
  have hcellS : W.heap[T.aS]? = some cellS := hcS'
  have hout' : ∀ i, (⟨T.aS, i⟩ : Loc) ∉ locs := fun i hmem => by
    have := hlocs _ hmem cellS0 hcS0
    rw [hiss] at this; cases this
  have hknownS : cellS.vm ≠ .unknown := by
    rw [heS]; intro hu
    rw [show cellS0.vm = .unknown from hu] at hiss
    cases hiss
  have hvU : cellS.slots[T.fUnassigned.slot]? = some u0.v := by rw [hkeep _ (hout' _)]; exact hu0
  have hvSen : cellS.slots[T.fSentinel.slot]? = some sen.v := by rw [hkeep _ (hout' _)]; exact hsen
  obtain ⟨iM, hffM⟩ := Y.msg
  obtain ⟨tyC, dC, hdC, hdnC⟩ := Cond.laysAt hfound hk Y.cause (a (.lays cls Bundle.tN "cause" "Ljava/lang/Throwable;") (by simp [Bundle.messageArmAtoms]))
  obtain ⟨tyS, dS, hdS, hdnS⟩ := Cond.laysAt hfound hk Y.stack (a (.lays cls Bundle.tN "stackTrace" Bundle.steD) (by simp [Bundle.messageArmAtoms]))
  obtain ⟨tyP, dP, hdP, hdnP⟩ := Cond.laysAt hfound hk Y.supp (a (.lays cls Bundle.tN "suppressedExceptions" Bundle.listD) (by simp [Bundle.messageArmAtoms]))
  obtain ⟨tyM, dM, hdM, hdnM⟩ := Cond.laysAt hfound hk hffM (a (.lays cls Bundle.tN "detailMessage" "Ljava/lang/String;") (by simp [Bundle.messageArmAtoms]))
  obtain ⟨tyB, dB, hdB, hdnB⟩ := Cond.laysAt hfound hk hffB (a (.lays cls Bundle.tN "backtrace" "Ljava/lang/Object;") (by simp [Bundle.messageArmAtoms]))
  have bC := Cond.laysApart hdB hdC hdnB hdnC (by rw [hnB, Y.causeName]; decide)
  have bS := Cond.laysApart hdB hdS hdnB hdnS (by rw [hnB, Y.stackName]; decide)
  have bP := Cond.laysApart hdB hdP hdnB hdnP (by rw [hnB, Y.suppName]; decide)
  have hbk : ((preparedCellV T.toThrowableT (freshCell P1.m.cls kX) (W.heap.size + 2) u0 sen).withEntry W.cur).slots[fB.slot]? = some .null := by
    have := fresh_default (c := P1.m.cls) tyB
    rw [htB] at this
    simpa [preparedCellV, Cell.setSlot, Cell.withEntry, Array.getElem?_setIfInBounds, bC, bS, bP, bC.symm, bS.symm, bP.symm, defaultValue] using this
  have tkC := Takes.of_laid (v := .ref (W.heap.size + 2)) hk hord tyC (by rw [Y.causeType]; rfl)
  have tkS := Takes.of_laid (v := u0.v) hk hord tyS (by rw [Y.stackType]; exact fits_refV_array _ u0)
  have tkP := Takes.of_laid (v := sen.v) hk hord tyP (by rw [Y.suppType]; exact fits_refV_object _ sen)
  have tkM := Takes.of_laid (v := .ref (W.heap.size + 1)) hk hord tyM (by rw [Y.msgType]; rfl)
  have hskip : SkipFacts T e.platform s (fun u => u) u0 ((preparedCellV T.toThrowableT (freshCell P1.m.cls kX) (W.heap.size + 2) u0 sen).withEntry W.cur) := ⟨{ ci198 := ci198, i198 := i198, fBack := fB }, ⟨hk198, hg198, ha198, hsB⟩, hbk, fun _ _ => rfl⟩
  have h0 : At W g.method c below := by rw [hg]; exact X.here
  obtain ⟨hbeyond, hfreeW⟩ := X.vmMayThrow hsize (.throwNew cls (some text) none) (fun f hf => by cases hf) rfl hRlocals
  have hfr' : W.frames.length + Ps.length + 4 < (e.platform.stackLimits W.me).1 := by have := X.framesAbove hRframes; omega
  have hwd' : (stackUse (.java g :: W.frames.tail)).2 + 13 * Ps.length + 55 ≤ (e.platform.stackLimits W.me).2 := by have := X.stackAbove hsize (K := 13 * Ps.length + 55) (by omega); omega
  have hslots : W.slotsUsed + (stringBytes (stringToUtf16 text)).size + Zs.kS.instanceTypes.size + kX.instanceTypes.size ≤ e.platform.maxSlots := by
    have := X.slotsAbove hRslots
    rw [hn4, hn6]
    omega
  obtain ⟨vm', hW', st⟩ := Steps.vmThrowsMessageColdByV p (s₀ := s) (S := W) (g := g) h0 hexec T L Z LZ M LM X.warmed (t := W.cur) rfl Zs LZs P1 L1 Ps hL hlink1 hlink hsoe hoom hfound hk hinit hord hctor
    (Launch.admits_hotImplicitExceptions X.admits) hbeyond hfreeW htext hlimit hheap (X.cellsAbove hRcells) hslots (hfitv _) (hfitc _)
    (Nn := fun u => u) heapOnly_id (fun _ _ => rfl) (fun _ => rfl) (fun u x y => setCell_twice _ _ _ _) (fun _ => Nat.le_refl _) (cN := ((preparedCellV T.toThrowableT (freshCell P1.m.cls kX) (W.heap.size + 2) u0 sen).withEntry W.cur))
    hsel0 hcellS hknownS hvU tkS (fun _ hu => hu) (fun _ hu => hu) rfl rfl rfl (by simp [preparedCellV, Cell.setSlot, Cell.withEntry]) hskip (fun _ _ hA hW _ hroom _ hrest => L.nativeOff p htr hA hW hroom hrest) hselF hvSen tkC tkP tkM Y.objLocals rfl hfr' hwd'
  rw [plainBareV_eq T.toThrowableT (W.heap.size + 2) u0 sen (.ref (W.heap.size + 1)) W.cur rfl rfl] at st
  obtain ⟨-, -, w3, w4, -, -, -⟩ := withThrown_facts e.platform W Zs text P1.m.cls kX
  have X3 := ((X.pushed (bytesOf Zs.cB (stringToUtf16 text))).pushed (stringAt Zs.cS Zs.kS Zs.fv Zs.fc (stringToUtf16 text) W.heap.size)).pushed (freshCell P1.m.cls kX)
  rw [← withString_eq] at X3
  have X4 := X3.noted hW'
  have ha : (W.heap.size + 2) < ((withThrown W Zs text P1.m.cls kX).setVm vm').heap.size := by show _ < (withThrown W Zs text P1.m.cls kX).heap.size; rw [w3]; omega
  have hcell : ((withThrown W Zs text P1.m.cls kX).setVm vm').heap[(W.heap.size + 2)]? = some (freshCell P1.m.cls kX) := w4
  have X5 := ((((X4.stored hcell T.fCause.slot (.ref (W.heap.size + 2))).storedAgain ha T.fStack.slot u0.v).storedAgain ha T.fSupp.slot sen.v).storedAgain ha T.fStack.slot u0.v).storedAgain ha T.fMsg.slot (.ref (W.heap.size + 1))
  obtain ⟨g₁, hfrM⟩ := X5.frames_eq
  have hU : ((((withThrown W Zs text P1.m.cls kX).setVm vm').setCell (W.heap.size + 2) (plainBareV T.toThrowableT (freshCell P1.m.cls kX) (W.heap.size + 2) u0 sen (.ref (W.heap.size + 1)))).setTop g).pushFrame (.throwing (W.heap.size + 2)) = (((withThrown W Zs text P1.m.cls kX).setVm vm').setCell (W.heap.size + 2) (plainBareV T.toThrowableT (freshCell P1.m.cls kX) (W.heap.size + 2) u0 sen (.ref (W.heap.size + 1)))).setFrames (.throwing (W.heap.size + 2) :: .java g :: below) := by
    rw [State.pushFrame, State.frames_setTop _ hfrM, State.setTop_of_frames _ hfrM, State.setFrames_setFrames]
  have b1 : (bytesOf Zs.cB (stringToUtf16 text)).slots.size = (stringBytes (stringToUtf16 text)).size := by
    rw [(Cell.writeAll_facts _ _).2.2]; simp [bytes0]
  have b2 : (stringAt Zs.cS Zs.kS Zs.fv Zs.fc (stringToUtf16 text) W.heap.size).slots.size = 4 := by simp [string0, Cell.setSlot, hn4]
  have b3 : (freshCell P1.m.cls kX).slots.size = 6 := by simp [hn6]
  rw [b1, b2, b3] at X5
  have e9 : slots + (stringBytes (stringToUtf16 text)).size + 4 + 6 = slots + ((stringBytes (stringToUtf16 text)).size + 4 + 6) := by omega
  rw [e9] at X5
  simp only [List.append_assoc, List.cons_append, List.nil_append] at X5
  refine ⟨((withThrown W Zs text P1.m.cls kX).setVm vm').setCell (W.heap.size + 2) (plainBareV T.toThrowableT (freshCell P1.m.cls kX) (W.heap.size + 2) u0 sen (.ref (W.heap.size + 1))), W.heap.size + 2, _, fun target ht => st _ (by rw [X.tail, ← hU]; exact ht),
    X5.forget (fun y hy => ?_), heapAt_setCell_self _ ha, hfound, rfl⟩
  simp only [List.mem_cons, List.not_mem_nil, or_false] at hy
  have hge : s.heap.size ≤ W.heap.size := X.same.2.1
  rcases hy with rfl | rfl | rfl | rfl | rfl <;> exact Nat.le_trans hge (Nat.le_add_right _ 2)
set_option maxHeartbeats 1000000 in
/-- the machine throws NullPointerException, no traces kept: from its note over the frame g to 'throwing' over the same frame (follows the proof of Stand.vmThrowsNpe, Shelf42/KT2.lean; throwsNpeColdBareVAt, Shelf42/NT91.lean, called) -/
theorem vx_npeAt {p : Program} {l : Launch} {e : Env} {R : Room} {s : State} {m₀ : MethodId} {args : Array Value} {below : List Frame} {meth : Method} {c : Code} {W : State} {locs : List Loc} {cells slots : Nat}
    (X : Stand p l e R s m₀ args below meth c W locs cells slots) (hexec : p.tables.exec = Jvm.exec) (htr : e.platform.stackTraces = false) {n : Nat}
    (h : ∀ a ∈ Bundle.npeArmAtoms n, a.before args s = true)
    (hlocs : ∀ x ∈ locs, ∀ cell, s.heap[x.base]? = some cell → cell.vm.isStatics = false)
    {g : JFrame} (hg : g.method = m₀) (hsize : g.locals.size = c.maxLocals)
    (hRframes : 7 < R.frames) (hRlocals : 2 * g.monitorRoom + (g.stack.map fun v => v.category).sum + 10240 ≤ R.locals)
    (hRcells : cells + 1 ≤ R.cells) (hRslots : slots + n ≤ R.slots) (hlocks : meth.locks = false) :
    ∃ (S : State) (q : Addr) (ce : Cell), (∀ target, Steps p.tables e below ((S.setTop g).pushFrame (.throwing q)) target → Steps p.tables e below ((W.setTop g).pushFrame (.throwNew "java/lang/NullPointerException" none none)) target) ∧
      Stand p l e R s m₀ args below meth c S locs (cells + 1) (slots + n) ∧ S.heap[q]? = some ce ∧ s.vm.findClass "java/lang/NullPointerException" = some ce.cls ∧ ce.vm = .none := by
  have howns : e.platform.frameOwnsMonitors = true := by rw [X.admits.platform]
  have hfin : e.platform.finalization = false := by rw [X.admits.platform]
  have hpl : e.platform.magicAccessors = ({} : Platform).magicAccessors := by rw [X.admits.platform]
  have hpl2 : e.platform.arrayCloneIsPublic = true := by rw [X.admits.platform]
  have a' : ∀ x, x ∈ Bundle.npeArmAtoms n → x.holds args s none s [] = true := fun x hx => h x hx
  obtain ⟨T, Z, L, LZ, Y⟩ := ThrowableC.of_atoms (args := args) howns hfin hpl (fun x hx => h x (by simp [Bundle.npeArmAtoms, hx]))
  obtain ⟨N, LN, hcN, hnNF, hordN, hffS⟩ := NpeC.of_atoms (args := args) hpl hpl2 L Y (fun x hx => h x (by simp [Bundle.npeArmAtoms, hx]))
  obtain ⟨P1, L1, hP1m, hP1s⟩ := PassC.of_atoms (args := args) (s := s) hpl (X := Bundle.nN) (Y := Bundle.rN) (by decide) (by decide) LibCode.NullPointerException.Init0.at_0 LibCode.NullPointerException.Init0.at_1 LibCode.NullPointerException.Init0.at_4 (fun x hx => h x (by simp [Bundle.npeArmAtoms, hx]))
  obtain ⟨PR, LR, hPRm, hPRs⟩ := PassC.of_atoms (args := args) (s := s) hpl (X := Bundle.rN) (Y := Bundle.eN) (by decide) (by decide) LibCode.RuntimeException.Init0.at_0 LibCode.RuntimeException.Init0.at_1 LibCode.RuntimeException.Init0.at_4 (fun x hx => h x (by simp [Bundle.npeArmAtoms, hx]))
  obtain ⟨PE, LEx, hPEm, hPEs⟩ := PassC.of_atoms (args := args) (s := s) hpl (X := Bundle.eN) (Y := Bundle.tN) (by decide) (by decide) LibCode.Exception.Init0.at_0 LibCode.Exception.Init0.at_1 LibCode.Exception.Init0.at_4 (fun x hx => h x (by simp [Bundle.npeArmAtoms, hx]))
  have hfound : s.vm.findClass Bundle.nN = some P1.m.cls := findClass_of_methodNamed hP1m
  have ecls : N.cN = P1.m.cls := Option.some.inj (hcN.symm.trans hfound)
  have hk : s.vm.classes[P1.m.cls]? = some N.kN := by rw [← ecls]; exact LN.cls
  have hinit := Cond.initialized_spec hfound hk (a' (.initialized Bundle.nN) (by simp [Bundle.npeArmAtoms]))
  have hctor : N.kN.findMethod "<init>" "()V" = some P1.m.idx := findMethod_of_methodNamed hP1m hk
  obtain ⟨c1, k1, hc1, hk1, -, -, -, hn⟩ := Cond.instantiable_spec (a' (.instantiable Bundle.nN n) (by simp [Bundle.npeArmAtoms]))
  cases Option.some.inj (hc1.symm.trans hfound)
  cases Option.some.inj (hk1.symm.trans hk)
  have hfsz : (freshCell P1.m.cls N.kN).slots.size = n := by simp [hn]
  have hlink1 : P1.sup = PR.m := Option.some.inj (hP1s.symm.trans hPRm)
  have hlinkR : PR.sup = PE.m := Option.some.inj (hPRs.symm.trans hPEm)
  have hlinkE : PE.sup = Z.m T.toThrowableT := Option.some.inj (hPEs.symm.trans Y.init0)
  have hLs : ∀ P, P ∈ [PR, PE] → P.Links0 e.platform s := fun P hP => by
    simp only [List.mem_cons, List.not_mem_nil, or_false] at hP
    rcases hP with rfl | rfl
    · exact LR
    · exact LEx
  have hsel0 : selectMethod e.platform s.vm P1.m.cls T.fill0 = .method T.fill0 := by
    obtain ⟨c2, r2, m2, q1, q2, q3, q4, -⟩ := Cond.selects_spec (a' (.selects Bundle.nN Bundle.tFill0 Bundle.tFill0) (by simp [Bundle.npeArmAtoms]))
    cases Option.some.inj (q1.symm.trans hfound)
    cases Option.some.inj (q2.symm.trans (State.methodFound?_of_named Y.fill0 (by decide)))
    cases Option.some.inj (q3.symm.trans Y.fill0)
    rw [Launch.admits_selectMethod X.admits]; exact q4
  have hselF : selectMethod e.platform s.vm P1.m.cls T.fill = .method N.fill := by
    obtain ⟨c2, r2, m2, q1, q2, q3, q4, -⟩ := Cond.selects_spec (a' (.selects Bundle.nN Bundle.tFill Bundle.nFill) (by simp [Bundle.npeArmAtoms]))
    cases Option.some.inj (q1.symm.trans hfound)
    cases Option.some.inj (q2.symm.trans (State.methodFound?_of_named Y.fill (by decide)))
    cases Option.some.inj (q3.symm.trans hnNF)
    rw [Launch.admits_selectMethod X.admits]; exact q4
  obtain ⟨cellS0, hcS0, hiss⟩ := Y.statics
  obtain ⟨u0, hu0⟩ := Cond.staticRefV Y.unassigned L.unassignedStatic L.statics hcS0 hiss (a' (.isRef (.static Bundle.tN "UNASSIGNED_STACK" Bundle.steD)) (by simp [Bundle.npeArmAtoms]))
  obtain ⟨sen, hsen⟩ := Cond.staticRefV Y.sentinel L.sentinelStatic L.statics hcS0 hiss (a' (.isRef (.static Bundle.tN "SUPPRESSED_SENTINEL" Bundle.listD)) (by simp [Bundle.npeArmAtoms]))
  obtain ⟨ci198, i198, fB, hk198, hg198, ha198, hsB, -, hnB, htB, hffB⟩ := Cond.ownField (t := .object "java/lang/Object") Y.found L.cls (by decide +kernel) (a' (.fieldLink Bundle.tN 198 Bundle.tN "backtrace" Bundle.objD) (by simp [Bundle.npeArmAtoms])) (a' (.lays Bundle.tN Bundle.tN "backtrace" Bundle.objD) (by simp [Bundle.npeArmAtoms])) e.platform hpl
  obtain ⟨cellS, hcS', heS, -, hkeep⟩ := X.same.2.2.2.2.2 T.aS cellS0 hcS0
  have hcellS : W.heap[T.aS]? = some cellS := hcS'
  have hout' : ∀ i, (⟨T.aS, i⟩ : Loc) ∉ locs := fun i hmem => by
    have := hlocs _ hmem cellS0 hcS0
    rw [hiss] at this; cases this
  have hknownS : cellS.vm ≠ .unknown := by
    rw [heS]; intro hu
    rw [show cellS0.vm = .unknown from hu] at hiss
    cases hiss
  have hvU : cellS.slots[T.fUnassigned.slot]? = some u0.v := by rw [hkeep _ (hout' _)]; exact hu0
  have hvSen : cellS.slots[T.fSentinel.slot]? = some sen.v := by rw [hkeep _ (hout' _)]; exact hsen
  obtain ⟨tyC, dC, hdC, hdnC⟩ := Cond.laysAt hfound hk Y.cause (a' (.lays Bundle.nN Bundle.tN "cause" "Ljava/lang/Throwable;") (by simp [Bundle.npeArmAtoms]))
  obtain ⟨tyS, dS, hdS, hdnS⟩ := Cond.laysAt hfound hk Y.stack (a' (.lays Bundle.nN Bundle.tN "stackTrace" Bundle.steD) (by simp [Bundle.npeArmAtoms]))
  obtain ⟨tyP, dP, hdP, hdnP⟩ := Cond.laysAt hfound hk Y.supp (a' (.lays Bundle.nN Bundle.tN "suppressedExceptions" Bundle.listD) (by simp [Bundle.npeArmAtoms]))
  obtain ⟨tyX, dX, hdX, hdnX⟩ := Cond.laysAt hfound hk hffS (a' (.lays Bundle.nN Bundle.nN "extendedMessageState" "I") (by simp [Bundle.npeArmAtoms, Bundle.npeAtoms]))
  obtain ⟨hnX, htX⟩ := State.fieldFound?_type hffS (t := .int) (by decide +kernel)
  have xC := Cond.laysApart hdC hdX hdnC hdnX (by rw [hnX, Y.causeName]; decide)
  have xS := Cond.laysApart hdS hdX hdnS hdnX (by rw [hnX, Y.stackName]; decide)
  have xP := Cond.laysApart hdP hdX hdnP hdnX (by rw [hnX, Y.suppName]; decide)
  have hv0 : (freshCell P1.m.cls N.kN).slots[N.fState.slot]? = some (.int 0) := by
    have := fresh_default (c := P1.m.cls) tyX
    rw [htX] at this; exact this
  obtain ⟨tyB, dB, hdB, hdnB⟩ := Cond.laysAt hfound hk hffB (a' (.lays Bundle.nN Bundle.tN "backtrace" Bundle.objD) (by simp [Bundle.npeArmAtoms]))
  have bC := Cond.laysApart hdB hdC hdnB hdnC (by rw [hnB, Y.causeName]; decide)
  have bS := Cond.laysApart hdB hdS hdnB hdnS (by rw [hnB, Y.stackName]; decide)
  have bP := Cond.laysApart hdB hdP hdnB hdnP (by rw [hnB, Y.suppName]; decide)
  have bX := Cond.laysApart hdB hdX hdnB hdnX (by rw [hnB, hnX]; decide)
  have hbk : ((npeCell N.toNpeT (preparedCellV T.toThrowableT (freshCell P1.m.cls N.kN) W.heap.size u0 sen) W.cur).withEntry W.cur).slots[fB.slot]? = some .null := by
    have := fresh_default (c := P1.m.cls) tyB
    rw [htB] at this
    simpa [npeCell, preparedCellV, Cell.setSlot, Cell.withEntry, Array.getElem?_setIfInBounds, bC, bS, bP, bX, bC.symm, bS.symm, bP.symm, bX.symm, defaultValue] using this
  have tkC := Takes.of_laid (v := .ref W.heap.size) hk hordN tyC (by rw [Y.causeType]; rfl)
  have tkS := Takes.of_laid (v := u0.v) hk hordN tyS (by rw [Y.stackType]; exact fits_refV_array _ u0)
  have tkP := Takes.of_laid (v := sen.v) hk hordN tyP (by rw [Y.suppType]; exact fits_refV_object _ sen)
  have tkX := Takes.of_laid (v := .int 1) hk hordN tyX (by rw [htX]; rfl)
  have hskip : SkipFacts T e.platform s (fun u => u) u0 ((npeCell N.toNpeT (preparedCellV T.toThrowableT (freshCell P1.m.cls N.kN) W.heap.size u0 sen) W.cur).withEntry W.cur) := ⟨{ ci198 := ci198, i198 := i198, fBack := fB }, ⟨hk198, hg198, ha198, hsB⟩, hbk, fun _ _ => rfl⟩
  obtain ⟨vm', X3, st, -⟩ := X.throwsNpeColdBareVAt hexec hg hsize T L Z LZ N LN P1 L1 [PR, PE] hLs hlink1 ⟨hlinkR, hlinkE, trivial⟩ hfound hk hinit hordN hctor hsel0 hselF hcellS hknownS hvU hvSen
    hv0 xC xS xP tkC tkS tkP tkX Y.objLocals hskip (fun _ _ hA hW _ hroom _ hrest => L.nativeOff p htr hA hW hroom hrest) (by simpa using hRframes) hRlocals (by simp) hRcells (by rw [hn]; exact hRslots)
  have hlt : W.heap.size < ((W.pushCell (freshCell P1.m.cls N.kN)).setVm vm').heap.size := by
    show W.heap.size < (W.pushCell (freshCell P1.m.cls N.kN)).heap.size
    rw [State.heap_size_pushCell]; omega
  rw [hfsz] at X3
  obtain ⟨g₁, hfrM⟩ := X3.frames_eq
  have hU : ((((W.pushCell (freshCell P1.m.cls N.kN)).setVm vm').setCell W.heap.size (npeBareV T.toThrowableT N.toNpeT (freshCell P1.m.cls N.kN) W.heap.size u0 sen)).setTop g).pushFrame (.throwing W.heap.size) = (((W.pushCell (freshCell P1.m.cls N.kN)).setVm vm').setCell W.heap.size (npeBareV T.toThrowableT N.toNpeT (freshCell P1.m.cls N.kN) W.heap.size u0 sen)).setFrames (.throwing W.heap.size :: .java g :: below) := by
    rw [State.pushFrame, State.frames_setTop _ hfrM, State.setTop_of_frames _ hfrM, State.setFrames_setFrames]
  refine ⟨_, W.heap.size, _, fun target ht => st.trans (by rw [← hU]; exact ht), X3.forget (fun y hy => ?_), heapAt_setCell_self _ hlt, hfound, rfl⟩
  simp only [List.mem_cons, List.not_mem_nil, or_false] at hy
  have hge : s.heap.size ≤ W.heap.size := X.same.2.1
  rcases hy with rfl | rfl | rfl | rfl | rfl <;> exact hge
/-- the words of a machine's NullPointerException, but the four that speak of the heap -/
def vx_atN (n : Nat) : List Cond := (Bundle.npeArmAtoms n).filter vx_no
/-- the words of a machine's throw with a message, but the four that speak of the heap -/
def vx_atM (X : String) (names : List String) : List Cond := (Bundle.messageArmAtoms X names).filter vx_no
section
variable {p : Program} {l : Launch} {e : Env} {R : Room} {s : State} {m : MethodId} {args : Array Value} {below : List Frame} {meth : Method} {c : Code} {H : Heap} {locs : List Loc} {cells slots : Nat}
/-- a frame seen from a rebased start, seen from the first start again -/
theorem vx_back9 {T S : State} {R' : Room} {k n : Nat} (X : Stand p l e R s m args below meth c T locs cells slots) (Y : Stand p l e R' ((T.setVm s.vm).setFrames (.invoking m args :: below)) m args below meth c T [] 0 0) (Z : Stand p l e R' ((T.setVm s.vm).setFrames (.invoking m args :: below)) m args below meth c S [] k n) :
    Stand p l e R s m args below meth c S locs (cells + k) (slots + n) := by
  have hW0 : s.WarmedH ((T.setVm s.vm).setFrames (.invoking m args :: below)).vm := State.WarmedH.refl s
  refine { admits := X.admits, cas := X.cas, clock := X.clock, frames := X.frames, room := X.room, hears := X.hears, method := X.method, code := X.code, here := Z.here, tail := Z.tail, warmed := State.WarmedH.trans hW0 Z.warmed, limits := Z.limits.trans (Y.limits.symm.trans X.limits), bytes := Z.bytes.trans (Y.bytes.symm.trans X.bytes), same := ?_ }
  obtain ⟨e1, e2⟩ := Z.same
  rw [State.setFrames_setFrames] at e1
  have h2 : (T.setVm s.vm).sameButNew (S.setVm s.vm) [] k n := ⟨e1, e2⟩
  have h3 := X.same.trans h2
  rw [List.append_nil] at h3
  exact h3
/-- from the machine's note that E is thrown here with this text -/
def vx_Note (p : Program) (l : Launch) (e : Env) (R : Room) (s : State) (m : MethodId) (args : Array Value) (below : List Frame) (meth : Method) (c : Code) (H : Heap) (locs : List Loc) (cells slots : Nat) (Q : State → Prop) (g : JFrame) (E text : String) : Prop :=
  ∀ T : State, T.heap = H → Stand p l e R s m args below meth c T locs cells slots → ∃ t, Steps p.tables e below ((T.setTop g).pushFrame (.throwNew E (some text) none)) t ∧ Q t
theorem vx_vm {pc : Nat} {ls : Array Slot} {rest : List Value} {Q : State → Prop} (hexec : p.tables.exec = Jvm.exec) (hl : l.stackTraces = false) {cls text : String} {names : List String} {nb : Nat} {A : Nat → Prop}
    (hcls : Bundle.fit cls = true) (hnames : ∀ n ∈ names, Bundle.fit n = true) (hsoe : (cls == "java/lang/StackOverflowError") = false) (hoom : (cls == "java/lang/OutOfMemoryError") = false)
    (hat : ∀ w ∈ vx_atM cls names, w.before args s = true) (hgood : ∀ w ∈ vx_atM cls names, vx_ot w = true)
    (hU : vx_Zq Bundle.tN "UNASSIGNED_STACK" Bundle.steD A s s.heap) (hN : vx_Zq Bundle.tN "SUPPRESSED_SENTINEL" Bundle.listD A s s.heap) (hS : va_S A s.heap H locs) (hsize : ls.size = c.maxLocals)
    (htext : (text == notModelled) = false) (hnb : (stringBytes (stringToUtf16 text)).size ≤ nb) (hnb1 : nb ≤ 1000)
    (hRframes : names.length + 4 < R.frames) (hRlocals : (rest.map fun v => v.category).sum + 10240 ≤ R.locals) (hshort : 13 * names.length + 55 ≤ 10240) (hRcells : cells + 3 ≤ R.cells) (hRslots : slots + (nb + 10) ≤ R.slots) (hlocks : meth.locks = false)
    (k : ∀ (H1 : Heap) (q9 : Addr) (ce : Cell), H.size ≤ H1.size → (∀ q : Nat, q < H.size → H1[q]? = H[q]?) → va_S A s.heap H1 locs → H1[q9]? = some ce → ce.vm = .none → s.vm.findClass cls = some ce.cls → vx_W p l e R s m args below meth c H1 locs (cells + 3) (slots + (nb + 10)) Q (F0 m pc ls rest) q9) :
    vx_Note p l e R s m args below meth c H locs cells slots Q (F0 m pc ls rest) cls text := by
  intro T hT X
  have htr : e.platform.stackTraces = false := (show e.platform.stackTraces = l.stackTraces by rw [X.admits.platform]).trans hl
  have Y := vx_rebase X (R' := { frames := R.frames, locals := R.locals, cells := 3, slots := nb + 10 }) (Nat.le_refl _) (Nat.le_refl _) hRcells hRslots
  have hhp : ((T.setVm s.vm).setFrames (.invoking m args :: below)).heap = H := hT
  have hW0 : s.WarmedH ((T.setVm s.vm).setFrames (.invoking m args :: below)).vm := State.WarmedH.refl s
  have hat' : ∀ w ∈ vx_atM cls names, w.before args ((T.setVm s.vm).setFrames (.invoking m args :: below)) = true := fun w hw => vx_ot_at hW0 rfl (hgood w hw) (hat w hw)
  have hU' : vx_Zq Bundle.tN "UNASSIGNED_STACK" Bundle.steD A ((T.setVm s.vm).setFrames (.invoking m args :: below)) ((T.setVm s.vm).setFrames (.invoking m args :: below)).heap := by rw [hhp]; exact vx_Zq.moved hW0.alike (hU.kept hS.2.1)
  have hN' : vx_Zq Bundle.tN "SUPPRESSED_SENTINEL" Bundle.listD A ((T.setVm s.vm).setFrames (.invoking m args :: below)) ((T.setVm s.vm).setFrames (.invoking m args :: below)).heap := by rw [hhp]; exact vx_Zq.moved hW0.alike (hN.kept hS.2.1)
  obtain ⟨S, q, ce, st, Z, hce, hcl', hv⟩ := vx_vmAt Y hexec htr (cls := cls) (names := names) (text := text) hcls hnames hsoe hoom (vx_own hat' (vx_isRefq hU'.1) (vx_isRefq hN'.1) hU'.2.word hN'.2.word) (fun x hx => nomatch hx) htext
    (by rw [Launch.admits_arrayLengthLimit X.admits]; omega) (by rw [Launch.admits_maxHeapBytes X.admits]; simp only [componentBytes]; omega)
    (g := F0 m pc ls rest) rfl hsize hRframes (by show 2 * 0 + (rest.map fun v => v.category).sum + 10240 ≤ R.locals; omega) hshort (by show 0 + 3 ≤ 3; omega) (by show 0 + (_ + 4 + 6) ≤ nb + 10; omega) hlocks
  obtain ⟨f1, f2⟩ := vx_frame Z.same
  have f1' : H.size ≤ S.heap.size := by rw [← hT]; exact f1
  have f2' : ∀ q : Nat, q < H.size → S.heap[q]? = H[q]? := fun q hq => by
    rw [← hT]
    exact f2 q (by rw [← hT] at hq; exact hq) (fun z hz => nomatch hz)
  have X5 := vx_back9 X Y Z
  have X6 : Stand p l e R s m args below meth c S locs (cells + 3) (slots + (nb + 10)) := { X5 with same := X5.same.mono (by omega) (by omega) }
  obtain ⟨t, a1, b1⟩ := k S.heap q ce f1' f2' ⟨Nat.le_trans hS.1 f1', fun q h1 h2 => (f2' q (Nat.lt_of_lt_of_le h1 hS.1)).trans (hS.2.1 q h1 h2), hS.2.2⟩ hce hv hcl' S rfl X6
  exact ⟨t, st t a1, b1⟩
/-- from the machine's note that NullPointerException is thrown here -/
def vx_NoteN (p : Program) (l : Launch) (e : Env) (R : Room) (s : State) (m : MethodId) (args : Array Value) (below : List Frame) (meth : Method) (c : Code) (H : Heap) (locs : List Loc) (cells slots : Nat) (Q : State → Prop) (g : JFrame) : Prop :=
  ∀ T : State, T.heap = H → Stand p l e R s m args below meth c T locs cells slots → ∃ t, Steps p.tables e below ((T.setTop g).pushFrame (.throwNew "java/lang/NullPointerException" none none)) t ∧ Q t
theorem vx_npe {pc : Nat} {ls : Array Slot} {rest : List Value} {Q : State → Prop} (hexec : p.tables.exec = Jvm.exec) (hl : l.stackTraces = false) {nb : Nat} {A : Nat → Prop}
    (hat : ∀ w ∈ vx_atN nb, w.before args s = true) (hgood : ∀ w ∈ vx_atN nb, vx_ot w = true)
    (hU : vx_Zq Bundle.tN "UNASSIGNED_STACK" Bundle.steD A s s.heap) (hN : vx_Zq Bundle.tN "SUPPRESSED_SENTINEL" Bundle.listD A s s.heap) (hS : va_S A s.heap H locs) (hsize : ls.size = c.maxLocals)
    (hRframes : 7 < R.frames) (hRlocals : (rest.map fun v => v.category).sum + 10240 ≤ R.locals) (hRcells : cells + 1 ≤ R.cells) (hRslots : slots + nb ≤ R.slots) (hlocks : meth.locks = false)
    (k : ∀ (H1 : Heap) (q9 : Addr) (ce : Cell), H.size ≤ H1.size → (∀ q : Nat, q < H.size → H1[q]? = H[q]?) → va_S A s.heap H1 locs → H1[q9]? = some ce → ce.vm = .none → s.vm.findClass "java/lang/NullPointerException" = some ce.cls → vx_W p l e R s m args below meth c H1 locs (cells + 1) (slots + nb) Q (F0 m pc ls rest) q9) :
    vx_NoteN p l e R s m args below meth c H locs cells slots Q (F0 m pc ls rest) := by
  intro T hT X
  have htr : e.platform.stackTraces = false := (show e.platform.stackTraces = l.stackTraces by rw [X.admits.platform]).trans hl
  have Y := vx_rebase X (R' := { frames := R.frames, locals := R.locals, cells := 1, slots := nb }) (Nat.le_refl _) (Nat.le_refl _) hRcells hRslots
  have hhp : ((T.setVm s.vm).setFrames (.invoking m args :: below)).heap = H := hT
  have hW0 : s.WarmedH ((T.setVm s.vm).setFrames (.invoking m args :: below)).vm := State.WarmedH.refl s
  have hat' : ∀ w ∈ vx_atN nb, w.before args ((T.setVm s.vm).setFrames (.invoking m args :: below)) = true := fun w hw => vx_ot_at hW0 rfl (hgood w hw) (hat w hw)
  have hU' : vx_Zq Bundle.tN "UNASSIGNED_STACK" Bundle.steD A ((T.setVm s.vm).setFrames (.invoking m args :: below)) ((T.setVm s.vm).setFrames (.invoking m args :: below)).heap := by rw [hhp]; exact vx_Zq.moved hW0.alike (hU.kept hS.2.1)
  have hN' : vx_Zq Bundle.tN "SUPPRESSED_SENTINEL" Bundle.listD A ((T.setVm s.vm).setFrames (.invoking m args :: below)) ((T.setVm s.vm).setFrames (.invoking m args :: below)).heap := by rw [hhp]; exact vx_Zq.moved hW0.alike (hN.kept hS.2.1)
  obtain ⟨S, q, ce, st, Z, hce, hcl', hv⟩ := vx_npeAt Y hexec htr (n := nb) (vx_own hat' (vx_isRefq hU'.1) (vx_isRefq hN'.1) hU'.2.word hN'.2.word) (fun x hx => nomatch hx)
    (g := F0 m pc ls rest) rfl hsize hRframes (by show 2 * 0 + (rest.map fun v => v.category).sum + 10240 ≤ R.locals; omega) (by show 0 + 1 ≤ 1; omega) (by show 0 + nb ≤ nb; omega) hlocks
  obtain ⟨f1, f2⟩ := vx_frame Z.same
  have f1' : H.size ≤ S.heap.size := by rw [← hT]; exact f1
  have f2' : ∀ q : Nat, q < H.size → S.heap[q]? = H[q]? := fun q hq => by
    rw [← hT]
    exact f2 q (by rw [← hT] at hq; exact hq) (fun z hz => nomatch hz)
  have X5 := vx_back9 X Y Z
  have X6 : Stand p l e R s m args below meth c S locs (cells + 1) (slots + nb) := { X5 with same := X5.same.mono (by omega) (by omega) }
  obtain ⟨t, a1, b1⟩ := k S.heap q ce f1' f2' ⟨Nat.le_trans hS.1 f1', fun q h1 h2 => (f2' q (Nat.lt_of_lt_of_le h1 hS.1)).trans (hS.2.1 q h1 h2), hS.2.2⟩ hce hv hcl' S rfl X6
  exact ⟨t, st t a1, b1⟩
variable {Q : State → Prop} {cc : ByteArray} {pc : Nat} {ls : Array Slot} {rest : List Value}
theorem vx_idivZ (hexec : p.tables.exec = Jvm.exec) (hb : c.code = cc) {a b : Int32} (h0 : b = 0) (d : decode cc pc = .ok (.idiv, 1)) (k : vx_Note p l e R s m args below meth c H locs cells slots Q (F0 m pc ls rest) "java/lang/ArithmeticException" "/ by zero") :
    W p l e R s m args below meth c H locs cells slots Q (F0 m pc ls (.int b :: .int a :: rest)) := by
  intro T hT X
  obtain ⟨t, st, q⟩ := k T hT X
  exact ⟨t, X.idivZero hexec (g := F0 m pc ls (.int b :: .int a :: rest)) rfl (a := a) (rest := rest) (by rw [h0]) (by rw [hb]; exact d) t st, q⟩
theorem vx_iremZ (hexec : p.tables.exec = Jvm.exec) (hb : c.code = cc) {a b : Int32} (h0 : b = 0) (d : decode cc pc = .ok (.irem, 1)) (k : vx_Note p l e R s m args below meth c H locs cells slots Q (F0 m pc ls rest) "java/lang/ArithmeticException" "/ by zero") :
    W p l e R s m args below meth c H locs cells slots Q (F0 m pc ls (.int b :: .int a :: rest)) := by
  intro T hT X
  obtain ⟨t, st, q⟩ := k T hT X
  exact ⟨t, X.iremZero hexec (g := F0 m pc ls (.int b :: .int a :: rest)) rfl (a := a) (rest := rest) (by rw [h0]) (by rw [hb]; exact d) t st, q⟩
theorem vx_ldivZ (hexec : p.tables.exec = Jvm.exec) (hb : c.code = cc) {a b : Int64} (h0 : b = 0) (d : decode cc pc = .ok (.ldiv, 1)) (k : vx_Note p l e R s m args below meth c H locs cells slots Q (F0 m pc ls rest) "java/lang/ArithmeticException" "/ by zero") :
    W p l e R s m args below meth c H locs cells slots Q (F0 m pc ls (.long b :: .long a :: rest)) := by
  intro T hT X
  obtain ⟨t, st, q⟩ := k T hT X
  exact ⟨t, X.ldivZero hexec (g := F0 m pc ls (.long b :: .long a :: rest)) rfl (a := a) (rest := rest) (by rw [h0]) (by rw [hb]; exact d) t st, q⟩
theorem vx_lremZ (hexec : p.tables.exec = Jvm.exec) (hb : c.code = cc) {a b : Int64} (h0 : b = 0) (d : decode cc pc = .ok (.lrem, 1)) (k : vx_Note p l e R s m args below meth c H locs cells slots Q (F0 m pc ls rest) "java/lang/ArithmeticException" "/ by zero") :
    W p l e R s m args below meth c H locs cells slots Q (F0 m pc ls (.long b :: .long a :: rest)) := by
  intro T hT X
  obtain ⟨t, st, q⟩ := k T hT X
  exact ⟨t, X.lremZero hexec (g := F0 m pc ls (.long b :: .long a :: rest)) rfl (a := a) (rest := rest) (by rw [h0]) (by rw [hb]; exact d) t st, q⟩
theorem vx_ialdZ {D : va_G} {cl : List vw_C} {ws : va_W} {tys : List (ClassId × FieldType)} {a : Nat} (hexec : p.tables.exec = Jvm.exec) (hb : c.code = cc) (hK : va_K D cl tys s) (hP : va_P D cl ws H) (q0 t0 : Nat) {cA : ClassId} {n : Nat} {f : Nat → Int32} (ha : ws[q0]? = some (a, .inl (cA, n, .inl f))) (ht : tys[t0]? = some (cA, .int)) {i : Int32} (hout : ¬ vp_in i n) (hdg : decode cc pc = .ok (.iaload, 1))
    (k : ∀ tx : String, tx = (toString "Index " ++ toString i ++ toString " out of bounds for length " ++ toString n : String) → vx_Note p l e R s m args below meth c H locs cells slots Q (F0 m pc ls rest) "java/lang/ArrayIndexOutOfBoundsException" tx) : W p l e R s m args below meth c H locs cells slots Q (F0 m pc ls (.int i :: .ref a :: rest)) := by
  intro T hT X
  obtain ⟨t, st, q⟩ := k _ rfl T hT X
  refine ⟨t, ?_, q⟩
  have h1 := X.ialoadOut hexec (by rw [hT]; exact hP q0 _ ha) ((hK.2 t0 _ ht).1 n (fun j => .int (f j))) (j := i) (by show (i < 0 ∨ (arrV _ _ _).slots.size ≤ _); rw [arrV_size]; exact Classical.byContradiction hout) (g := F0 m pc ls (.int i :: .ref a :: rest)) rfl (rest := rest) rfl (by rw [hb]; exact hdg) t
  simp only [arrV_size] at h1
  exact h1 st
theorem vx_iastZ {D : va_G} {cl : List vw_C} {ws : va_W} {tys : List (ClassId × FieldType)} {a : Nat} (hexec : p.tables.exec = Jvm.exec) (hb : c.code = cc) (hK : va_K D cl tys s) (hP : va_P D cl ws H) (q0 t0 : Nat) {cA : ClassId} {n : Nat} {f : Nat → Int32} (ha : ws[q0]? = some (a, .inl (cA, n, .inl f))) (ht : tys[t0]? = some (cA, .int)) {i : Int32} {x : Int32} (hout : ¬ vp_in i n) (hdg : decode cc pc = .ok (.iastore, 1))
    (k : ∀ tx : String, tx = (toString "Index " ++ toString i ++ toString " out of bounds for length " ++ toString n : String) → vx_Note p l e R s m args below meth c H locs cells slots Q (F0 m pc ls rest) "java/lang/ArrayIndexOutOfBoundsException" tx) : W p l e R s m args below meth c H locs cells slots Q (F0 m pc ls (.int x :: .int i :: .ref a :: rest)) := by
  intro T hT X
  obtain ⟨t, st, q⟩ := k _ rfl T hT X
  refine ⟨t, ?_, q⟩
  have h1 := X.iastoreOut hexec (by rw [hT]; exact hP q0 _ ha) ((hK.2 t0 _ ht).1 n (fun j => .int (f j))) (j := i) (by show (i < 0 ∨ (arrV _ _ _).slots.size ≤ _); rw [arrV_size]; exact Classical.byContradiction hout) (g := F0 m pc ls (.int x :: .int i :: .ref a :: rest)) rfl (rest := rest) rfl (by rw [hb]; exact hdg) t
  simp only [arrV_size] at h1
  exact h1 st
theorem vx_baldZ {D : va_G} {cl : List vw_C} {ws : va_W} {tys : List (ClassId × FieldType)} {a : Nat} (hexec : p.tables.exec = Jvm.exec) (hb : c.code = cc) (hK : va_K D cl tys s) (hP : va_P D cl ws H) (q0 t0 : Nat) {cA : ClassId} {n : Nat} {f : Nat → Int32} (ha : ws[q0]? = some (a, .inl (cA, n, .inl f))) (ht : tys[t0]? = some (cA, .byte)) {i : Int32} (hout : ¬ vp_in i n) (hdg : decode cc pc = .ok (.baload, 1))
    (k : ∀ tx : String, tx = (toString "Index " ++ toString i ++ toString " out of bounds for length " ++ toString n : String) → vx_Note p l e R s m args below meth c H locs cells slots Q (F0 m pc ls rest) "java/lang/ArrayIndexOutOfBoundsException" tx) : W p l e R s m args below meth c H locs cells slots Q (F0 m pc ls (.int i :: .ref a :: rest)) := by
  intro T hT X
  obtain ⟨t, st, q⟩ := k _ rfl T hT X
  refine ⟨t, ?_, q⟩
  have h1 := X.baloadOut hexec (by rw [hT]; exact hP q0 _ ha) ((hK.2 t0 _ ht).1 n (fun j => .int (f j))) (j := i) (by show (i < 0 ∨ (arrV _ _ _).slots.size ≤ _); rw [arrV_size]; exact Classical.byContradiction hout) (g := F0 m pc ls (.int i :: .ref a :: rest)) rfl (rest := rest) rfl (by rw [hb]; exact hdg) t
  simp only [arrV_size] at h1
  exact h1 st
theorem vx_bastZ {D : va_G} {cl : List vw_C} {ws : va_W} {tys : List (ClassId × FieldType)} {a : Nat} (hexec : p.tables.exec = Jvm.exec) (hb : c.code = cc) (hK : va_K D cl tys s) (hP : va_P D cl ws H) (q0 t0 : Nat) {cA : ClassId} {n : Nat} {f : Nat → Int32} (ha : ws[q0]? = some (a, .inl (cA, n, .inl f))) (ht : tys[t0]? = some (cA, .byte)) {i : Int32} {x : Int32} (hout : ¬ vp_in i n) (hdg : decode cc pc = .ok (.bastore, 1))
    (k : ∀ tx : String, tx = (toString "Index " ++ toString i ++ toString " out of bounds for length " ++ toString n : String) → vx_Note p l e R s m args below meth c H locs cells slots Q (F0 m pc ls rest) "java/lang/ArrayIndexOutOfBoundsException" tx) : W p l e R s m args below meth c H locs cells slots Q (F0 m pc ls (.int x :: .int i :: .ref a :: rest)) := by
  intro T hT X
  obtain ⟨t, st, q⟩ := k _ rfl T hT X
  refine ⟨t, ?_, q⟩
  have h1 := X.bastoreOut hexec (by rw [hT]; exact hP q0 _ ha) ((hK.2 t0 _ ht).1 n (fun j => .int (f j))) (j := i) (by show (i < 0 ∨ (arrV _ _ _).slots.size ≤ _); rw [arrV_size]; exact Classical.byContradiction hout) (g := F0 m pc ls (.int x :: .int i :: .ref a :: rest)) rfl (rest := rest) rfl (by rw [hb]; exact hdg) t
  simp only [arrV_size] at h1
  exact h1 st
theorem vx_zaldZ {D : va_G} {cl : List vw_C} {ws : va_W} {tys : List (ClassId × FieldType)} {a : Nat} (hexec : p.tables.exec = Jvm.exec) (hb : c.code = cc) (hK : va_K D cl tys s) (hP : va_P D cl ws H) (q0 t0 : Nat) {cA : ClassId} {n : Nat} {f : Nat → Int32} (ha : ws[q0]? = some (a, .inl (cA, n, .inl f))) (ht : tys[t0]? = some (cA, .boolean)) {i : Int32} (hout : ¬ vp_in i n) (hdg : decode cc pc = .ok (.baload, 1))
    (k : ∀ tx : String, tx = (toString "Index " ++ toString i ++ toString " out of bounds for length " ++ toString n : String) → vx_Note p l e R s m args below meth c H locs cells slots Q (F0 m pc ls rest) "java/lang/ArrayIndexOutOfBoundsException" tx) : W p l e R s m args below meth c H locs cells slots Q (F0 m pc ls (.int i :: .ref a :: rest)) := by
  intro T hT X
  obtain ⟨t, st, q⟩ := k _ rfl T hT X
  refine ⟨t, ?_, q⟩
  have h1 := X.baloadOut hexec (by rw [hT]; exact hP q0 _ ha) ((hK.2 t0 _ ht).1 n (fun j => .int (f j))) (j := i) (by show (i < 0 ∨ (arrV _ _ _).slots.size ≤ _); rw [arrV_size]; exact Classical.byContradiction hout) (g := F0 m pc ls (.int i :: .ref a :: rest)) rfl (rest := rest) rfl (by rw [hb]; exact hdg) t
  simp only [arrV_size] at h1
  exact h1 st
theorem vx_zastZ {D : va_G} {cl : List vw_C} {ws : va_W} {tys : List (ClassId × FieldType)} {a : Nat} (hexec : p.tables.exec = Jvm.exec) (hb : c.code = cc) (hK : va_K D cl tys s) (hP : va_P D cl ws H) (q0 t0 : Nat) {cA : ClassId} {n : Nat} {f : Nat → Int32} (ha : ws[q0]? = some (a, .inl (cA, n, .inl f))) (ht : tys[t0]? = some (cA, .boolean)) {i : Int32} {x : Int32} (hout : ¬ vp_in i n) (hdg : decode cc pc = .ok (.bastore, 1))
    (k : ∀ tx : String, tx = (toString "Index " ++ toString i ++ toString " out of bounds for length " ++ toString n : String) → vx_Note p l e R s m args below meth c H locs cells slots Q (F0 m pc ls rest) "java/lang/ArrayIndexOutOfBoundsException" tx) : W p l e R s m args below meth c H locs cells slots Q (F0 m pc ls (.int x :: .int i :: .ref a :: rest)) := by
  intro T hT X
  obtain ⟨t, st, q⟩ := k _ rfl T hT X
  refine ⟨t, ?_, q⟩
  have h1 := X.bastoreOut hexec (by rw [hT]; exact hP q0 _ ha) ((hK.2 t0 _ ht).1 n (fun j => .int (f j))) (j := i) (by show (i < 0 ∨ (arrV _ _ _).slots.size ≤ _); rw [arrV_size]; exact Classical.byContradiction hout) (g := F0 m pc ls (.int x :: .int i :: .ref a :: rest)) rfl (rest := rest) rfl (by rw [hb]; exact hdg) t
  simp only [arrV_size] at h1
  exact h1 st
theorem vx_caldZ {D : va_G} {cl : List vw_C} {ws : va_W} {tys : List (ClassId × FieldType)} {a : Nat} (hexec : p.tables.exec = Jvm.exec) (hb : c.code = cc) (hK : va_K D cl tys s) (hP : va_P D cl ws H) (q0 t0 : Nat) {cA : ClassId} {n : Nat} {f : Nat → Int32} (ha : ws[q0]? = some (a, .inl (cA, n, .inl f))) (ht : tys[t0]? = some (cA, .char)) {i : Int32} (hout : ¬ vp_in i n) (hdg : decode cc pc = .ok (.caload, 1))
    (k : ∀ tx : String, tx = (toString "Index " ++ toString i ++ toString " out of bounds for length " ++ toString n : String) → vx_Note p l e R s m args below meth c H locs cells slots Q (F0 m pc ls rest) "java/lang/ArrayIndexOutOfBoundsException" tx) : W p l e R s m args below meth c H locs cells slots Q (F0 m pc ls (.int i :: .ref a :: rest)) := by
  intro T hT X
  obtain ⟨t, st, q⟩ := k _ rfl T hT X
  refine ⟨t, ?_, q⟩
  have h1 := X.caloadOut hexec (by rw [hT]; exact hP q0 _ ha) ((hK.2 t0 _ ht).1 n (fun j => .int (f j))) (j := i) (by show (i < 0 ∨ (arrV _ _ _).slots.size ≤ _); rw [arrV_size]; exact Classical.byContradiction hout) (g := F0 m pc ls (.int i :: .ref a :: rest)) rfl (rest := rest) rfl (by rw [hb]; exact hdg) t
  simp only [arrV_size] at h1
  exact h1 st
theorem vx_castZ {D : va_G} {cl : List vw_C} {ws : va_W} {tys : List (ClassId × FieldType)} {a : Nat} (hexec : p.tables.exec = Jvm.exec) (hb : c.code = cc) (hK : va_K D cl tys s) (hP : va_P D cl ws H) (q0 t0 : Nat) {cA : ClassId} {n : Nat} {f : Nat → Int32} (ha : ws[q0]? = some (a, .inl (cA, n, .inl f))) (ht : tys[t0]? = some (cA, .char)) {i : Int32} {x : Int32} (hout : ¬ vp_in i n) (hdg : decode cc pc = .ok (.castore, 1))
    (k : ∀ tx : String, tx = (toString "Index " ++ toString i ++ toString " out of bounds for length " ++ toString n : String) → vx_Note p l e R s m args below meth c H locs cells slots Q (F0 m pc ls rest) "java/lang/ArrayIndexOutOfBoundsException" tx) : W p l e R s m args below meth c H locs cells slots Q (F0 m pc ls (.int x :: .int i :: .ref a :: rest)) := by
  intro T hT X
  obtain ⟨t, st, q⟩ := k _ rfl T hT X
  refine ⟨t, ?_, q⟩
  have h1 := X.castoreOut hexec (by rw [hT]; exact hP q0 _ ha) ((hK.2 t0 _ ht).1 n (fun j => .int (f j))) (j := i) (by show (i < 0 ∨ (arrV _ _ _).slots.size ≤ _); rw [arrV_size]; exact Classical.byContradiction hout) (g := F0 m pc ls (.int x :: .int i :: .ref a :: rest)) rfl (rest := rest) rfl (by rw [hb]; exact hdg) t
  simp only [arrV_size] at h1
  exact h1 st
theorem vx_saldZ {D : va_G} {cl : List vw_C} {ws : va_W} {tys : List (ClassId × FieldType)} {a : Nat} (hexec : p.tables.exec = Jvm.exec) (hb : c.code = cc) (hK : va_K D cl tys s) (hP : va_P D cl ws H) (q0 t0 : Nat) {cA : ClassId} {n : Nat} {f : Nat → Int32} (ha : ws[q0]? = some (a, .inl (cA, n, .inl f))) (ht : tys[t0]? = some (cA, .short)) {i : Int32} (hout : ¬ vp_in i n) (hdg : decode cc pc = .ok (.saload, 1))
    (k : ∀ tx : String, tx = (toString "Index " ++ toString i ++ toString " out of bounds for length " ++ toString n : String) → vx_Note p l e R s m args below meth c H locs cells slots Q (F0 m pc ls rest) "java/lang/ArrayIndexOutOfBoundsException" tx) : W p l e R s m args below meth c H locs cells slots Q (F0 m pc ls (.int i :: .ref a :: rest)) := by
  intro T hT X
  obtain ⟨t, st, q⟩ := k _ rfl T hT X
  refine ⟨t, ?_, q⟩
  have h1 := X.saloadOut hexec (by rw [hT]; exact hP q0 _ ha) ((hK.2 t0 _ ht).1 n (fun j => .int (f j))) (j := i) (by show (i < 0 ∨ (arrV _ _ _).slots.size ≤ _); rw [arrV_size]; exact Classical.byContradiction hout) (g := F0 m pc ls (.int i :: .ref a :: rest)) rfl (rest := rest) rfl (by rw [hb]; exact hdg) t
  simp only [arrV_size] at h1
  exact h1 st
theorem vx_sastZ {D : va_G} {cl : List vw_C} {ws : va_W} {tys : List (ClassId × FieldType)} {a : Nat} (hexec : p.tables.exec = Jvm.exec) (hb : c.code = cc) (hK : va_K D cl tys s) (hP : va_P D cl ws H) (q0 t0 : Nat) {cA : ClassId} {n : Nat} {f : Nat → Int32} (ha : ws[q0]? = some (a, .inl (cA, n, .inl f))) (ht : tys[t0]? = some (cA, .short)) {i : Int32} {x : Int32} (hout : ¬ vp_in i n) (hdg : decode cc pc = .ok (.sastore, 1))
    (k : ∀ tx : String, tx = (toString "Index " ++ toString i ++ toString " out of bounds for length " ++ toString n : String) → vx_Note p l e R s m args below meth c H locs cells slots Q (F0 m pc ls rest) "java/lang/ArrayIndexOutOfBoundsException" tx) : W p l e R s m args below meth c H locs cells slots Q (F0 m pc ls (.int x :: .int i :: .ref a :: rest)) := by
  intro T hT X
  obtain ⟨t, st, q⟩ := k _ rfl T hT X
  refine ⟨t, ?_, q⟩
  have h1 := X.sastoreOut hexec (by rw [hT]; exact hP q0 _ ha) ((hK.2 t0 _ ht).1 n (fun j => .int (f j))) (j := i) (by show (i < 0 ∨ (arrV _ _ _).slots.size ≤ _); rw [arrV_size]; exact Classical.byContradiction hout) (g := F0 m pc ls (.int x :: .int i :: .ref a :: rest)) rfl (rest := rest) rfl (by rw [hb]; exact hdg) t
  simp only [arrV_size] at h1
  exact h1 st
theorem vx_laldZ {D : va_G} {cl : List vw_C} {ws : va_W} {tys : List (ClassId × FieldType)} {a : Nat} (hexec : p.tables.exec = Jvm.exec) (hb : c.code = cc) (hK : va_K D cl tys s) (hP : va_P D cl ws H) (q0 t0 : Nat) {cA : ClassId} {n : Nat} {f : Nat → Int64} (ha : ws[q0]? = some (a, .inl (cA, n, .inr (.inl f)))) (ht : tys[t0]? = some (cA, .long)) {i : Int32} (hout : ¬ vp_in i n) (hdg : decode cc pc = .ok (.laload, 1))
    (k : ∀ tx : String, tx = (toString "Index " ++ toString i ++ toString " out of bounds for length " ++ toString n : String) → vx_Note p l e R s m args below meth c H locs cells slots Q (F0 m pc ls rest) "java/lang/ArrayIndexOutOfBoundsException" tx) : W p l e R s m args below meth c H locs cells slots Q (F0 m pc ls (.int i :: .ref a :: rest)) := by
  intro T hT X
  obtain ⟨t, st, q⟩ := k _ rfl T hT X
  refine ⟨t, ?_, q⟩
  have h1 := X.laloadOut hexec (by rw [hT]; exact hP q0 _ ha) ((hK.2 t0 _ ht).1 n (fun j => .long (f j))) (j := i) (by show (i < 0 ∨ (arrV _ _ _).slots.size ≤ _); rw [arrV_size]; exact Classical.byContradiction hout) (g := F0 m pc ls (.int i :: .ref a :: rest)) rfl (rest := rest) rfl (by rw [hb]; exact hdg) t
  simp only [arrV_size] at h1
  exact h1 st
theorem vx_lastZ {D : va_G} {cl : List vw_C} {ws : va_W} {tys : List (ClassId × FieldType)} {a : Nat} (hexec : p.tables.exec = Jvm.exec) (hb : c.code = cc) (hK : va_K D cl tys s) (hP : va_P D cl ws H) (q0 t0 : Nat) {cA : ClassId} {n : Nat} {f : Nat → Int64} (ha : ws[q0]? = some (a, .inl (cA, n, .inr (.inl f)))) (ht : tys[t0]? = some (cA, .long)) {i : Int32} {x : Int64} (hout : ¬ vp_in i n) (hdg : decode cc pc = .ok (.lastore, 1))
    (k : ∀ tx : String, tx = (toString "Index " ++ toString i ++ toString " out of bounds for length " ++ toString n : String) → vx_Note p l e R s m args below meth c H locs cells slots Q (F0 m pc ls rest) "java/lang/ArrayIndexOutOfBoundsException" tx) : W p l e R s m args below meth c H locs cells slots Q (F0 m pc ls (.long x :: .int i :: .ref a :: rest)) := by
  intro T hT X
  obtain ⟨t, st, q⟩ := k _ rfl T hT X
  refine ⟨t, ?_, q⟩
  have h1 := X.lastoreOut hexec (by rw [hT]; exact hP q0 _ ha) ((hK.2 t0 _ ht).1 n (fun j => .long (f j))) (j := i) (by show (i < 0 ∨ (arrV _ _ _).slots.size ≤ _); rw [arrV_size]; exact Classical.byContradiction hout) (g := F0 m pc ls (.long x :: .int i :: .ref a :: rest)) rfl (rest := rest) rfl (by rw [hb]; exact hdg) t
  simp only [arrV_size] at h1
  exact h1 st
theorem vx_faldZ {D : va_G} {cl : List vw_C} {ws : va_W} {tys : List (ClassId × FieldType)} {a : Nat} (hexec : p.tables.exec = Jvm.exec) (hb : c.code = cc) (hK : va_K D cl tys s) (hP : va_P D cl ws H) (q0 t0 : Nat) {cA : ClassId} {n : Nat} {f : Nat → UInt32} (ha : ws[q0]? = some (a, .inl (cA, n, .inr (.inr (.inl f))))) (ht : tys[t0]? = some (cA, .float)) {i : Int32} (hout : ¬ vp_in i n) (hdg : decode cc pc = .ok (.faload, 1))
    (k : ∀ tx : String, tx = (toString "Index " ++ toString i ++ toString " out of bounds for length " ++ toString n : String) → vx_Note p l e R s m args below meth c H locs cells slots Q (F0 m pc ls rest) "java/lang/ArrayIndexOutOfBoundsException" tx) : W p l e R s m args below meth c H locs cells slots Q (F0 m pc ls (.int i :: .ref a :: rest)) := by
  intro T hT X
  obtain ⟨t, st, q⟩ := k _ rfl T hT X
  refine ⟨t, ?_, q⟩
  have h1 := X.faloadOut hexec (by rw [hT]; exact hP q0 _ ha) ((hK.2 t0 _ ht).1 n (fun j => .float (f j))) (j := i) (by show (i < 0 ∨ (arrV _ _ _).slots.size ≤ _); rw [arrV_size]; exact Classical.byContradiction hout) (g := F0 m pc ls (.int i :: .ref a :: rest)) rfl (rest := rest) rfl (by rw [hb]; exact hdg) t
  simp only [arrV_size] at h1
  exact h1 st
theorem vx_fastZ {D : va_G} {cl : List vw_C} {ws : va_W} {tys : List (ClassId × FieldType)} {a : Nat} (hexec : p.tables.exec = Jvm.exec) (hb : c.code = cc) (hK : va_K D cl tys s) (hP : va_P D cl ws H) (q0 t0 : Nat) {cA : ClassId} {n : Nat} {f : Nat → UInt32} (ha : ws[q0]? = some (a, .inl (cA, n, .inr (.inr (.inl f))))) (ht : tys[t0]? = some (cA, .float)) {i : Int32} {x : UInt32} (hout : ¬ vp_in i n) (hdg : decode cc pc = .ok (.fastore, 1))
    (k : ∀ tx : String, tx = (toString "Index " ++ toString i ++ toString " out of bounds for length " ++ toString n : String) → vx_Note p l e R s m args below meth c H locs cells slots Q (F0 m pc ls rest) "java/lang/ArrayIndexOutOfBoundsException" tx) : W p l e R s m args below meth c H locs cells slots Q (F0 m pc ls (.float x :: .int i :: .ref a :: rest)) := by
  intro T hT X
  obtain ⟨t, st, q⟩ := k _ rfl T hT X
  refine ⟨t, ?_, q⟩
  have h1 := X.fastoreOut hexec (by rw [hT]; exact hP q0 _ ha) ((hK.2 t0 _ ht).1 n (fun j => .float (f j))) (j := i) (by show (i < 0 ∨ (arrV _ _ _).slots.size ≤ _); rw [arrV_size]; exact Classical.byContradiction hout) (g := F0 m pc ls (.float x :: .int i :: .ref a :: rest)) rfl (rest := rest) rfl (by rw [hb]; exact hdg) t
  simp only [arrV_size] at h1
  exact h1 st
theorem vx_daldZ {D : va_G} {cl : List vw_C} {ws : va_W} {tys : List (ClassId × FieldType)} {a : Nat} (hexec : p.tables.exec = Jvm.exec) (hb : c.code = cc) (hK : va_K D cl tys s) (hP : va_P D cl ws H) (q0 t0 : Nat) {cA : ClassId} {n : Nat} {f : Nat → UInt64} (ha : ws[q0]? = some (a, .inl (cA, n, .inr (.inr (.inr (.inl f)))))) (ht : tys[t0]? = some (cA, .double)) {i : Int32} (hout : ¬ vp_in i n) (hdg : decode cc pc = .ok (.daload, 1))
    (k : ∀ tx : String, tx = (toString "Index " ++ toString i ++ toString " out of bounds for length " ++ toString n : String) → vx_Note p l e R s m args below meth c H locs cells slots Q (F0 m pc ls rest) "java/lang/ArrayIndexOutOfBoundsException" tx) : W p l e R s m args below meth c H locs cells slots Q (F0 m pc ls (.int i :: .ref a :: rest)) := by
  intro T hT X
  obtain ⟨t, st, q⟩ := k _ rfl T hT X
  refine ⟨t, ?_, q⟩
  have h1 := X.daloadOut hexec (by rw [hT]; exact hP q0 _ ha) ((hK.2 t0 _ ht).1 n (fun j => .double (f j))) (j := i) (by show (i < 0 ∨ (arrV _ _ _).slots.size ≤ _); rw [arrV_size]; exact Classical.byContradiction hout) (g := F0 m pc ls (.int i :: .ref a :: rest)) rfl (rest := rest) rfl (by rw [hb]; exact hdg) t
  simp only [arrV_size] at h1
  exact h1 st
theorem vx_dastZ {D : va_G} {cl : List vw_C} {ws : va_W} {tys : List (ClassId × FieldType)} {a : Nat} (hexec : p.tables.exec = Jvm.exec) (hb : c.code = cc) (hK : va_K D cl tys s) (hP : va_P D cl ws H) (q0 t0 : Nat) {cA : ClassId} {n : Nat} {f : Nat → UInt64} (ha : ws[q0]? = some (a, .inl (cA, n, .inr (.inr (.inr (.inl f)))))) (ht : tys[t0]? = some (cA, .double)) {i : Int32} {x : UInt64} (hout : ¬ vp_in i n) (hdg : decode cc pc = .ok (.dastore, 1))
    (k : ∀ tx : String, tx = (toString "Index " ++ toString i ++ toString " out of bounds for length " ++ toString n : String) → vx_Note p l e R s m args below meth c H locs cells slots Q (F0 m pc ls rest) "java/lang/ArrayIndexOutOfBoundsException" tx) : W p l e R s m args below meth c H locs cells slots Q (F0 m pc ls (.double x :: .int i :: .ref a :: rest)) := by
  intro T hT X
  obtain ⟨t, st, q⟩ := k _ rfl T hT X
  refine ⟨t, ?_, q⟩
  have h1 := X.dastoreOut hexec (by rw [hT]; exact hP q0 _ ha) ((hK.2 t0 _ ht).1 n (fun j => .double (f j))) (j := i) (by show (i < 0 ∨ (arrV _ _ _).slots.size ≤ _); rw [arrV_size]; exact Classical.byContradiction hout) (g := F0 m pc ls (.double x :: .int i :: .ref a :: rest)) rfl (rest := rest) rfl (by rw [hb]; exact hdg) t
  simp only [arrV_size] at h1
  exact h1 st
theorem vx_arraylengthN (hexec : p.tables.exec = Jvm.exec) (hb : c.code = cc) (hdg : decode cc pc = .ok (.arraylength, 1)) (k : vx_NoteN p l e R s m args below meth c H locs cells slots Q (F0 m pc ls rest)) : W p l e R s m args below meth c H locs cells slots Q (F0 m pc ls (.null :: rest)) := by
  intro T hT X
  obtain ⟨t, st, q⟩ := k T hT X
  exact ⟨t, X.arraylengthNull hexec (g := F0 m pc ls (.null :: rest)) rfl (rest := rest) rfl (by rw [hb]; exact hdg) t st, q⟩
theorem vx_ialoadN (hexec : p.tables.exec = Jvm.exec) (hb : c.code = cc) {i : Int32} (hdg : decode cc pc = .ok (.iaload, 1)) (k : vx_NoteN p l e R s m args below meth c H locs cells slots Q (F0 m pc ls rest)) : W p l e R s m args below meth c H locs cells slots Q (F0 m pc ls (.int i :: .null :: rest)) := by
  intro T hT X
  obtain ⟨t, st, q⟩ := k T hT X
  exact ⟨t, X.ialoadNull hexec (g := F0 m pc ls (.int i :: .null :: rest)) rfl (rest := rest) rfl (by rw [hb]; exact hdg) t st, q⟩
theorem vx_laloadN (hexec : p.tables.exec = Jvm.exec) (hb : c.code = cc) {i : Int32} (hdg : decode cc pc = .ok (.laload, 1)) (k : vx_NoteN p l e R s m args below meth c H locs cells slots Q (F0 m pc ls rest)) : W p l e R s m args below meth c H locs cells slots Q (F0 m pc ls (.int i :: .null :: rest)) := by
  intro T hT X
  obtain ⟨t, st, q⟩ := k T hT X
  exact ⟨t, X.laloadNull hexec (g := F0 m pc ls (.int i :: .null :: rest)) rfl (rest := rest) rfl (by rw [hb]; exact hdg) t st, q⟩
theorem vx_faloadN (hexec : p.tables.exec = Jvm.exec) (hb : c.code = cc) {i : Int32} (hdg : decode cc pc = .ok (.faload, 1)) (k : vx_NoteN p l e R s m args below meth c H locs cells slots Q (F0 m pc ls rest)) : W p l e R s m args below meth c H locs cells slots Q (F0 m pc ls (.int i :: .null :: rest)) := by
  intro T hT X
  obtain ⟨t, st, q⟩ := k T hT X
  exact ⟨t, X.faloadNull hexec (g := F0 m pc ls (.int i :: .null :: rest)) rfl (rest := rest) rfl (by rw [hb]; exact hdg) t st, q⟩
theorem vx_daloadN (hexec : p.tables.exec = Jvm.exec) (hb : c.code = cc) {i : Int32} (hdg : decode cc pc = .ok (.daload, 1)) (k : vx_NoteN p l e R s m args below meth c H locs cells slots Q (F0 m pc ls rest)) : W p l e R s m args below meth c H locs cells slots Q (F0 m pc ls (.int i :: .null :: rest)) := by
  intro T hT X
  obtain ⟨t, st, q⟩ := k T hT X
  exact ⟨t, X.daloadNull hexec (g := F0 m pc ls (.int i :: .null :: rest)) rfl (rest := rest) rfl (by rw [hb]; exact hdg) t st, q⟩
theorem vx_aaloadN (hexec : p.tables.exec = Jvm.exec) (hb : c.code = cc) {i : Int32} (hdg : decode cc pc = .ok (.aaload, 1)) (k : vx_NoteN p l e R s m args below meth c H locs cells slots Q (F0 m pc ls rest)) : W p l e R s m args below meth c H locs cells slots Q (F0 m pc ls (.int i :: .null :: rest)) := by
  intro T hT X
  obtain ⟨t, st, q⟩ := k T hT X
  exact ⟨t, X.aaloadNull hexec (g := F0 m pc ls (.int i :: .null :: rest)) rfl (rest := rest) rfl (by rw [hb]; exact hdg) t st, q⟩
theorem vx_baloadN (hexec : p.tables.exec = Jvm.exec) (hb : c.code = cc) {i : Int32} (hdg : decode cc pc = .ok (.baload, 1)) (k : vx_NoteN p l e R s m args below meth c H locs cells slots Q (F0 m pc ls rest)) : W p l e R s m args below meth c H locs cells slots Q (F0 m pc ls (.int i :: .null :: rest)) := by
  intro T hT X
  obtain ⟨t, st, q⟩ := k T hT X
  exact ⟨t, X.baloadNull hexec (g := F0 m pc ls (.int i :: .null :: rest)) rfl (rest := rest) rfl (by rw [hb]; exact hdg) t st, q⟩
theorem vx_caloadN (hexec : p.tables.exec = Jvm.exec) (hb : c.code = cc) {i : Int32} (hdg : decode cc pc = .ok (.caload, 1)) (k : vx_NoteN p l e R s m args below meth c H locs cells slots Q (F0 m pc ls rest)) : W p l e R s m args below meth c H locs cells slots Q (F0 m pc ls (.int i :: .null :: rest)) := by
  intro T hT X
  obtain ⟨t, st, q⟩ := k T hT X
  exact ⟨t, X.caloadNull hexec (g := F0 m pc ls (.int i :: .null :: rest)) rfl (rest := rest) rfl (by rw [hb]; exact hdg) t st, q⟩
theorem vx_saloadN (hexec : p.tables.exec = Jvm.exec) (hb : c.code = cc) {i : Int32} (hdg : decode cc pc = .ok (.saload, 1)) (k : vx_NoteN p l e R s m args below meth c H locs cells slots Q (F0 m pc ls rest)) : W p l e R s m args below meth c H locs cells slots Q (F0 m pc ls (.int i :: .null :: rest)) := by
  intro T hT X
  obtain ⟨t, st, q⟩ := k T hT X
  exact ⟨t, X.saloadNull hexec (g := F0 m pc ls (.int i :: .null :: rest)) rfl (rest := rest) rfl (by rw [hb]; exact hdg) t st, q⟩
theorem vx_iastoreN (hexec : p.tables.exec = Jvm.exec) (hb : c.code = cc) {x : Int32} {i : Int32} (hdg : decode cc pc = .ok (.iastore, 1)) (k : vx_NoteN p l e R s m args below meth c H locs cells slots Q (F0 m pc ls rest)) : W p l e R s m args below meth c H locs cells slots Q (F0 m pc ls (.int x :: .int i :: .null :: rest)) := by
  intro T hT X
  obtain ⟨t, st, q⟩ := k T hT X
  exact ⟨t, X.iastoreNull hexec (g := F0 m pc ls (.int x :: .int i :: .null :: rest)) rfl (rest := rest) rfl (by rw [hb]; exact hdg) t st, q⟩
theorem vx_lastoreN (hexec : p.tables.exec = Jvm.exec) (hb : c.code = cc) {x : Int64} {i : Int32} (hdg : decode cc pc = .ok (.lastore, 1)) (k : vx_NoteN p l e R s m args below meth c H locs cells slots Q (F0 m pc ls rest)) : W p l e R s m args below meth c H locs cells slots Q (F0 m pc ls (.long x :: .int i :: .null :: rest)) := by
  intro T hT X
  obtain ⟨t, st, q⟩ := k T hT X
  exact ⟨t, X.lastoreNull hexec (g := F0 m pc ls (.long x :: .int i :: .null :: rest)) rfl (rest := rest) rfl (by rw [hb]; exact hdg) t st, q⟩
theorem vx_fastoreN (hexec : p.tables.exec = Jvm.exec) (hb : c.code = cc) {x : UInt32} {i : Int32} (hdg : decode cc pc = .ok (.fastore, 1)) (k : vx_NoteN p l e R s m args below meth c H locs cells slots Q (F0 m pc ls rest)) : W p l e R s m args below meth c H locs cells slots Q (F0 m pc ls (.float x :: .int i :: .null :: rest)) := by
  intro T hT X
  obtain ⟨t, st, q⟩ := k T hT X
  exact ⟨t, X.fastoreNull hexec (g := F0 m pc ls (.float x :: .int i :: .null :: rest)) rfl (rest := rest) rfl (by rw [hb]; exact hdg) t st, q⟩
theorem vx_dastoreN (hexec : p.tables.exec = Jvm.exec) (hb : c.code = cc) {x : UInt64} {i : Int32} (hdg : decode cc pc = .ok (.dastore, 1)) (k : vx_NoteN p l e R s m args below meth c H locs cells slots Q (F0 m pc ls rest)) : W p l e R s m args below meth c H locs cells slots Q (F0 m pc ls (.double x :: .int i :: .null :: rest)) := by
  intro T hT X
  obtain ⟨t, st, q⟩ := k T hT X
  exact ⟨t, X.dastoreNull hexec (g := F0 m pc ls (.double x :: .int i :: .null :: rest)) rfl (rest := rest) rfl (by rw [hb]; exact hdg) t st, q⟩
theorem vx_bastoreN (hexec : p.tables.exec = Jvm.exec) (hb : c.code = cc) {x : Int32} {i : Int32} (hdg : decode cc pc = .ok (.bastore, 1)) (k : vx_NoteN p l e R s m args below meth c H locs cells slots Q (F0 m pc ls rest)) : W p l e R s m args below meth c H locs cells slots Q (F0 m pc ls (.int x :: .int i :: .null :: rest)) := by
  intro T hT X
  obtain ⟨t, st, q⟩ := k T hT X
  exact ⟨t, X.bastoreNull hexec (g := F0 m pc ls (.int x :: .int i :: .null :: rest)) rfl (rest := rest) rfl (by rw [hb]; exact hdg) t st, q⟩
theorem vx_castoreN (hexec : p.tables.exec = Jvm.exec) (hb : c.code = cc) {x : Int32} {i : Int32} (hdg : decode cc pc = .ok (.castore, 1)) (k : vx_NoteN p l e R s m args below meth c H locs cells slots Q (F0 m pc ls rest)) : W p l e R s m args below meth c H locs cells slots Q (F0 m pc ls (.int x :: .int i :: .null :: rest)) := by
  intro T hT X
  obtain ⟨t, st, q⟩ := k T hT X
  exact ⟨t, X.castoreNull hexec (g := F0 m pc ls (.int x :: .int i :: .null :: rest)) rfl (rest := rest) rfl (by rw [hb]; exact hdg) t st, q⟩
theorem vx_sastoreN (hexec : p.tables.exec = Jvm.exec) (hb : c.code = cc) {x : Int32} {i : Int32} (hdg : decode cc pc = .ok (.sastore, 1)) (k : vx_NoteN p l e R s m args below meth c H locs cells slots Q (F0 m pc ls rest)) : W p l e R s m args below meth c H locs cells slots Q (F0 m pc ls (.int x :: .int i :: .null :: rest)) := by
  intro T hT X
  obtain ⟨t, st, q⟩ := k T hT X
  exact ⟨t, X.sastoreNull hexec (g := F0 m pc ls (.int x :: .int i :: .null :: rest)) rfl (rest := rest) rfl (by rw [hb]; exact hdg) t st, q⟩
theorem vx_invokeN {own C : String} {index maxL : Nat} {y : MethodName} {bytes : ByteArray} {ret : Option FieldType} (hexec : p.tables.exec = Jvm.exec) (hb : c.code = cc) (hown : s.vm.findClass own = some m.cls) (hlink : (Cond.methodLink own index y).before args s = true) (hinst : (Cond.instanceMethod y).before args s = true) (hcode : (Cond.code y bytes maxL ret).before args s = true) (hsel : (Cond.selects C y y).before args s = true)
    (hx : y.cls ≠ "java/lang/invoke/MethodHandle" ∧ y.cls ≠ "java/lang/invoke/VarHandle") {As : List Value} (hlen : (parseMethodDescriptor y.desc).map (fun d => d.parameters.length) = some As.length) (hdg : decode cc pc = .ok (.invokevirtual index, 3))
    (k : vx_NoteN p l e R s m args below meth c H locs cells slots Q (F0 m pc ls rest)) {st0 : List Value} (hst : st0 = As.reverse ++ .null :: rest) : W p l e R s m args below meth c H locs cells slots Q (F0 m pc ls st0) := by
  intro T hT X
  obtain ⟨r0, r, hn, hrm, hstR, hsigR⟩ := va_Decl.of hinst hcode
  obtain ⟨c2, r2, m2, q1, q2, q3, q4, kP, hkP, hkPi⟩ := Cond.selects_spec hsel
  cases hn.symm.trans q3
  have hl9 : As.length = r.sig.parameters.length := by
    rw [hsigR] at hlen
    exact (Option.some.inj hlen).symm
  obtain ⟨vm', X1, st1⟩ := X.invokevirtualNull hexec hown hlink hn hrm hstR hkP hkPi hx (g := F0 m pc ls st0) rfl (argsL := As) (rest := rest) hl9 hst (by rw [hb]; exact hdg)
  obtain ⟨t, st, q⟩ := k (T.setVm vm') hT X1
  exact ⟨t, st1 t st, q⟩
theorem vx_newarrayZ {atype : ArrayType} (hexec : p.tables.exec = Jvm.exec) (hb : c.code = cc) {n : Int32} (h0 : n < 0) (hdg : decode cc pc = .ok (.newarray atype, 2)) (k : ∀ tx : String, tx = toString n → vx_Note p l e R s m args below meth c H locs cells slots Q (F0 m pc ls rest) "java/lang/NegativeArraySizeException" tx) : W p l e R s m args below meth c H locs cells slots Q (F0 m pc ls (.int n :: rest)) := by
  intro T hT X
  obtain ⟨t, st, q⟩ := k _ rfl T hT X
  exact ⟨t, X.newarrayNegative hexec (g := F0 m pc ls (.int n :: rest)) rfl h0 (rest := rest) rfl (by rw [hb]; exact hdg) t st, q⟩
end
end VXM
/-! ===== END ===== -/

/-! ===== BEGIN printed: names, fields, word lists, decode rows ===== -/
end
section
def RX0 : String := "IceBells$1"
def TX0 : u_T := fun k => match k with
  | _ => ("", "", "", false)
def tyX0 : Nat → FieldType := fun k => match k with
  | _ => .int
abbrev wsX00 : List Cond := u_ws RX0 TX0 0
theorem nmX0 : ∀ a, a < 0 → ∀ b, b < 0 → a ≠ b → (TX0 a).2.1 ≠ (TX0 b).2.1 := by decide +kernel
theorem tyX0_ok : ∀ k, k < 0 → parseFieldDescriptor (TX0 k).2.2.1 = some (tyX0 k) := by decide +kernel
def RX1 : String := "IceBells$Command"
def TX1 : u_T := fun k => match k with
  | 0 => ("IceBells$Command", "kind", "LIceBells$Kind;", false)
  | 1 => ("IceBells$Command", "numbers", "[I", true)
  | _ => ("IceBells$Command", "numberCount", "I", false)
def tyX1 : Nat → FieldType := fun k => match k with
  | 0 => .object "IceBells$Kind"
  | 1 => .array .int
  | _ => .int
abbrev wsX10 : List Cond := u_ws RX1 TX1 3
theorem nmX1 : ∀ a, a < 3 → ∀ b, b < 3 → a ≠ b → (TX1 a).2.1 ≠ (TX1 b).2.1 := by decide +kernel
theorem tyX1_ok : ∀ k, k < 3 → parseFieldDescriptor (TX1 k).2.2.1 = some (tyX1 k) := by decide +kernel
abbrev cX1_init : ByteArray := prog_3_method_1_code
def yX1_init : MethodName := ⟨RX1, "<init>", "()V"⟩
abbrev cX1_begin : ByteArray := prog_3_method_2_code
def yX1_begin : MethodName := ⟨RX1, "begin", "(LIceBells$Kind;)V"⟩
abbrev cX1_addNumber : ByteArray := prog_3_method_3_code
def yX1_addNumber : MethodName := ⟨RX1, "addNumber", "(I)V"⟩
def RX2 : String := "IceBells$CommandText"
def TX2 : u_T := fun k => match k with
  | 0 => ("IceBells$CommandText", "text", "[C", true)
  | 1 => ("IceBells$CommandText", "length", "I", false)
  | 2 => ("IceBells$CommandText", "position", "I", false)
  | 3 => ("IceBells$CommandText", "commands", "[LIceBells$Command;", true)
  | _ => ("IceBells$CommandText", "commandCount", "I", false)
def tyX2 : Nat → FieldType := fun k => match k with
  | 0 => .array .char
  | 1 => .int
  | 2 => .int
  | 3 => .array (.object "IceBells$Command")
  | _ => .int
abbrev wsX20 : List Cond := u_ws RX2 TX2 5
theorem nmX2 : ∀ a, a < 5 → ∀ b, b < 5 → a ≠ b → (TX2 a).2.1 ≠ (TX2 b).2.1 := by decide +kernel
theorem tyX2_ok : ∀ k, k < 5 → parseFieldDescriptor (TX2 k).2.2.1 = some (tyX2 k) := by decide +kernel
abbrev cX2_init : ByteArray := prog_4_method_1_code
def yX2_init : MethodName := ⟨RX2, "<init>", "()V"⟩
abbrev cX2_isFull : ByteArray := prog_4_method_2_code
def yX2_isFull : MethodName := ⟨RX2, "isFull", "()Z"⟩
abbrev cX2_add : ByteArray := prog_4_method_3_code
def yX2_add : MethodName := ⟨RX2, "add", "(C)I"⟩
abbrev cX2_clear : ByteArray := prog_4_method_4_code
def yX2_clear : MethodName := ⟨RX2, "clear", "()V"⟩
abbrev cX2_parse : ByteArray := prog_4_method_5_code
def yX2_parse : MethodName := ⟨RX2, "parse", "()Z"⟩
abbrev cX2_readCommand : ByteArray := prog_4_method_6_code
def yX2_readCommand : MethodName := ⟨RX2, "readCommand", "(LIceBells$Command;)Z"⟩
abbrev cX2_readForm : ByteArray := prog_4_method_7_code
def yX2_readForm : MethodName := ⟨RX2, "readForm", "(Ljava/lang/String;LIceBells$Command;)Z"⟩
abbrev cX2_readPart : ByteArray := prog_4_method_8_code
def yX2_readPart : MethodName := ⟨RX2, "readPart", "(CLIceBells$Command;)Z"⟩
abbrev cX2_readNumber : ByteArray := prog_4_method_9_code
def yX2_readNumber : MethodName := ⟨RX2, "readNumber", "(IILIceBells$Command;)Z"⟩
abbrev cX2_digitStands : ByteArray := prog_4_method_10_code
def yX2_digitStands : MethodName := ⟨RX2, "digitStands", "()Z"⟩
abbrev cX2_readSign : ByteArray := prog_4_method_11_code
def yX2_readSign : MethodName := ⟨RX2, "readSign", "(C)Z"⟩
abbrev cX2_stands : ByteArray := prog_4_method_12_code
def yX2_stands : MethodName := ⟨RX2, "stands", "(C)Z"⟩
def RX3 : String := "IceBells$History"
def TX3 : u_T := fun k => match k with
  | 0 => ("IceBells$History", "past", "[LIceBells$Landscape;", true)
  | 1 => ("IceBells$History", "count", "I", false)
  | _ => ("IceBells$History", "next", "I", false)
def tyX3 : Nat → FieldType := fun k => match k with
  | 0 => .array (.object "IceBells$Landscape")
  | 1 => .int
  | _ => .int
abbrev wsX30 : List Cond := u_ws RX3 TX3 3
theorem nmX3 : ∀ a, a < 3 → ∀ b, b < 3 → a ≠ b → (TX3 a).2.1 ≠ (TX3 b).2.1 := by decide +kernel
theorem tyX3_ok : ∀ k, k < 3 → parseFieldDescriptor (TX3 k).2.2.1 = some (tyX3 k) := by decide +kernel
abbrev cX3_init : ByteArray := prog_5_method_1_code
def yX3_init : MethodName := ⟨RX3, "<init>", "()V"⟩
abbrev cX3_remember : ByteArray := prog_5_method_2_code
def yX3_remember : MethodName := ⟨RX3, "remember", "(LIceBells$Landscape;)V"⟩
abbrev cX3_takeBack : ByteArray := prog_5_method_3_code
def yX3_takeBack : MethodName := ⟨RX3, "takeBack", "(LIceBells$Landscape;)I"⟩
abbrev cX3_forget : ByteArray := prog_5_method_4_code
def yX3_forget : MethodName := ⟨RX3, "forget", "()V"⟩
def RX4 : String := "IceBells$Kind"
def TX4 : u_T := fun k => match k with
  | _ => ("", "", "", false)
def tyX4 : Nat → FieldType := fun k => match k with
  | _ => .int
abbrev wsX40 : List Cond := u_ws RX4 TX4 0
theorem nmX4 : ∀ a, a < 0 → ∀ b, b < 0 → a ≠ b → (TX4 a).2.1 ≠ (TX4 b).2.1 := by decide +kernel
theorem tyX4_ok : ∀ k, k < 0 → parseFieldDescriptor (TX4 k).2.2.1 = some (tyX4 k) := by decide +kernel
def RX5 : String := "IceBells$Lake"
def TX5 : u_T := fun k => match k with
  | 0 => ("IceBells$Lake", "thickness", "[I", true)
  | 1 => ("IceBells$Lake", "temperature", "[I", true)
  | 2 => ("IceBells$Lake", "strain", "[I", true)
  | 3 => ("IceBells$Lake", "layerCount", "I", false)
  | 4 => ("IceBells$Lake", "depth", "I", false)
  | _ => ("IceBells$Lake", "cracks", "I", false)
def tyX5 : Nat → FieldType := fun k => match k with
  | 0 => .array .int
  | 1 => .array .int
  | 2 => .array .int
  | 3 => .int
  | 4 => .int
  | _ => .int
abbrev wsX50 : List Cond := u_ws RX5 TX5 6
theorem nmX5 : ∀ a, a < 6 → ∀ b, b < 6 → a ≠ b → (TX5 a).2.1 ≠ (TX5 b).2.1 := by decide +kernel
theorem tyX5_ok : ∀ k, k < 6 → parseFieldDescriptor (TX5 k).2.2.1 = some (tyX5 k) := by decide +kernel
abbrev cX5_init : ByteArray := prog_7_method_1_code
def yX5_init : MethodName := ⟨RX5, "<init>", "()V"⟩
abbrev cX5_begin : ByteArray := prog_7_method_2_code
def yX5_begin : MethodName := ⟨RX5, "begin", "(I)V"⟩
abbrev cX5_copyFrom : ByteArray := prog_7_method_3_code
def yX5_copyFrom : MethodName := ⟨RX5, "copyFrom", "(LIceBells$Lake;)V"⟩
abbrev cX5_hasLayer : ByteArray := prog_7_method_4_code
def yX5_hasLayer : MethodName := ⟨RX5, "hasLayer", "(I)Z"⟩
abbrev cX5_addLayer : ByteArray := prog_7_method_5_code
def yX5_addLayer : MethodName := ⟨RX5, "addLayer", "(II)I"⟩
abbrev cX5_iceByLayers : ByteArray := prog_7_method_6_code
def yX5_iceByLayers : MethodName := ⟨RX5, "iceByLayers", "()I"⟩
abbrev cX5_iceByHalves : ByteArray := prog_7_method_7_code
def yX5_iceByHalves : MethodName := ⟨RX5, "iceByHalves", "()I"⟩
abbrev cX5_sumOfHalves : ByteArray := prog_7_method_8_code
def yX5_sumOfHalves : MethodName := ⟨RX5, "sumOfHalves", "([IIII)I"⟩
abbrev cX5_layerContaining : ByteArray := prog_7_method_9_code
def yX5_layerContaining : MethodName := ⟨RX5, "layerContaining", "(I)I"⟩
abbrev cX5_temperatureSum : ByteArray := prog_7_method_10_code
def yX5_temperatureSum : MethodName := ⟨RX5, "temperatureSum", "()I"⟩
abbrev cX5_moveTemperatures : ByteArray := prog_7_method_11_code
def yX5_moveTemperatures : MethodName := ⟨RX5, "moveTemperatures", "(I)V"⟩
abbrev cX5_temperatureBeneath : ByteArray := prog_7_method_12_code
def yX5_temperatureBeneath : MethodName := ⟨RX5, "temperatureBeneath", "(I)I"⟩
abbrev cX5_addStrains : ByteArray := prog_7_method_13_code
def yX5_addStrains : MethodName := ⟨RX5, "addStrains", "()V"⟩
abbrev cX5_crackLayers : ByteArray := prog_7_method_14_code
def yX5_crackLayers : MethodName := ⟨RX5, "crackLayers", "(IILIceBells$Peals;)I"⟩
abbrev cX5_pushNeighbour : ByteArray := prog_7_method_15_code
def yX5_pushNeighbour : MethodName := ⟨RX5, "pushNeighbour", "(I)V"⟩
abbrev cX5_pitchOf : ByteArray := prog_7_method_16_code
def yX5_pitchOf : MethodName := ⟨RX5, "pitchOf", "(I)I"⟩
abbrev cX5_thawTop : ByteArray := prog_7_method_17_code
def yX5_thawTop : MethodName := ⟨RX5, "thawTop", "(I)I"⟩
abbrev cX5_dropTop : ByteArray := prog_7_method_18_code
def yX5_dropTop : MethodName := ⟨RX5, "dropTop", "()V"⟩
abbrev cX5_writeTo : ByteArray := prog_7_method_19_code
def yX5_writeTo : MethodName := ⟨RX5, "writeTo", "(Ljava/lang/StringBuilder;)V"⟩
def RX6 : String := "IceBells$Landscape"
def TX6 : u_T := fun k => match k with
  | 0 => ("IceBells$Landscape", "lakes", "[LIceBells$Lake;", true)
  | 1 => ("IceBells$Landscape", "lakeCount", "I", false)
  | 2 => ("IceBells$Landscape", "air", "I", false)
  | 3 => ("IceBells$Landscape", "hour", "I", false)
  | 4 => ("IceBells$Landscape", "frozen", "I", false)
  | 5 => ("IceBells$Landscape", "thawed", "I", false)
  | 6 => ("IceBells$Landscape", "windows", "LIceBells$Windows;", true)
  | _ => ("IceBells$Landscape", "peals", "LIceBells$Peals;", true)
def tyX6 : Nat → FieldType := fun k => match k with
  | 0 => .array (.object "IceBells$Lake")
  | 1 => .int
  | 2 => .int
  | 3 => .int
  | 4 => .int
  | 5 => .int
  | 6 => .object "IceBells$Windows"
  | _ => .object "IceBells$Peals"
abbrev wsX60 : List Cond := u_ws RX6 TX6 8
theorem nmX6 : ∀ a, a < 8 → ∀ b, b < 8 → a ≠ b → (TX6 a).2.1 ≠ (TX6 b).2.1 := by decide +kernel
theorem tyX6_ok : ∀ k, k < 8 → parseFieldDescriptor (TX6 k).2.2.1 = some (tyX6 k) := by decide +kernel
abbrev cX6_init : ByteArray := prog_8_method_1_code
def yX6_init : MethodName := ⟨RX6, "<init>", "()V"⟩
abbrev cX6_copyFrom : ByteArray := prog_8_method_2_code
def yX6_copyFrom : MethodName := ⟨RX6, "copyFrom", "(LIceBells$Landscape;)V"⟩
abbrev cX6_hasLake : ByteArray := prog_8_method_3_code
def yX6_hasLake : MethodName := ⟨RX6, "hasLake", "(I)Z"⟩
abbrev cX6_placeFault : ByteArray := prog_8_method_4_code
def yX6_placeFault : MethodName := ⟨RX6, "placeFault", "(I)C"⟩
abbrev cX6_placeLake : ByteArray := prog_8_method_5_code
def yX6_placeLake : MethodName := ⟨RX6, "placeLake", "(I)I"⟩
abbrev cX6_growFault : ByteArray := prog_8_method_6_code
def yX6_growFault : MethodName := ⟨RX6, "growFault", "(III)C"⟩
abbrev cX6_growLayer : ByteArray := prog_8_method_7_code
def yX6_growLayer : MethodName := ⟨RX6, "growLayer", "(III)I"⟩
abbrev cX6_airFault : ByteArray := prog_8_method_8_code
def yX6_airFault : MethodName := ⟨RX6, "airFault", "(I)C"⟩
abbrev cX6_changeAir : ByteArray := prog_8_method_9_code
def yX6_changeAir : MethodName := ⟨RX6, "changeAir", "(I)I"⟩
abbrev cX6_passFault : ByteArray := prog_8_method_10_code
def yX6_passFault : MethodName := ⟨RX6, "passFault", "(I)C"⟩
abbrev cX6_letHoursPass : ByteArray := prog_8_method_11_code
def yX6_letHoursPass : MethodName := ⟨RX6, "letHoursPass", "(I)I"⟩
abbrev cX6_letHourPass : ByteArray := prog_8_method_12_code
def yX6_letHourPass : MethodName := ⟨RX6, "letHourPass", "()I"⟩
abbrev cX6_windowFault : ByteArray := prog_8_method_13_code
def yX6_windowFault : MethodName := ⟨RX6, "windowFault", "(II)C"⟩
abbrev cX6_openFault : ByteArray := prog_8_method_14_code
def yX6_openFault : MethodName := ⟨RX6, "openFault", "(I)C"⟩
abbrev cX6_ringFault : ByteArray := prog_8_method_15_code
def yX6_ringFault : MethodName := ⟨RX6, "ringFault", "(II)C"⟩
abbrev cX6_ring : ByteArray := prog_8_method_16_code
def yX6_ring : MethodName := ⟨RX6, "ring", "(II)I"⟩
abbrev cX6_commandFault : ByteArray := prog_8_method_17_code
def yX6_commandFault : MethodName := ⟨RX6, "commandFault", "(LIceBells$Command;)C"⟩
abbrev cX6_carryOut : ByteArray := prog_8_method_18_code
def yX6_carryOut : MethodName := ⟨RX6, "carryOut", "(LIceBells$Command;)V"⟩
abbrev cX6_lakeRanked : ByteArray := prog_8_method_19_code
def yX6_lakeRanked : MethodName := ⟨RX6, "lakeRanked", "(I)I"⟩
abbrev cX6_rankOf : ByteArray := prog_8_method_20_code
def yX6_rankOf : MethodName := ⟨RX6, "rankOf", "(I)I"⟩
abbrev cX6_ranksBefore : ByteArray := prog_8_method_21_code
def yX6_ranksBefore : MethodName := ⟨RX6, "ranksBefore", "(II)Z"⟩
abbrev cX6_allCracks : ByteArray := prog_8_method_22_code
def yX6_allCracks : MethodName := ⟨RX6, "allCracks", "()I"⟩
abbrev cX6_allIce : ByteArray := prog_8_method_23_code
def yX6_allIce : MethodName := ⟨RX6, "allIce", "()I"⟩
abbrev cX6_bothSumsAgree : ByteArray := prog_8_method_24_code
def yX6_bothSumsAgree : MethodName := ⟨RX6, "bothSumsAgree", "()Z"⟩
def RX7 : String := "IceBells$Peals"
def TX7 : u_T := fun k => match k with
  | 0 => ("IceBells$Peals", "kind", "[C", true)
  | 1 => ("IceBells$Peals", "lake", "[I", true)
  | 2 => ("IceBells$Peals", "pitch", "[I", true)
  | 3 => ("IceBells$Peals", "hour", "[I", true)
  | 4 => ("IceBells$Peals", "count", "I", false)
  | _ => ("IceBells$Peals", "next", "I", false)
def tyX7 : Nat → FieldType := fun k => match k with
  | 0 => .array .char
  | 1 => .array .int
  | 2 => .array .int
  | 3 => .array .int
  | 4 => .int
  | _ => .int
abbrev wsX70 : List Cond := u_ws RX7 TX7 6
theorem nmX7 : ∀ a, a < 6 → ∀ b, b < 6 → a ≠ b → (TX7 a).2.1 ≠ (TX7 b).2.1 := by decide +kernel
theorem tyX7_ok : ∀ k, k < 6 → parseFieldDescriptor (TX7 k).2.2.1 = some (tyX7 k) := by decide +kernel
abbrev cX7_init : ByteArray := prog_9_method_1_code
def yX7_init : MethodName := ⟨RX7, "<init>", "()V"⟩
abbrev cX7_copyFrom : ByteArray := prog_9_method_2_code
def yX7_copyFrom : MethodName := ⟨RX7, "copyFrom", "(LIceBells$Peals;)V"⟩
abbrev cX7_record : ByteArray := prog_9_method_3_code
def yX7_record : MethodName := ⟨RX7, "record", "(CIII)V"⟩
abbrev cX7_slotOf : ByteArray := prog_9_method_4_code
def yX7_slotOf : MethodName := ⟨RX7, "slotOf", "(I)I"⟩
abbrev cX7_pairsByComparing : ByteArray := prog_9_method_5_code
def yX7_pairsByComparing : MethodName := ⟨RX7, "pairsByComparing", "()I"⟩
abbrev cX7_pairsByCounting : ByteArray := prog_9_method_6_code
def yX7_pairsByCounting : MethodName := ⟨RX7, "pairsByCounting", "([I)I"⟩
abbrev cX7_differentPitches : ByteArray := prog_9_method_7_code
def yX7_differentPitches : MethodName := ⟨RX7, "differentPitches", "([I)I"⟩
abbrev cX7_countPitches : ByteArray := prog_9_method_8_code
def yX7_countPitches : MethodName := ⟨RX7, "countPitches", "([I)V"⟩
def RX8 : String := "IceBells$Windows"
def TX8 : u_T := fun k => match k with
  | 0 => ("IceBells$Windows", "first", "[I", true)
  | 1 => ("IceBells$Windows", "last", "[I", true)
  | _ => ("IceBells$Windows", "count", "I", false)
def tyX8 : Nat → FieldType := fun k => match k with
  | 0 => .array .int
  | 1 => .array .int
  | _ => .int
abbrev wsX80 : List Cond := u_ws RX8 TX8 3
theorem nmX8 : ∀ a, a < 3 → ∀ b, b < 3 → a ≠ b → (TX8 a).2.1 ≠ (TX8 b).2.1 := by decide +kernel
theorem tyX8_ok : ∀ k, k < 3 → parseFieldDescriptor (TX8 k).2.2.1 = some (tyX8 k) := by decide +kernel
abbrev cX8_init : ByteArray := prog_10_method_1_code
def yX8_init : MethodName := ⟨RX8, "<init>", "()V"⟩
abbrev cX8_copyFrom : ByteArray := prog_10_method_2_code
def yX8_copyFrom : MethodName := ⟨RX8, "copyFrom", "(LIceBells$Windows;)V"⟩
abbrev cX8_hasPosition : ByteArray := prog_10_method_3_code
def yX8_hasPosition : MethodName := ⟨RX8, "hasPosition", "(I)Z"⟩
abbrev cX8_contain : ByteArray := prog_10_method_4_code
def yX8_contain : MethodName := ⟨RX8, "contain", "(I)Z"⟩
abbrev cX8_meet : ByteArray := prog_10_method_5_code
def yX8_meet : MethodName := ⟨RX8, "meet", "(II)Z"⟩
abbrev cX8_insert : ByteArray := prog_10_method_6_code
def yX8_insert : MethodName := ⟨RX8, "insert", "(II)I"⟩
abbrev cX8_removeAt : ByteArray := prog_10_method_7_code
def yX8_removeAt : MethodName := ⟨RX8, "removeAt", "(I)I"⟩
def RX9 : String := "IceBells"
def TX9 : u_T := fun k => match k with
  | 0 => ("IceBells", "now", "LIceBells$Landscape;", true)
  | 1 => ("IceBells", "trial", "LIceBells$Landscape;", true)
  | 2 => ("IceBells", "snapshot", "LIceBells$Landscape;", true)
  | 3 => ("IceBells", "hasSnapshot", "Z", false)
  | 4 => ("IceBells", "history", "LIceBells$History;", true)
  | 5 => ("IceBells", "commandText", "LIceBells$CommandText;", true)
  | 6 => ("IceBells", "errorPosition", "I", false)
  | 7 => ("IceBells", "failedCommand", "I", false)
  | 8 => ("IceBells", "failureKind", "C", false)
  | 9 => ("IceBells", "line", "Ljava/lang/StringBuilder;", true)
  | _ => ("IceBells", "pitchTally", "[I", true)
def tyX9 : Nat → FieldType := fun k => match k with
  | 0 => .object "IceBells$Landscape"
  | 1 => .object "IceBells$Landscape"
  | 2 => .object "IceBells$Landscape"
  | 3 => .boolean
  | 4 => .object "IceBells$History"
  | 5 => .object "IceBells$CommandText"
  | 6 => .int
  | 7 => .int
  | 8 => .char
  | 9 => .object "java/lang/StringBuilder"
  | _ => .array .int
abbrev wsX90 : List Cond := u_ws RX9 TX9 11
theorem nmX9 : ∀ a, a < 11 → ∀ b, b < 11 → a ≠ b → (TX9 a).2.1 ≠ (TX9 b).2.1 := by decide +kernel
theorem tyX9_ok : ∀ k, k < 11 → parseFieldDescriptor (TX9 k).2.2.1 = some (tyX9 k) := by decide +kernel
abbrev cX9_init : ByteArray := prog_1_method_1_code
def yX9_init : MethodName := ⟨RX9, "<init>", "()V"⟩
abbrev cX9_addLake : ByteArray := prog_1_method_2_code
def yX9_addLake : MethodName := ⟨RX9, "addLake", "(I)I"⟩
abbrev cX9_freeze : ByteArray := prog_1_method_3_code
def yX9_freeze : MethodName := ⟨RX9, "freeze", "(III)I"⟩
abbrev cX9_lakeCount : ByteArray := prog_1_method_4_code
def yX9_lakeCount : MethodName := ⟨RX9, "lakeCount", "()I"⟩
abbrev cX9_depth : ByteArray := prog_1_method_5_code
def yX9_depth : MethodName := ⟨RX9, "depth", "(I)I"⟩
abbrev cX9_layerCount : ByteArray := prog_1_method_6_code
def yX9_layerCount : MethodName := ⟨RX9, "layerCount", "(I)I"⟩
abbrev cX9_thickness : ByteArray := prog_1_method_7_code
def yX9_thickness : MethodName := ⟨RX9, "thickness", "(II)I"⟩
abbrev cX9_temperature : ByteArray := prog_1_method_8_code
def yX9_temperature : MethodName := ⟨RX9, "temperature", "(II)I"⟩
abbrev cX9_strain : ByteArray := prog_1_method_9_code
def yX9_strain : MethodName := ⟨RX9, "strain", "(II)I"⟩
abbrev cX9_iceThickness : ByteArray := prog_1_method_10_code
def yX9_iceThickness : MethodName := ⟨RX9, "iceThickness", "(I)I"⟩
abbrev cX9_iceThicknessByHalves : ByteArray := prog_1_method_11_code
def yX9_iceThicknessByHalves : MethodName := ⟨RX9, "iceThicknessByHalves", "(I)I"⟩
abbrev cX9_layerAt : ByteArray := prog_1_method_12_code
def yX9_layerAt : MethodName := ⟨RX9, "layerAt", "(II)I"⟩
abbrev cX9_setAir : ByteArray := prog_1_method_13_code
def yX9_setAir : MethodName := ⟨RX9, "setAir", "(I)I"⟩
abbrev cX9_air : ByteArray := prog_1_method_14_code
def yX9_air : MethodName := ⟨RX9, "air", "()I"⟩
abbrev cX9_pass : ByteArray := prog_1_method_15_code
def yX9_pass : MethodName := ⟨RX9, "pass", "(I)I"⟩
abbrev cX9_hour : ByteArray := prog_1_method_16_code
def yX9_hour : MethodName := ⟨RX9, "hour", "()I"⟩
abbrev cX9_hoursUntilCrack : ByteArray := prog_1_method_17_code
def yX9_hoursUntilCrack : MethodName := ⟨RX9, "hoursUntilCrack", "()I"⟩
abbrev cX9_hoursUntilThawed : ByteArray := prog_1_method_18_code
def yX9_hoursUntilThawed : MethodName := ⟨RX9, "hoursUntilThawed", "(I)I"⟩
abbrev cX9_addWindow : ByteArray := prog_1_method_19_code
def yX9_addWindow : MethodName := ⟨RX9, "addWindow", "(II)I"⟩
abbrev cX9_removeWindow : ByteArray := prog_1_method_20_code
def yX9_removeWindow : MethodName := ⟨RX9, "removeWindow", "(I)I"⟩
abbrev cX9_windowCount : ByteArray := prog_1_method_21_code
def yX9_windowCount : MethodName := ⟨RX9, "windowCount", "()I"⟩
abbrev cX9_windowFirst : ByteArray := prog_1_method_22_code
def yX9_windowFirst : MethodName := ⟨RX9, "windowFirst", "(I)I"⟩
abbrev cX9_windowLast : ByteArray := prog_1_method_23_code
def yX9_windowLast : MethodName := ⟨RX9, "windowLast", "(I)I"⟩
abbrev cX9_isInWindow : ByteArray := prog_1_method_24_code
def yX9_isInWindow : MethodName := ⟨RX9, "isInWindow", "(I)Z"⟩
abbrev cX9_strike : ByteArray := prog_1_method_25_code
def yX9_strike : MethodName := ⟨RX9, "strike", "(II)I"⟩
abbrev cX9_pitch : ByteArray := prog_1_method_26_code
def yX9_pitch : MethodName := ⟨RX9, "pitch", "(II)I"⟩
abbrev cX9_pealCount : ByteArray := prog_1_method_27_code
def yX9_pealCount : MethodName := ⟨RX9, "pealCount", "()I"⟩
abbrev cX9_pealKind : ByteArray := prog_1_method_28_code
def yX9_pealKind : MethodName := ⟨RX9, "pealKind", "(I)C"⟩
abbrev cX9_pealLake : ByteArray := prog_1_method_29_code
def yX9_pealLake : MethodName := ⟨RX9, "pealLake", "(I)I"⟩
abbrev cX9_pealPitch : ByteArray := prog_1_method_30_code
def yX9_pealPitch : MethodName := ⟨RX9, "pealPitch", "(I)I"⟩
abbrev cX9_pealHour : ByteArray := prog_1_method_31_code
def yX9_pealHour : MethodName := ⟨RX9, "pealHour", "(I)I"⟩
abbrev cX9_echoPairs : ByteArray := prog_1_method_32_code
def yX9_echoPairs : MethodName := ⟨RX9, "echoPairs", "()I"⟩
abbrev cX9_echoPairsByPitch : ByteArray := prog_1_method_33_code
def yX9_echoPairsByPitch : MethodName := ⟨RX9, "echoPairsByPitch", "()I"⟩
abbrev cX9_pitchCount : ByteArray := prog_1_method_34_code
def yX9_pitchCount : MethodName := ⟨RX9, "pitchCount", "()I"⟩
abbrev cX9_cracksOf : ByteArray := prog_1_method_35_code
def yX9_cracksOf : MethodName := ⟨RX9, "cracksOf", "(I)I"⟩
abbrev cX9_lakeAtRank : ByteArray := prog_1_method_36_code
def yX9_lakeAtRank : MethodName := ⟨RX9, "lakeAtRank", "(I)I"⟩
abbrev cX9_frozenTotal : ByteArray := prog_1_method_37_code
def yX9_frozenTotal : MethodName := ⟨RX9, "frozenTotal", "()I"⟩
abbrev cX9_thawedTotal : ByteArray := prog_1_method_38_code
def yX9_thawedTotal : MethodName := ⟨RX9, "thawedTotal", "()I"⟩
abbrev cX9_crackTotal : ByteArray := prog_1_method_39_code
def yX9_crackTotal : MethodName := ⟨RX9, "crackTotal", "()I"⟩
abbrev cX9_append : ByteArray := prog_1_method_40_code
def yX9_append : MethodName := ⟨RX9, "append", "(C)I"⟩
abbrev cX9_run : ByteArray := prog_1_method_41_code
def yX9_run : MethodName := ⟨RX9, "run", "()I"⟩
abbrev cX9_errorPosition : ByteArray := prog_1_method_42_code
def yX9_errorPosition : MethodName := ⟨RX9, "errorPosition", "()I"⟩
abbrev cX9_failedCommand : ByteArray := prog_1_method_43_code
def yX9_failedCommand : MethodName := ⟨RX9, "failedCommand", "()I"⟩
abbrev cX9_failureKind : ByteArray := prog_1_method_44_code
def yX9_failureKind : MethodName := ⟨RX9, "failureKind", "()C"⟩
abbrev cX9_describeLake : ByteArray := prog_1_method_45_code
def yX9_describeLake : MethodName := ⟨RX9, "describeLake", "(I)I"⟩
abbrev cX9_lineAt : ByteArray := prog_1_method_46_code
def yX9_lineAt : MethodName := ⟨RX9, "lineAt", "(I)C"⟩
abbrev cX9_meanTemperature : ByteArray := prog_1_method_47_code
def yX9_meanTemperature : MethodName := ⟨RX9, "meanTemperature", "(I)D"⟩
abbrev cX9_iceShare : ByteArray := prog_1_method_48_code
def yX9_iceShare : MethodName := ⟨RX9, "iceShare", "(I)F"⟩
abbrev cX9_isConsistent : ByteArray := prog_1_method_49_code
def yX9_isConsistent : MethodName := ⟨RX9, "isConsistent", "()Z"⟩
abbrev cX9_undo : ByteArray := prog_1_method_50_code
def yX9_undo : MethodName := ⟨RX9, "undo", "()I"⟩
abbrev cX9_save : ByteArray := prog_1_method_51_code
def yX9_save : MethodName := ⟨RX9, "save", "()I"⟩
abbrev cX9_restore : ByteArray := prog_1_method_52_code
def yX9_restore : MethodName := ⟨RX9, "restore", "()I"⟩
abbrev cX9_lakeNumbered : ByteArray := prog_1_method_53_code
def yX9_lakeNumbered : MethodName := ⟨RX9, "lakeNumbered", "(I)LIceBells$Lake;"⟩
abbrev cX9_lakeWithLayer : ByteArray := prog_1_method_54_code
def yX9_lakeWithLayer : MethodName := ⟨RX9, "lakeWithLayer", "(II)LIceBells$Lake;"⟩
abbrev cX9_pealSlot : ByteArray := prog_1_method_55_code
def yX9_pealSlot : MethodName := ⟨RX9, "pealSlot", "(I)I"⟩
abbrev cX9_refuseOn : ByteArray := prog_1_method_56_code
def yX9_refuseOn : MethodName := ⟨RX9, "refuseOn", "(C)V"⟩
def RX10 : String := "IceBellsModel"
def TX10 : u_T := fun k => match k with
  | 0 => ("IceBellsModel", "now", "[I", true)
  | 1 => ("IceBellsModel", "before", "[I", true)
  | 2 => ("IceBellsModel", "trial", "[I", true)
  | 3 => ("IceBellsModel", "saved", "[I", true)
  | 4 => ("IceBellsModel", "history", "[I", true)
  | 5 => ("IceBellsModel", "isSaved", "Z", false)
  | 6 => ("IceBellsModel", "remembered", "I", false)
  | 7 => ("IceBellsModel", "errorAt", "I", false)
  | 8 => ("IceBellsModel", "failedAt", "I", false)
  | 9 => ("IceBellsModel", "failure", "I", false)
  | 10 => ("IceBellsModel", "targets", "[I", true)
  | 11 => ("IceBellsModel", "text", "[I", true)
  | 12 => ("IceBellsModel", "typed", "I", false)
  | 13 => ("IceBellsModel", "line", "[I", true)
  | 14 => ("IceBellsModel", "lined", "I", false)
  | 15 => ("IceBellsModel", "thrown", "I", false)
  | 16 => ("IceBellsModel", "size", "I", false)
  | 17 => ("IceBellsModel", "spot", "I", false)
  | 18 => ("IceBellsModel", "wrong", "I", false)
  | 19 => ("IceBellsModel", "told", "I", false)
  | _ => ("IceBellsModel", "numbers", "[I", true)
def tyX10 : Nat → FieldType := fun k => match k with
  | 0 => .array .int
  | 1 => .array .int
  | 2 => .array .int
  | 3 => .array .int
  | 4 => .array .int
  | 5 => .boolean
  | 6 => .int
  | 7 => .int
  | 8 => .int
  | 9 => .int
  | 10 => .array .int
  | 11 => .array .int
  | 12 => .int
  | 13 => .array .int
  | 14 => .int
  | 15 => .int
  | 16 => .int
  | 17 => .int
  | 18 => .int
  | 19 => .int
  | _ => .array .int
abbrev wsX100 : List Cond := u_ws RX10 TX10 21
theorem nmX10 : ∀ a, a < 21 → ∀ b, b < 21 → a ≠ b → (TX10 a).2.1 ≠ (TX10 b).2.1 := by decide +kernel
theorem tyX10_ok : ∀ k, k < 21 → parseFieldDescriptor (TX10 k).2.2.1 = some (tyX10 k) := by decide +kernel
abbrev cX10_init : ByteArray := prog_12_method_1_code
def yX10_init : MethodName := ⟨RX10, "<init>", "()V"⟩
abbrev cX10_thrown : ByteArray := prog_12_method_2_code
def yX10_thrown : MethodName := ⟨RX10, "thrown", "()I"⟩
abbrev cX10_isIn : ByteArray := prog_12_method_3_code
def yX10_isIn : MethodName := ⟨RX10, "isIn", "(III)Z"⟩
abbrev cX10_copies : ByteArray := prog_12_method_4_code
def yX10_copies : MethodName := ⟨RX10, "copies", "([II[II)V"⟩
abbrev cX10_holds : ByteArray := prog_12_method_5_code
def yX10_holds : MethodName := ⟨RX10, "holds", "(ZZZZ)Z"⟩
abbrev cX10_goes : ByteArray := prog_12_method_6_code
def yX10_goes : MethodName := ⟨RX10, "goes", "(Z)Z"⟩
abbrev cX10_begins : ByteArray := prog_12_method_7_code
def yX10_begins : MethodName := ⟨RX10, "begins", "()V"⟩
abbrev cX10_remembers : ByteArray := prog_12_method_8_code
def yX10_remembers : MethodName := ⟨RX10, "remembers", "()V"⟩
abbrev cX10_ends : ByteArray := prog_12_method_9_code
def yX10_ends : MethodName := ⟨RX10, "ends", "(I)I"⟩
abbrev cX10_undo : ByteArray := prog_12_method_10_code
def yX10_undo : MethodName := ⟨RX10, "undo", "()I"⟩
abbrev cX10_save : ByteArray := prog_12_method_11_code
def yX10_save : MethodName := ⟨RX10, "save", "()I"⟩
abbrev cX10_restore : ByteArray := prog_12_method_12_code
def yX10_restore : MethodName := ⟨RX10, "restore", "()I"⟩
abbrev cX10_isLake : ByteArray := prog_12_method_13_code
def yX10_isLake : MethodName := ⟨RX10, "isLake", "(I)Z"⟩
abbrev cX10_of : ByteArray := prog_12_method_14_code
def yX10_of : MethodName := ⟨RX10, "of", "(II)I"⟩
abbrev cX10_isLayer : ByteArray := prog_12_method_15_code
def yX10_isLayer : MethodName := ⟨RX10, "isLayer", "(II)Z"⟩
abbrev cX10_layerPlace : ByteArray := prog_12_method_16_code
def yX10_layerPlace : MethodName := ⟨RX10, "layerPlace", "(II)I"⟩
abbrev cX10_ofLayer : ByteArray := prog_12_method_17_code
def yX10_ofLayer : MethodName := ⟨RX10, "ofLayer", "(III)I"⟩
abbrev cX10_iceOf : ByteArray := prog_12_method_18_code
def yX10_iceOf : MethodName := ⟨RX10, "iceOf", "(I)I"⟩
abbrev cX10_pitchOf : ByteArray := prog_12_method_19_code
def yX10_pitchOf : MethodName := ⟨RX10, "pitchOf", "(II)I"⟩
abbrev cX10_isOpened : ByteArray := prog_12_method_20_code
def yX10_isOpened : MethodName := ⟨RX10, "isOpened", "(I)Z"⟩
abbrev cX10_rings : ByteArray := prog_12_method_21_code
def yX10_rings : MethodName := ⟨RX10, "rings", "(III)V"⟩
abbrev cX10_adds : ByteArray := prog_12_method_22_code
def yX10_adds : MethodName := ⟨RX10, "adds", "(I)I"⟩
abbrev cX10_addLake : ByteArray := prog_12_method_23_code
def yX10_addLake : MethodName := ⟨RX10, "addLake", "(I)I"⟩
abbrev cX10_freezes : ByteArray := prog_12_method_24_code
def yX10_freezes : MethodName := ⟨RX10, "freezes", "(III)I"⟩
abbrev cX10_freeze : ByteArray := prog_12_method_25_code
def yX10_freeze : MethodName := ⟨RX10, "freeze", "(III)I"⟩
abbrev cX10_airs : ByteArray := prog_12_method_26_code
def yX10_airs : MethodName := ⟨RX10, "airs", "(I)I"⟩
abbrev cX10_setAir : ByteArray := prog_12_method_27_code
def yX10_setAir : MethodName := ⟨RX10, "setAir", "(I)I"⟩
abbrev cX10_opens : ByteArray := prog_12_method_28_code
def yX10_opens : MethodName := ⟨RX10, "opens", "(II)I"⟩
abbrev cX10_addWindow : ByteArray := prog_12_method_29_code
def yX10_addWindow : MethodName := ⟨RX10, "addWindow", "(II)I"⟩
abbrev cX10_shuts : ByteArray := prog_12_method_30_code
def yX10_shuts : MethodName := ⟨RX10, "shuts", "(I)I"⟩
abbrev cX10_removeWindow : ByteArray := prog_12_method_31_code
def yX10_removeWindow : MethodName := ⟨RX10, "removeWindow", "(I)I"⟩
abbrev cX10_strikes : ByteArray := prog_12_method_32_code
def yX10_strikes : MethodName := ⟨RX10, "strikes", "(II)I"⟩
abbrev cX10_strike : ByteArray := prog_12_method_33_code
def yX10_strike : MethodName := ⟨RX10, "strike", "(II)I"⟩
abbrev cX10_warms : ByteArray := prog_12_method_34_code
def yX10_warms : MethodName := ⟨RX10, "warms", "(I)V"⟩
abbrev cX10_strains : ByteArray := prog_12_method_35_code
def yX10_strains : MethodName := ⟨RX10, "strains", "(I)V"⟩
abbrev cX10_cracks : ByteArray := prog_12_method_36_code
def yX10_cracks : MethodName := ⟨RX10, "cracks", "(I)I"⟩
abbrev cX10_thaws : ByteArray := prog_12_method_37_code
def yX10_thaws : MethodName := ⟨RX10, "thaws", "(I)V"⟩
abbrev cX10_passes : ByteArray := prog_12_method_38_code
def yX10_passes : MethodName := ⟨RX10, "passes", "()I"⟩
abbrev cX10_waits : ByteArray := prog_12_method_39_code
def yX10_waits : MethodName := ⟨RX10, "waits", "(I)I"⟩
abbrev cX10_pass : ByteArray := prog_12_method_40_code
def yX10_pass : MethodName := ⟨RX10, "pass", "(I)I"⟩
abbrev cX10_asks : ByteArray := prog_12_method_41_code
def yX10_asks : MethodName := ⟨RX10, "asks", "(II)I"⟩
abbrev cX10_lakeCount : ByteArray := prog_12_method_42_code
def yX10_lakeCount : MethodName := ⟨RX10, "lakeCount", "()I"⟩
abbrev cX10_depth : ByteArray := prog_12_method_43_code
def yX10_depth : MethodName := ⟨RX10, "depth", "(I)I"⟩
abbrev cX10_layerCount : ByteArray := prog_12_method_44_code
def yX10_layerCount : MethodName := ⟨RX10, "layerCount", "(I)I"⟩
abbrev cX10_asksLayer : ByteArray := prog_12_method_45_code
def yX10_asksLayer : MethodName := ⟨RX10, "asksLayer", "(III)I"⟩
abbrev cX10_thickness : ByteArray := prog_12_method_46_code
def yX10_thickness : MethodName := ⟨RX10, "thickness", "(II)I"⟩
abbrev cX10_temperature : ByteArray := prog_12_method_47_code
def yX10_temperature : MethodName := ⟨RX10, "temperature", "(II)I"⟩
abbrev cX10_strain : ByteArray := prog_12_method_48_code
def yX10_strain : MethodName := ⟨RX10, "strain", "(II)I"⟩
abbrev cX10_iceThickness : ByteArray := prog_12_method_49_code
def yX10_iceThickness : MethodName := ⟨RX10, "iceThickness", "(I)I"⟩
abbrev cX10_iceThicknessByHalves : ByteArray := prog_12_method_50_code
def yX10_iceThicknessByHalves : MethodName := ⟨RX10, "iceThicknessByHalves", "(I)I"⟩
abbrev cX10_layerAt : ByteArray := prog_12_method_51_code
def yX10_layerAt : MethodName := ⟨RX10, "layerAt", "(II)I"⟩
abbrev cX10_air : ByteArray := prog_12_method_52_code
def yX10_air : MethodName := ⟨RX10, "air", "()I"⟩
abbrev cX10_hour : ByteArray := prog_12_method_53_code
def yX10_hour : MethodName := ⟨RX10, "hour", "()I"⟩
abbrev cX10_hoursUntilCrack : ByteArray := prog_12_method_54_code
def yX10_hoursUntilCrack : MethodName := ⟨RX10, "hoursUntilCrack", "()I"⟩
abbrev cX10_hoursUntilThawed : ByteArray := prog_12_method_55_code
def yX10_hoursUntilThawed : MethodName := ⟨RX10, "hoursUntilThawed", "(I)I"⟩
abbrev cX10_windowCount : ByteArray := prog_12_method_56_code
def yX10_windowCount : MethodName := ⟨RX10, "windowCount", "()I"⟩
abbrev cX10_ofWindow : ByteArray := prog_12_method_57_code
def yX10_ofWindow : MethodName := ⟨RX10, "ofWindow", "(II)I"⟩
abbrev cX10_windowFirst : ByteArray := prog_12_method_58_code
def yX10_windowFirst : MethodName := ⟨RX10, "windowFirst", "(I)I"⟩
abbrev cX10_windowLast : ByteArray := prog_12_method_59_code
def yX10_windowLast : MethodName := ⟨RX10, "windowLast", "(I)I"⟩
abbrev cX10_isInWindow : ByteArray := prog_12_method_60_code
def yX10_isInWindow : MethodName := ⟨RX10, "isInWindow", "(I)Z"⟩
abbrev cX10_pitch : ByteArray := prog_12_method_61_code
def yX10_pitch : MethodName := ⟨RX10, "pitch", "(II)I"⟩
abbrev cX10_pealCount : ByteArray := prog_12_method_62_code
def yX10_pealCount : MethodName := ⟨RX10, "pealCount", "()I"⟩
abbrev cX10_ofPeal : ByteArray := prog_12_method_63_code
def yX10_ofPeal : MethodName := ⟨RX10, "ofPeal", "(II)I"⟩
abbrev cX10_pealKind : ByteArray := prog_12_method_64_code
def yX10_pealKind : MethodName := ⟨RX10, "pealKind", "(I)C"⟩
abbrev cX10_pealLake : ByteArray := prog_12_method_65_code
def yX10_pealLake : MethodName := ⟨RX10, "pealLake", "(I)I"⟩
abbrev cX10_pealPitch : ByteArray := prog_12_method_66_code
def yX10_pealPitch : MethodName := ⟨RX10, "pealPitch", "(I)I"⟩
abbrev cX10_pealHour : ByteArray := prog_12_method_67_code
def yX10_pealHour : MethodName := ⟨RX10, "pealHour", "(I)I"⟩
abbrev cX10_alike : ByteArray := prog_12_method_68_code
def yX10_alike : MethodName := ⟨RX10, "alike", "(I)I"⟩
abbrev cX10_echoes : ByteArray := prog_12_method_69_code
def yX10_echoes : MethodName := ⟨RX10, "echoes", "()I"⟩
abbrev cX10_echoPairs : ByteArray := prog_12_method_70_code
def yX10_echoPairs : MethodName := ⟨RX10, "echoPairs", "()I"⟩
abbrev cX10_echoPairsByPitch : ByteArray := prog_12_method_71_code
def yX10_echoPairsByPitch : MethodName := ⟨RX10, "echoPairsByPitch", "()I"⟩
abbrev cX10_pitchCount : ByteArray := prog_12_method_72_code
def yX10_pitchCount : MethodName := ⟨RX10, "pitchCount", "()I"⟩
abbrev cX10_cracksOf : ByteArray := prog_12_method_73_code
def yX10_cracksOf : MethodName := ⟨RX10, "cracksOf", "(I)I"⟩
abbrev cX10_lakeAtRank : ByteArray := prog_12_method_74_code
def yX10_lakeAtRank : MethodName := ⟨RX10, "lakeAtRank", "(I)I"⟩
abbrev cX10_frozenTotal : ByteArray := prog_12_method_75_code
def yX10_frozenTotal : MethodName := ⟨RX10, "frozenTotal", "()I"⟩
abbrev cX10_thawedTotal : ByteArray := prog_12_method_76_code
def yX10_thawedTotal : MethodName := ⟨RX10, "thawedTotal", "()I"⟩
abbrev cX10_crackTotal : ByteArray := prog_12_method_77_code
def yX10_crackTotal : MethodName := ⟨RX10, "crackTotal", "()I"⟩
abbrev cX10_meanTemperature : ByteArray := prog_12_method_78_code
def yX10_meanTemperature : MethodName := ⟨RX10, "meanTemperature", "(I)D"⟩
abbrev cX10_iceShare : ByteArray := prog_12_method_79_code
def yX10_iceShare : MethodName := ⟨RX10, "iceShare", "(I)F"⟩
abbrev cX10_isConsistent : ByteArray := prog_12_method_80_code
def yX10_isConsistent : MethodName := ⟨RX10, "isConsistent", "()Z"⟩
abbrev cX10_put : ByteArray := prog_12_method_81_code
def yX10_put : MethodName := ⟨RX10, "put", "(II)I"⟩
abbrev cX10_writesNumber : ByteArray := prog_12_method_82_code
def yX10_writesNumber : MethodName := ⟨RX10, "writesNumber", "(II)I"⟩
abbrev cX10_describeLake : ByteArray := prog_12_method_83_code
def yX10_describeLake : MethodName := ⟨RX10, "describeLake", "(I)I"⟩
abbrev cX10_lineAt : ByteArray := prog_12_method_84_code
def yX10_lineAt : MethodName := ⟨RX10, "lineAt", "(I)C"⟩
abbrev cX10_append : ByteArray := prog_12_method_85_code
def yX10_append : MethodName := ⟨RX10, "append", "(C)I"⟩
abbrev cX10_letterHere : ByteArray := prog_12_method_86_code
def yX10_letterHere : MethodName := ⟨RX10, "letterHere", "()I"⟩
abbrev cX10_reads : ByteArray := prog_12_method_87_code
def yX10_reads : MethodName := ⟨RX10, "reads", "(II)I"⟩
abbrev cX10_digit : ByteArray := prog_12_method_88_code
def yX10_digit : MethodName := ⟨RX10, "digit", "()I"⟩
abbrev cX10_number : ByteArray := prog_12_method_89_code
def yX10_number : MethodName := ⟨RX10, "number", "()I"⟩
abbrev cX10_degrees : ByteArray := prog_12_method_90_code
def yX10_degrees : MethodName := ⟨RX10, "degrees", "()I"⟩
abbrev cX10_sign : ByteArray := prog_12_method_91_code
def yX10_sign : MethodName := ⟨RX10, "sign", "(I)V"⟩
abbrev cX10_startOf : ByteArray := prog_12_method_92_code
def yX10_startOf : MethodName := ⟨RX10, "startOf", "(I)I"⟩
abbrev cX10_kindHere : ByteArray := prog_12_method_93_code
def yX10_kindHere : MethodName := ⟨RX10, "kindHere", "()I"⟩
abbrev cX10_readsCommand : ByteArray := prog_12_method_94_code
def yX10_readsCommand : MethodName := ⟨RX10, "readsCommand", "()V"⟩
abbrev cX10_readsAll : ByteArray := prog_12_method_95_code
def yX10_readsAll : MethodName := ⟨RX10, "readsAll", "()V"⟩
abbrev cX10_does : ByteArray := prog_12_method_96_code
def yX10_does : MethodName := ⟨RX10, "does", "(I)I"⟩
abbrev cX10_letterFor : ByteArray := prog_12_method_97_code
def yX10_letterFor : MethodName := ⟨RX10, "letterFor", "(I)I"⟩
abbrev cX10_run : ByteArray := prog_12_method_98_code
def yX10_run : MethodName := ⟨RX10, "run", "()I"⟩
abbrev cX10_errorPosition : ByteArray := prog_12_method_99_code
def yX10_errorPosition : MethodName := ⟨RX10, "errorPosition", "()I"⟩
abbrev cX10_failedCommand : ByteArray := prog_12_method_100_code
def yX10_failedCommand : MethodName := ⟨RX10, "failedCommand", "()I"⟩
abbrev cX10_failureKind : ByteArray := prog_12_method_101_code
def yX10_failureKind : MethodName := ⟨RX10, "failureKind", "()C"⟩
def RJx145de : String := "java/io/Serializable"
def TJx145de : u_T := fun k => match k with
  | _ => ("", "", "", false)
def tyJx145de : Nat → FieldType := fun k => match k with
  | _ => .int
abbrev wsJx145de0 : List Cond := u_ws RJx145de TJx145de 0
theorem nmJx145de : ∀ a, a < 0 → ∀ b, b < 0 → a ≠ b → (TJx145de a).2.1 ≠ (TJx145de b).2.1 := by decide +kernel
theorem tyJx145de_ok : ∀ k, k < 0 → parseFieldDescriptor (TJx145de k).2.2.1 = some (tyJx145de k) := by decide +kernel
def RJ5 : String := "java/lang/AbstractStringBuilder"
def TJ5 : u_T := fun k => match k with
  | _ => ("", "", "", false)
def tyJ5 : Nat → FieldType := fun k => match k with
  | _ => .int
abbrev wsJ50 : List Cond := u_ws RJ5 TJ5 0
theorem nmJ5 : ∀ a, a < 0 → ∀ b, b < 0 → a ≠ b → (TJ5 a).2.1 ≠ (TJ5 b).2.1 := by decide +kernel
theorem tyJ5_ok : ∀ k, k < 0 → parseFieldDescriptor (TJ5 k).2.2.1 = some (tyJ5 k) := by decide +kernel
abbrev cJ5_init_d00df : ByteArray := prog_14_method_2_code
def yJ5_init_d00df : MethodName := ⟨RJ5, "<init>", "(I)V"⟩
abbrev cJ5_length_8abf5 : ByteArray := prog_14_method_6_code
def yJ5_length_8abf5 : MethodName := ⟨RJ5, "length", "()I"⟩
abbrev cJ5_ensureCapacityInternal_d00df : ByteArray := prog_14_method_9_code
def yJ5_ensureCapacityInternal_d00df : MethodName := ⟨RJ5, "ensureCapacityInternal", "(I)V"⟩
abbrev cJ5_newCapacity_0f7a4 : ByteArray := prog_14_method_10_code
def yJ5_newCapacity_0f7a4 : MethodName := ⟨RJ5, "newCapacity", "(I)I"⟩
abbrev cJ5_inflate_da8c8 : ByteArray := prog_14_method_11_code
def yJ5_inflate_da8c8 : MethodName := ⟨RJ5, "inflate", "()V"⟩
abbrev cJ5_setLength_d00df : ByteArray := prog_14_method_13_code
def yJ5_setLength_d00df : MethodName := ⟨RJ5, "setLength", "(I)V"⟩
abbrev cJ5_charAt_5068e : ByteArray := prog_14_method_14_code
def yJ5_charAt_5068e : MethodName := ⟨RJ5, "charAt", "(I)C"⟩
abbrev cJ5_append_cf1ce : ByteArray := prog_14_method_22_code
def yJ5_append_cf1ce : MethodName := ⟨RJ5, "append", "(Ljava/lang/String;)Ljava/lang/AbstractStringBuilder;"⟩
abbrev cJ5_appendNull_278bc : ByteArray := prog_14_method_26_code
def yJ5_appendNull_278bc : MethodName := ⟨RJ5, "appendNull", "()Ljava/lang/AbstractStringBuilder;"⟩
abbrev cJ5_append_3fe6f : ByteArray := prog_14_method_31_code
def yJ5_append_3fe6f : MethodName := ⟨RJ5, "append", "(C)Ljava/lang/AbstractStringBuilder;"⟩
abbrev cJ5_append_c97b9 : ByteArray := prog_14_method_32_code
def yJ5_append_c97b9 : MethodName := ⟨RJ5, "append", "(I)Ljava/lang/AbstractStringBuilder;"⟩
abbrev cJ5_getValue_6d5f1 : ByteArray := prog_14_method_64_code
def yJ5_getValue_6d5f1 : MethodName := ⟨RJ5, "getValue", "()[B"⟩
abbrev cJ5_isLatin1_aae02 : ByteArray := prog_14_method_68_code
def yJ5_isLatin1_aae02 : MethodName := ⟨RJ5, "isLatin1", "()Z"⟩
abbrev cJ5_inflateIfNeededFor_a7421 : ByteArray := prog_14_method_71_code
def yJ5_inflateIfNeededFor_a7421 : MethodName := ⟨RJ5, "inflateIfNeededFor", "(Ljava/lang/String;)V"⟩
abbrev cJ5_putStringAt_47b60 : ByteArray := prog_14_method_73_code
def yJ5_putStringAt_47b60 : MethodName := ⟨RJ5, "putStringAt", "(ILjava/lang/String;)V"⟩
def RJx2cfe8 : String := "java/lang/Appendable"
def TJx2cfe8 : u_T := fun k => match k with
  | _ => ("", "", "", false)
def tyJx2cfe8 : Nat → FieldType := fun k => match k with
  | _ => .int
abbrev wsJx2cfe80 : List Cond := u_ws RJx2cfe8 TJx2cfe8 0
theorem nmJx2cfe8 : ∀ a, a < 0 → ∀ b, b < 0 → a ≠ b → (TJx2cfe8 a).2.1 ≠ (TJx2cfe8 b).2.1 := by decide +kernel
theorem tyJx2cfe8_ok : ∀ k, k < 0 → parseFieldDescriptor (TJx2cfe8 k).2.2.1 = some (tyJx2cfe8 k) := by decide +kernel
def RJx00060 : String := "java/lang/ArrayIndexOutOfBoundsException"
def TJx00060 : u_T := fun k => match k with
  | 0 => ("java/lang/Throwable", "backtrace", "Ljava/lang/Object;", false)
  | 1 => ("java/lang/Throwable", "detailMessage", "Ljava/lang/String;", false)
  | 2 => ("java/lang/Throwable", "cause", "Ljava/lang/Throwable;", false)
  | 3 => ("java/lang/Throwable", "stackTrace", "[Ljava/lang/StackTraceElement;", false)
  | 4 => ("java/lang/Throwable", "depth", "I", false)
  | _ => ("java/lang/Throwable", "suppressedExceptions", "Ljava/util/List;", false)
def tyJx00060 : Nat → FieldType := fun k => match k with
  | 0 => .object "java/lang/Object"
  | 1 => .object "java/lang/String"
  | 2 => .object "java/lang/Throwable"
  | 3 => .array (.object "java/lang/StackTraceElement")
  | 4 => .int
  | _ => .object "java/util/List"
abbrev wsJx000600 : List Cond := u_ws RJx00060 TJx00060 6
theorem nmJx00060 : ∀ a, a < 6 → ∀ b, b < 6 → a ≠ b → (TJx00060 a).2.1 ≠ (TJx00060 b).2.1 := by decide +kernel
theorem tyJx00060_ok : ∀ k, k < 6 → parseFieldDescriptor (TJx00060 k).2.2.1 = some (tyJx00060 k) := by decide +kernel
abbrev cJx00060_init_a7421 : ByteArray := prog_17_method_2_code
def yJx00060_init_a7421 : MethodName := ⟨RJx00060, "<init>", "(Ljava/lang/String;)V"⟩
abbrev cJx00060_init_d00df : ByteArray := prog_17_method_3_code
def yJx00060_init_d00df : MethodName := ⟨RJx00060, "<init>", "(I)V"⟩
def RJx9f9b0 : String := "java/lang/CharSequence"
def TJx9f9b0 : u_T := fun k => match k with
  | _ => ("", "", "", false)
def tyJx9f9b0 : Nat → FieldType := fun k => match k with
  | _ => .int
abbrev wsJx9f9b00 : List Cond := u_ws RJx9f9b0 TJx9f9b0 0
theorem nmJx9f9b0 : ∀ a, a < 0 → ∀ b, b < 0 → a ≠ b → (TJx9f9b0 a).2.1 ≠ (TJx9f9b0 b).2.1 := by decide +kernel
theorem tyJx9f9b0_ok : ∀ k, k < 0 → parseFieldDescriptor (TJx9f9b0 k).2.2.1 = some (tyJx9f9b0 k) := by decide +kernel
def RJx8e188 : String := "java/lang/Cloneable"
def TJx8e188 : u_T := fun k => match k with
  | _ => ("", "", "", false)
def tyJx8e188 : Nat → FieldType := fun k => match k with
  | _ => .int
abbrev wsJx8e1880 : List Cond := u_ws RJx8e188 TJx8e188 0
theorem nmJx8e188 : ∀ a, a < 0 → ∀ b, b < 0 → a ≠ b → (TJx8e188 a).2.1 ≠ (TJx8e188 b).2.1 := by decide +kernel
theorem tyJx8e188_ok : ∀ k, k < 0 → parseFieldDescriptor (TJx8e188 k).2.2.1 = some (tyJx8e188 k) := by decide +kernel
def RJxb160c : String := "java/lang/Comparable"
def TJxb160c : u_T := fun k => match k with
  | _ => ("", "", "", false)
def tyJxb160c : Nat → FieldType := fun k => match k with
  | _ => .int
abbrev wsJxb160c0 : List Cond := u_ws RJxb160c TJxb160c 0
theorem nmJxb160c : ∀ a, a < 0 → ∀ b, b < 0 → a ≠ b → (TJxb160c a).2.1 ≠ (TJxb160c b).2.1 := by decide +kernel
theorem tyJxb160c_ok : ∀ k, k < 0 → parseFieldDescriptor (TJxb160c k).2.2.1 = some (tyJxb160c k) := by decide +kernel
def RJx29ce0 : String := "java/lang/Enum"
def TJx29ce0 : u_T := fun k => match k with
  | _ => ("", "", "", false)
def tyJx29ce0 : Nat → FieldType := fun k => match k with
  | _ => .int
abbrev wsJx29ce00 : List Cond := u_ws RJx29ce0 TJx29ce0 0
theorem nmJx29ce0 : ∀ a, a < 0 → ∀ b, b < 0 → a ≠ b → (TJx29ce0 a).2.1 ≠ (TJx29ce0 b).2.1 := by decide +kernel
theorem tyJx29ce0_ok : ∀ k, k < 0 → parseFieldDescriptor (TJx29ce0 k).2.2.1 = some (tyJx29ce0 k) := by decide +kernel
abbrev cJx29ce0_ordinal_8abf5 : ByteArray := prog_21_method_2_code
def yJx29ce0_ordinal_8abf5 : MethodName := ⟨RJx29ce0, "ordinal", "()I"⟩
def RJ6 : String := "java/lang/Integer"
def TJ6 : u_T := fun k => match k with
  | _ => ("", "", "", false)
def tyJ6 : Nat → FieldType := fun k => match k with
  | _ => .int
abbrev wsJ60 : List Cond := u_ws RJ6 TJ6 0
theorem nmJ6 : ∀ a, a < 0 → ∀ b, b < 0 → a ≠ b → (TJ6 a).2.1 ≠ (TJ6 b).2.1 := by decide +kernel
theorem tyJ6_ok : ∀ k, k < 0 → parseFieldDescriptor (TJ6 k).2.2.1 = some (tyJ6 k) := by decide +kernel
abbrev cJ6_getChars_ba4f3 : ByteArray := prog_26_method_12_code
def yJ6_getChars_ba4f3 : MethodName := ⟨RJ6, "getChars", "(II[B)I"⟩
abbrev cJ6_stringSize_0f7a4 : ByteArray := prog_26_method_13_code
def yJ6_stringSize_0f7a4 : MethodName := ⟨RJ6, "stringSize", "(I)I"⟩
def RJ9 : String := "java/lang/Math"
def TJ9 : u_T := fun k => match k with
  | _ => ("", "", "", false)
def tyJ9 : Nat → FieldType := fun k => match k with
  | _ => .int
abbrev wsJ90 : List Cond := u_ws RJ9 TJ9 0
theorem nmJ9 : ∀ a, a < 0 → ∀ b, b < 0 → a ≠ b → (TJ9 a).2.1 ≠ (TJ9 b).2.1 := by decide +kernel
theorem tyJ9_ok : ∀ k, k < 0 → parseFieldDescriptor (TJ9 k).2.2.1 = some (tyJ9 k) := by decide +kernel
abbrev cJ9_floorMod_7cf53 : ByteArray := prog_27_method_50_code
def yJ9_floorMod_7cf53 : MethodName := ⟨RJ9, "floorMod", "(II)I"⟩
abbrev cJ9_abs_0f7a4 : ByteArray := prog_27_method_59_code
def yJ9_abs_0f7a4 : MethodName := ⟨RJ9, "abs", "(I)I"⟩
abbrev cJ9_max_7cf53 : ByteArray := prog_27_method_65_code
def yJ9_max_7cf53 : MethodName := ⟨RJ9, "max", "(II)I"⟩
abbrev cJ9_min_7cf53 : ByteArray := prog_27_method_69_code
def yJ9_min_7cf53 : MethodName := ⟨RJ9, "min", "(II)I"⟩
def RJxd2413 : String := "java/lang/Number"
def TJxd2413 : u_T := fun k => match k with
  | _ => ("", "", "", false)
def tyJxd2413 : Nat → FieldType := fun k => match k with
  | _ => .int
abbrev wsJxd24130 : List Cond := u_ws RJxd2413 TJxd2413 0
theorem nmJxd2413 : ∀ a, a < 0 → ∀ b, b < 0 → a ≠ b → (TJxd2413 a).2.1 ≠ (TJxd2413 b).2.1 := by decide +kernel
theorem tyJxd2413_ok : ∀ k, k < 0 → parseFieldDescriptor (TJxd2413 k).2.2.1 = some (tyJxd2413 k) := by decide +kernel
def RJ0 : String := "java/lang/String"
def TJ0 : u_T := fun k => match k with
  | 0 => ("java/lang/String", "value", "[B", true)
  | 1 => ("java/lang/String", "coder", "B", true)
  | 2 => ("java/lang/String", "hash", "I", false)
  | _ => ("java/lang/String", "hashIsZero", "Z", false)
def tyJ0 : Nat → FieldType := fun k => match k with
  | 0 => .array .byte
  | 1 => .byte
  | 2 => .int
  | _ => .boolean
abbrev wsJ00 : List Cond := u_ws RJ0 TJ0 4
theorem nmJ0 : ∀ a, a < 4 → ∀ b, b < 4 → a ≠ b → (TJ0 a).2.1 ≠ (TJ0 b).2.1 := by decide +kernel
theorem tyJ0_ok : ∀ k, k < 4 → parseFieldDescriptor (TJ0 k).2.2.1 = some (tyJ0 k) := by decide +kernel
abbrev cJ0_init_81219 : ByteArray := prog_30_method_53_code
def yJ0_init_81219 : MethodName := ⟨RJ0, "<init>", "(Ljava/lang/StringBuilder;)V"⟩
abbrev cJ0_length_8abf5 : ByteArray := prog_30_method_54_code
def yJ0_length_8abf5 : MethodName := ⟨RJ0, "length", "()I"⟩
abbrev cJ0_isEmpty_aae02 : ByteArray := prog_30_method_55_code
def yJ0_isEmpty_aae02 : MethodName := ⟨RJ0, "isEmpty", "()Z"⟩
abbrev cJ0_charAt_5068e : ByteArray := prog_30_method_56_code
def yJ0_charAt_5068e : MethodName := ⟨RJ0, "charAt", "(I)C"⟩
abbrev cJ0_getBytes_840e7 : ByteArray := prog_30_method_147_code
def yJ0_getBytes_840e7 : MethodName := ⟨RJ0, "getBytes", "([BIB)V"⟩
abbrev cJ0_init_db425 : ByteArray := prog_30_method_150_code
def yJ0_init_db425 : MethodName := ⟨RJ0, "<init>", "(Ljava/lang/AbstractStringBuilder;Ljava/lang/Void;)V"⟩
abbrev cJ0_coder_7d493 : ByteArray := prog_30_method_152_code
def yJ0_coder_7d493 : MethodName := ⟨RJ0, "coder", "()B"⟩
abbrev cJ0_isLatin1_aae02 : ByteArray := prog_30_method_154_code
def yJ0_isLatin1_aae02 : MethodName := ⟨RJ0, "isLatin1", "()Z"⟩
abbrev cJ0_checkIndex_df160 : ByteArray := prog_30_method_155_code
def yJ0_checkIndex_df160 : MethodName := ⟨RJ0, "checkIndex", "(II)V"⟩
abbrev cJ0_checkBoundsOffCount_cabcc : ByteArray := prog_30_method_157_code
def yJ0_checkBoundsOffCount_cabcc : MethodName := ⟨RJ0, "checkBoundsOffCount", "(III)I"⟩
abbrev cJ0_checkBoundsBeginEnd_23922 : ByteArray := prog_30_method_158_code
def yJ0_checkBoundsBeginEnd_23922 : MethodName := ⟨RJ0, "checkBoundsBeginEnd", "(III)V"⟩
def RJ4 : String := "java/lang/StringBuilder"
def TJ4 : u_T := fun k => match k with
  | 0 => ("java/lang/AbstractStringBuilder", "value", "[B", false)
  | 1 => ("java/lang/AbstractStringBuilder", "coder", "B", false)
  | 2 => ("java/lang/AbstractStringBuilder", "maybeLatin1", "Z", false)
  | _ => ("java/lang/AbstractStringBuilder", "count", "I", false)
def tyJ4 : Nat → FieldType := fun k => match k with
  | 0 => .array .byte
  | 1 => .byte
  | 2 => .boolean
  | _ => .int
abbrev wsJ40 : List Cond := u_ws RJ4 TJ4 4
theorem nmJ4 : ∀ a, a < 4 → ∀ b, b < 4 → a ≠ b → (TJ4 a).2.1 ≠ (TJ4 b).2.1 := by decide +kernel
theorem tyJ4_ok : ∀ k, k < 4 → parseFieldDescriptor (TJ4 k).2.2.1 = some (tyJ4 k) := by decide +kernel
abbrev cJ4_init_da8c8 : ByteArray := prog_31_method_1_code
def yJ4_init_da8c8 : MethodName := ⟨RJ4, "<init>", "()V"⟩
abbrev cJ4_append_15ec4 : ByteArray := prog_31_method_7_code
def yJ4_append_15ec4 : MethodName := ⟨RJ4, "append", "(Ljava/lang/String;)Ljava/lang/StringBuilder;"⟩
abbrev cJ4_append_cf468 : ByteArray := prog_31_method_14_code
def yJ4_append_cf468 : MethodName := ⟨RJ4, "append", "(C)Ljava/lang/StringBuilder;"⟩
abbrev cJ4_append_bf812 : ByteArray := prog_31_method_15_code
def yJ4_append_bf812 : MethodName := ⟨RJ4, "append", "(I)Ljava/lang/StringBuilder;"⟩
abbrev cJ4_toString_0e30d : ByteArray := prog_31_method_42_code
def yJ4_toString_0e30d : MethodName := ⟨RJ4, "toString", "()Ljava/lang/String;"⟩
abbrev cJ4_charAt_5068e : ByteArray := prog_31_method_88_code
def yJ4_charAt_5068e : MethodName := ⟨RJ4, "charAt", "(I)C"⟩
abbrev cJ4_setLength_d00df : ByteArray := prog_31_method_89_code
def yJ4_setLength_d00df : MethodName := ⟨RJ4, "setLength", "(I)V"⟩
abbrev cJ4_length_8abf5 : ByteArray := prog_31_method_93_code
def yJ4_length_8abf5 : MethodName := ⟨RJ4, "length", "()I"⟩
def RJx7c733 : String := "java/lang/StringIndexOutOfBoundsException"
def TJx7c733 : u_T := fun k => match k with
  | 0 => ("java/lang/Throwable", "backtrace", "Ljava/lang/Object;", false)
  | 1 => ("java/lang/Throwable", "detailMessage", "Ljava/lang/String;", false)
  | 2 => ("java/lang/Throwable", "cause", "Ljava/lang/Throwable;", false)
  | 3 => ("java/lang/Throwable", "stackTrace", "[Ljava/lang/StackTraceElement;", false)
  | 4 => ("java/lang/Throwable", "depth", "I", false)
  | _ => ("java/lang/Throwable", "suppressedExceptions", "Ljava/util/List;", false)
def tyJx7c733 : Nat → FieldType := fun k => match k with
  | 0 => .object "java/lang/Object"
  | 1 => .object "java/lang/String"
  | 2 => .object "java/lang/Throwable"
  | 3 => .array (.object "java/lang/StackTraceElement")
  | 4 => .int
  | _ => .object "java/util/List"
abbrev wsJx7c7330 : List Cond := u_ws RJx7c733 TJx7c733 6
theorem nmJx7c733 : ∀ a, a < 6 → ∀ b, b < 6 → a ≠ b → (TJx7c733 a).2.1 ≠ (TJx7c733 b).2.1 := by decide +kernel
theorem tyJx7c733_ok : ∀ k, k < 6 → parseFieldDescriptor (TJx7c733 k).2.2.1 = some (tyJx7c733 k) := by decide +kernel
abbrev cJx7c733_init_d00df : ByteArray := prog_32_method_3_code
def yJx7c733_init_d00df : MethodName := ⟨RJx7c733, "<init>", "(I)V"⟩
def RJ1 : String := "java/lang/StringLatin1"
def TJ1 : u_T := fun k => match k with
  | _ => ("", "", "", false)
def tyJ1 : Nat → FieldType := fun k => match k with
  | _ => .int
abbrev wsJ10 : List Cond := u_ws RJ1 TJ1 0
theorem nmJ1 : ∀ a, a < 0 → ∀ b, b < 0 → a ≠ b → (TJ1 a).2.1 ≠ (TJ1 b).2.1 := by decide +kernel
theorem tyJ1_ok : ∀ k, k < 0 → parseFieldDescriptor (TJ1 k).2.2.1 = some (tyJ1 k) := by decide +kernel
abbrev cJ1_charAt_3b067 : ByteArray := prog_33_method_2_code
def yJ1_charAt_3b067 : MethodName := ⟨RJ1, "charAt", "([BI)C"⟩
abbrev cJ1_canEncode_fc78d : ByteArray := prog_33_method_3_code
def yJ1_canEncode_fc78d : MethodName := ⟨RJ1, "canEncode", "(C)Z"⟩
abbrev cJ1_fillNull_b72d1 : ByteArray := prog_33_method_48_code
def yJ1_fillNull_b72d1 : MethodName := ⟨RJ1, "fillNull", "([BII)V"⟩
abbrev cJ1_inflate_0e8fd : ByteArray := prog_33_method_50_code
def yJ1_inflate_0e8fd : MethodName := ⟨RJ1, "inflate", "([BI[BII)V"⟩
def RJ2 : String := "java/lang/StringUTF16"
def TJ2 : u_T := fun k => match k with
  | _ => ("", "", "", false)
def tyJ2 : Nat → FieldType := fun k => match k with
  | _ => .int
abbrev wsJ20 : List Cond := u_ws RJ2 TJ2 0
theorem nmJ2 : ∀ a, a < 0 → ∀ b, b < 0 → a ≠ b → (TJ2 a).2.1 ≠ (TJ2 b).2.1 := by decide +kernel
theorem tyJ2_ok : ∀ k, k < 0 → parseFieldDescriptor (TJ2 k).2.2.1 = some (tyJ2 k) := by decide +kernel
abbrev cJ2_newBytesFor_77867 : ByteArray := prog_34_method_2_code
def yJ2_newBytesFor_77867 : MethodName := ⟨RJ2, "newBytesFor", "(I)[B"⟩
abbrev cJ2_newBytesLength_0f7a4 : ByteArray := prog_34_method_3_code
def yJ2_newBytesLength_0f7a4 : MethodName := ⟨RJ2, "newBytesLength", "(I)I"⟩
abbrev cJ2_putChar_b72d1 : ByteArray := prog_34_method_4_code
def yJ2_putChar_b72d1 : MethodName := ⟨RJ2, "putChar", "([BII)V"⟩
abbrev cJ2_getChar_3b067 : ByteArray := prog_34_method_5_code
def yJ2_getChar_3b067 : MethodName := ⟨RJ2, "getChar", "([BI)C"⟩
abbrev cJ2_length_9d52b : ByteArray := prog_34_method_6_code
def yJ2_length_9d52b : MethodName := ⟨RJ2, "length", "([B)I"⟩
abbrev cJ2_coderFromArrayLen_85cad : ByteArray := prog_34_method_15_code
def yJ2_coderFromArrayLen_85cad : MethodName := ⟨RJ2, "coderFromArrayLen", "([BI)B"⟩
abbrev cJ2_compress_39247 : ByteArray := prog_34_method_17_code
def yJ2_compress_39247 : MethodName := ⟨RJ2, "compress", "([BII)[B"⟩
abbrev cJ2_compress_5af95 : ByteArray := prog_34_method_22_code
def yJ2_compress_5af95 : MethodName := ⟨RJ2, "compress", "([BI[BII)I"⟩
abbrev cJ2_fillNull_b72d1 : ByteArray := prog_34_method_70_code
def yJ2_fillNull_b72d1 : MethodName := ⟨RJ2, "fillNull", "([BII)V"⟩
abbrev cJ2_putCharSB_b72d1 : ByteArray := prog_34_method_71_code
def yJ2_putCharSB_b72d1 : MethodName := ⟨RJ2, "putCharSB", "([BII)V"⟩
abbrev cJ2_getChars_46870 : ByteArray := prog_34_method_77_code
def yJ2_getChars_46870 : MethodName := ⟨RJ2, "getChars", "(III[B)I"⟩
abbrev cJ2_putCharsAt_cd4e5 : ByteArray := prog_34_method_81_code
def yJ2_putCharsAt_cd4e5 : MethodName := ⟨RJ2, "putCharsAt", "([BICCCC)I"⟩
abbrev cJ2_charAt_3b067 : ByteArray := prog_34_method_83_code
def yJ2_charAt_3b067 : MethodName := ⟨RJ2, "charAt", "([BI)C"⟩
abbrev cJ2_inflate_0e8fd : ByteArray := prog_34_method_86_code
def yJ2_inflate_0e8fd : MethodName := ⟨RJ2, "inflate", "([BI[BII)V"⟩
abbrev cJ2_getChars_ba4f3 : ByteArray := prog_34_method_89_code
def yJ2_getChars_ba4f3 : MethodName := ⟨RJ2, "getChars", "(II[B)I"⟩
abbrev cJ2_checkIndex_2214a : ByteArray := prog_34_method_91_code
def yJ2_checkIndex_2214a : MethodName := ⟨RJ2, "checkIndex", "(I[B)V"⟩
abbrev cJ2_checkBoundsBeginEnd_d044e : ByteArray := prog_34_method_93_code
def yJ2_checkBoundsBeginEnd_d044e : MethodName := ⟨RJ2, "checkBoundsBeginEnd", "(II[B)V"⟩
abbrev cJ2_checkBoundsOffCount_d044e : ByteArray := prog_34_method_94_code
def yJ2_checkBoundsOffCount_d044e : MethodName := ⟨RJ2, "checkBoundsOffCount", "(II[B)V"⟩
def RJ10 : String := "java/lang/System"
def TJ10 : u_T := fun k => match k with
  | _ => ("", "", "", false)
def tyJ10 : Nat → FieldType := fun k => match k with
  | _ => .int
abbrev wsJ100 : List Cond := u_ws RJ10 TJ10 0
theorem nmJ10 : ∀ a, a < 0 → ∀ b, b < 0 → a ≠ b → (TJ10 a).2.1 ≠ (TJ10 b).2.1 := by decide +kernel
theorem tyJ10_ok : ∀ k, k < 0 → parseFieldDescriptor (TJ10 k).2.2.1 = some (tyJ10 k) := by decide +kernel
def RJxfd54e : String := "java/lang/constant/Constable"
def TJxfd54e : u_T := fun k => match k with
  | _ => ("", "", "", false)
def tyJxfd54e : Nat → FieldType := fun k => match k with
  | _ => .int
abbrev wsJxfd54e0 : List Cond := u_ws RJxfd54e TJxfd54e 0
theorem nmJxfd54e : ∀ a, a < 0 → ∀ b, b < 0 → a ≠ b → (TJxfd54e a).2.1 ≠ (TJxfd54e b).2.1 := by decide +kernel
theorem tyJxfd54e_ok : ∀ k, k < 0 → parseFieldDescriptor (TJxfd54e k).2.2.1 = some (tyJxfd54e k) := by decide +kernel
def RJx3cf43 : String := "java/lang/constant/ConstantDesc"
def TJx3cf43 : u_T := fun k => match k with
  | _ => ("", "", "", false)
def tyJx3cf43 : Nat → FieldType := fun k => match k with
  | _ => .int
abbrev wsJx3cf430 : List Cond := u_ws RJx3cf43 TJx3cf43 0
theorem nmJx3cf43 : ∀ a, a < 0 → ∀ b, b < 0 → a ≠ b → (TJx3cf43 a).2.1 ≠ (TJx3cf43 b).2.1 := by decide +kernel
theorem tyJx3cf43_ok : ∀ k, k < 0 → parseFieldDescriptor (TJx3cf43 k).2.2.1 = some (tyJx3cf43 k) := by decide +kernel
def RJ7 : String := "java/util/Arrays"
def TJ7 : u_T := fun k => match k with
  | _ => ("", "", "", false)
def tyJ7 : Nat → FieldType := fun k => match k with
  | _ => .int
abbrev wsJ70 : List Cond := u_ws RJ7 TJ7 0
theorem nmJ7 : ∀ a, a < 0 → ∀ b, b < 0 → a ≠ b → (TJ7 a).2.1 ≠ (TJ7 b).2.1 := by decide +kernel
theorem tyJ7_ok : ∀ k, k < 0 → parseFieldDescriptor (TJ7 k).2.2.1 = some (tyJ7 k) := by decide +kernel
abbrev cJ7_rangeCheck_23922 : ByteArray := prog_40_method_30_code
def yJ7_rangeCheck_23922 : MethodName := ⟨RJ7, "rangeCheck", "(III)V"⟩
abbrev cJ7_fill_eb02e : ByteArray := prog_40_method_110_code
def yJ7_fill_eb02e : MethodName := ⟨RJ7, "fill", "([BIIB)V"⟩
abbrev cJ7_copyOf_9075b : ByteArray := prog_40_method_121_code
def yJ7_copyOf_9075b : MethodName := ⟨RJ7, "copyOf", "([BI)[B"⟩
abbrev cJ7_checkLength_df160 : ByteArray := prog_40_method_131_code
def yJ7_checkLength_df160 : MethodName := ⟨RJ7, "checkLength", "(II)V"⟩
abbrev cJ7_copyOfRange_39247 : ByteArray := prog_40_method_132_code
def yJ7_copyOfRange_39247 : MethodName := ⟨RJ7, "copyOfRange", "([BII)[B"⟩
abbrev cJ7_copyOfRangeByte_39247 : ByteArray := prog_40_method_133_code
def yJ7_copyOfRangeByte_39247 : MethodName := ⟨RJ7, "copyOfRangeByte", "([BII)[B"⟩
def RJ8 : String := "jdk/internal/util/ArraysSupport"
def TJ8 : u_T := fun k => match k with
  | _ => ("", "", "", false)
def tyJ8 : Nat → FieldType := fun k => match k with
  | _ => .int
abbrev wsJ80 : List Cond := u_ws RJ8 TJ8 0
theorem nmJ8 : ∀ a, a < 0 → ∀ b, b < 0 → a ≠ b → (TJ8 a).2.1 ≠ (TJ8 b).2.1 := by decide +kernel
theorem tyJ8_ok : ∀ k, k < 0 → parseFieldDescriptor (TJ8 k).2.2.1 = some (tyJ8 k) := by decide +kernel
abbrev cJ8_newLength_cabcc : ByteArray := prog_42_method_27_code
def yJ8_newLength_cabcc : MethodName := ⟨RJ8, "newLength", "(III)I"⟩
abbrev cJ8_hugeLength_7cf53 : ByteArray := prog_42_method_28_code
def yJ8_hugeLength_7cf53 : MethodName := ⟨RJ8, "hugeLength", "(II)I"⟩
def RJ3 : String := "jdk/internal/util/Preconditions"
def TJ3 : u_T := fun k => match k with
  | _ => ("", "", "", false)
def tyJ3 : Nat → FieldType := fun k => match k with
  | _ => .int
abbrev wsJ30 : List Cond := u_ws RJ3 TJ3 0
theorem nmJ3 : ∀ a, a < 0 → ∀ b, b < 0 → a ≠ b → (TJ3 a).2.1 ≠ (TJ3 b).2.1 := by decide +kernel
theorem tyJ3_ok : ∀ k, k < 0 → parseFieldDescriptor (TJ3 k).2.2.1 = some (tyJ3 k) := by decide +kernel
abbrev cJ3_checkIndex_8e157 : ByteArray := prog_43_method_11_code
def yJ3_checkIndex_8e157 : MethodName := ⟨RJ3, "checkIndex", "(IILjava/util/function/BiFunction;)I"⟩
abbrev cJ3_checkFromToIndex_8c36e : ByteArray := prog_43_method_12_code
def yJ3_checkFromToIndex_8c36e : MethodName := ⟨RJ3, "checkFromToIndex", "(IIILjava/util/function/BiFunction;)I"⟩
abbrev cJ3_checkFromIndexSize_8c36e : ByteArray := prog_43_method_13_code
def yJ3_checkFromIndexSize_8c36e : MethodName := ⟨RJ3, "checkFromIndexSize", "(IIILjava/util/function/BiFunction;)I"⟩
def RL : String := "IceBellsLaw"
abbrev cL_addLake : ByteArray := method_3_code
def yL_addLake : MethodName := ⟨RL, "addLake", "(LIceBells;I[J)I"⟩
abbrev cL_freeze : ByteArray := method_4_code
def yL_freeze : MethodName := ⟨RL, "freeze", "(LIceBells;III[J)I"⟩
abbrev cL_depth : ByteArray := method_5_code
def yL_depth : MethodName := ⟨RL, "depth", "(LIceBells;I[J)I"⟩
abbrev cL_layerCount : ByteArray := method_6_code
def yL_layerCount : MethodName := ⟨RL, "layerCount", "(LIceBells;I[J)I"⟩
abbrev cL_thickness : ByteArray := method_7_code
def yL_thickness : MethodName := ⟨RL, "thickness", "(LIceBells;II[J)I"⟩
abbrev cL_temperature : ByteArray := method_8_code
def yL_temperature : MethodName := ⟨RL, "temperature", "(LIceBells;II[J)I"⟩
abbrev cL_strain : ByteArray := method_9_code
def yL_strain : MethodName := ⟨RL, "strain", "(LIceBells;II[J)I"⟩
abbrev cL_iceThickness : ByteArray := method_10_code
def yL_iceThickness : MethodName := ⟨RL, "iceThickness", "(LIceBells;I[J)I"⟩
abbrev cL_iceThicknessByHalves : ByteArray := method_11_code
def yL_iceThicknessByHalves : MethodName := ⟨RL, "iceThicknessByHalves", "(LIceBells;I[J)I"⟩
abbrev cL_layerAt : ByteArray := method_12_code
def yL_layerAt : MethodName := ⟨RL, "layerAt", "(LIceBells;II[J)I"⟩
abbrev cL_setAir : ByteArray := method_13_code
def yL_setAir : MethodName := ⟨RL, "setAir", "(LIceBells;I[J)I"⟩
abbrev cL_pass : ByteArray := method_14_code
def yL_pass : MethodName := ⟨RL, "pass", "(LIceBells;I[J)I"⟩
abbrev cL_hoursUntilCrack : ByteArray := method_15_code
def yL_hoursUntilCrack : MethodName := ⟨RL, "hoursUntilCrack", "(LIceBells;[J)I"⟩
abbrev cL_hoursUntilThawed : ByteArray := method_16_code
def yL_hoursUntilThawed : MethodName := ⟨RL, "hoursUntilThawed", "(LIceBells;I[J)I"⟩
abbrev cL_addWindow : ByteArray := method_17_code
def yL_addWindow : MethodName := ⟨RL, "addWindow", "(LIceBells;II[J)I"⟩
abbrev cL_removeWindow : ByteArray := method_18_code
def yL_removeWindow : MethodName := ⟨RL, "removeWindow", "(LIceBells;I[J)I"⟩
abbrev cL_windowFirst : ByteArray := method_19_code
def yL_windowFirst : MethodName := ⟨RL, "windowFirst", "(LIceBells;I[J)I"⟩
abbrev cL_windowLast : ByteArray := method_20_code
def yL_windowLast : MethodName := ⟨RL, "windowLast", "(LIceBells;I[J)I"⟩
abbrev cL_strike : ByteArray := method_21_code
def yL_strike : MethodName := ⟨RL, "strike", "(LIceBells;II[J)I"⟩
abbrev cL_pitch : ByteArray := method_22_code
def yL_pitch : MethodName := ⟨RL, "pitch", "(LIceBells;II[J)I"⟩
abbrev cL_pealKind : ByteArray := method_23_code
def yL_pealKind : MethodName := ⟨RL, "pealKind", "(LIceBells;I[J)I"⟩
abbrev cL_pealLake : ByteArray := method_24_code
def yL_pealLake : MethodName := ⟨RL, "pealLake", "(LIceBells;I[J)I"⟩
abbrev cL_pealPitch : ByteArray := method_25_code
def yL_pealPitch : MethodName := ⟨RL, "pealPitch", "(LIceBells;I[J)I"⟩
abbrev cL_pealHour : ByteArray := method_26_code
def yL_pealHour : MethodName := ⟨RL, "pealHour", "(LIceBells;I[J)I"⟩
abbrev cL_cracksOf : ByteArray := method_27_code
def yL_cracksOf : MethodName := ⟨RL, "cracksOf", "(LIceBells;I[J)I"⟩
abbrev cL_lakeAtRank : ByteArray := method_28_code
def yL_lakeAtRank : MethodName := ⟨RL, "lakeAtRank", "(LIceBells;I[J)I"⟩
abbrev cL_append : ByteArray := method_29_code
def yL_append : MethodName := ⟨RL, "append", "(LIceBells;C[J)I"⟩
abbrev cL_run : ByteArray := method_30_code
def yL_run : MethodName := ⟨RL, "run", "(LIceBells;[J)I"⟩
abbrev cL_errorPosition : ByteArray := method_31_code
def yL_errorPosition : MethodName := ⟨RL, "errorPosition", "(LIceBells;[J)I"⟩
abbrev cL_failedCommand : ByteArray := method_32_code
def yL_failedCommand : MethodName := ⟨RL, "failedCommand", "(LIceBells;[J)I"⟩
abbrev cL_failureKind : ByteArray := method_33_code
def yL_failureKind : MethodName := ⟨RL, "failureKind", "(LIceBells;[J)I"⟩
abbrev cL_describeLake : ByteArray := method_34_code
def yL_describeLake : MethodName := ⟨RL, "describeLake", "(LIceBells;I[J)I"⟩
abbrev cL_lineAt : ByteArray := method_35_code
def yL_lineAt : MethodName := ⟨RL, "lineAt", "(LIceBells;I[J)I"⟩
abbrev cL_meanTemperature : ByteArray := method_36_code
def yL_meanTemperature : MethodName := ⟨RL, "meanTemperature", "(LIceBells;I[D)I"⟩
abbrev cL_iceShare : ByteArray := method_37_code
def yL_iceShare : MethodName := ⟨RL, "iceShare", "(LIceBells;I[D)I"⟩
abbrev cL_undo : ByteArray := method_38_code
def yL_undo : MethodName := ⟨RL, "undo", "(LIceBells;[J)I"⟩
abbrev cL_restore : ByteArray := method_39_code
def yL_restore : MethodName := ⟨RL, "restore", "(LIceBells;[J)I"⟩
abbrev cL_law : ByteArray := code
def yL_law : MethodName := ⟨RL, "law", "([I)Z"⟩
abbrev vwCl : List vw_C := [(RJ0, TJ0, 4), (RJ4, TJ4, 4), (RJx00060, TJx00060, 6), (RJx7c733, TJx7c733, 6), (RX1, TX1, 3), (RX2, TX2, 5), (RX3, TX3, 3), (RX5, TX5, 6), (RX6, TX6, 8), (RX7, TX7, 6), (RX8, TX8, 3), (RX9, TX9, 11), (RX10, TX10, 21)]
end
section
/-! our own judgement V: the machine in one method of ours, over a heap picture h : address → cell -/
abbrev xH : Type := Nat → Option va_E
/-- start state of the law, class ids and slots, array classes by code, addresses of the enum constants -/
abbrev xG : Type := State × va_G × (Nat → ClassId) × (Nat → Nat)
abbrev xcl : List vw_C := [(RX1, TX1, 3), (RX2, TX2, 5), (RX3, TX3, 3), (RX5, TX5, 6), (RX6, TX6, 8), (RX7, TX7, 6), (RX8, TX8, 3), (RX9, TX9, 11), (RX10, TX10, 21), (RJ4, TJ4, 4)]
def xty : Nat → FieldType := fun t => match t with
  | 0 => .int
  | 1 => .char
  | 2 => .long
  | 3 => .double
  | 4 => .byte
  | 5 => .object RX1
  | 6 => .object RX5
  | _ => .object RX6
def xtys (g : xG) : List (ClassId × FieldType) := [(g.2.2.1 0, xty 0), (g.2.2.1 1, xty 1), (g.2.2.1 2, xty 2), (g.2.2.1 3, xty 3), (g.2.2.1 4, xty 4), (g.2.2.1 5, xty 5), (g.2.2.1 6, xty 6), (g.2.2.1 7, xty 7)]
def GK (g : xG) : Prop := (∃ b : Nat, (∀ w ∈ lw_tbl, w.before #[Value.ref b] g.1 = true) ∧ (Jvm.Cond.and given_1 narrow_1).before #[Value.ref b] g.1 = true) ∧ va_K g.2.1 xcl (xtys g) g.1
abbrev BT : Type := Program × Launch × Env × Room × State × MethodId × Array Value × List Frame × Method × Code
def xRm (d mc ms : Nat) : Room := { frames := 40 * d, cells := mc, slots := ms, locals := 400 * d }
/-- the heap H is of size sz, holds h, is the start's below, and only our own was written -/
def RZ (g : xG) (h : xH) (sz : Nat) (H : Heap) (locs : List Loc) : Prop := H.size = sz ∧ g.1.heap.size ≤ sz ∧ (∀ q : Nat, q < g.1.heap.size → H[q]? = g.1.heap[q]?) ∧ (∀ (a : Nat) (e : va_E), h a = some e → g.1.heap.size ≤ a ∧ va_at g.2.1 xcl (a, e) H) ∧ ∀ z ∈ locs, g.1.heap.size ≤ z.base
/-- what is known of the locals -/
def LH (A : Array Slot) (nL : Nat) (ls : List (Option Value)) : Prop := A.size = nL ∧ lv_wf A ∧ ∀ (i : Nat) (v : Value), ls[i]? = some (some v) → A[i]? = some (.val v)
def V (g : xG) (B : BT) (k n : Nat) (Q : State → Prop) (h : xH) (sz pc : Nat) (ls : List (Option Value)) (st : List Value) : Prop := match B with
  | (p, l, e, R, s, m, args, below, meth, c) => ∀ (H : Heap) (locs : List Loc) (A : Array Slot), RZ g h sz H locs → LH A c.maxLocals ls → W p l e R s m args below meth c H locs k n Q (F0 m pc A st)
/-- what is known of a method's body -/
def Bd (g : xG) (B : BT) (cc : ByteArray) (nL : Nat) (own : String) (ret : Option FieldType) (d mc ms : Nat) : Prop := match B with
  | (p, l, _, R, s, m, _, _, meth, c) => p.tables.exec = Jvm.exec ∧ c.code = cc ∧ c.maxLocals = nL ∧ s.vm.findClass own = some m.cls ∧ meth.sig.returnType = ret ∧ meth.locks = false ∧ GK g ∧ g.1.WarmedH s.vm ∧ R = xRm d mc ms ∧ l.flags = flags0
/-- a word of the claim's tables that stays -/
def WD (w : Cond) : Prop := w ∈ lw_tbl ∧ goodWord w = true
theorem WD.at (i : Nat) {w : Cond} (h : lw_tbl[i]? = some w) (hg : goodWord w = true) : WD w := ⟨List.mem_of_getElem? h, hg⟩
theorem WD.of {g : xG} (hG : GK g) {w : Cond} (hw : WD w) (a' : Array Value) {U : State} (hW : g.1.WarmedH U.vm) : w.before a' U = true := by
  obtain ⟨⟨b, hb, -⟩, -⟩ := hG
  exact word_at hW (good_of_word hw.2) (hb w hw.1)
theorem LH.set {A' : Array Slot} {nL i : Nat} {x : Value} {ls : List (Option Value)} {lv : List (Nat × Value)} (h : lv_has A' nL lv) (hx : (i, x) ∈ lv) (ho : ∀ (j : Nat) (v : Value), j ≠ i → ls[j]? = some (some v) → (j, v) ∈ lv) : LH A' nL (ls.set i (some x)) := by
  refine ⟨h.1, h.2.1, fun j v hj => ?_⟩
  rw [List.getElem?_set] at hj
  by_cases e : i = j
  · rw [if_pos e] at hj
    by_cases e2 : i < ls.length
    · rw [if_pos e2] at hj
      cases hj
      rw [← e]
      exact h.2.2 _ hx
    · rw [if_neg e2] at hj
      cases hj
  · rw [if_neg e] at hj
    exact h.2.2 _ (ho j v (fun z => e z.symm) hj)
/-- the locals as the kit lists them -/
def prs (ls : List (Option Value)) : List (Nat × Value) := (List.range ls.length).filterMap (fun i => (ls[i]?.bind id).map (fun v => (i, v)))
theorem prs_in {ls : List (Option Value)} {i : Nat} {v : Value} : (i, v) ∈ prs ls ↔ ls[i]? = some (some v) := by
  unfold prs
  rw [List.mem_filterMap]
  constructor
  · rintro ⟨j, hj, h⟩
    cases h1 : ls[j]? with
    | none => rw [h1] at h; cases h
    | some o =>
      rw [h1] at h
      cases o with
      | none => cases h
      | some w =>
        have e : (j, w) = (i, v) := Option.some.inj h
        cases e
        exact h1
  · intro h
    refine ⟨i, List.mem_range.mpr (List.getElem?_eq_some_iff.mp h).1, ?_⟩
    rw [h]
    rfl
theorem LH.has {A : Array Slot} {nL : Nat} {ls : List (Option Value)} (h : LH A nL ls) : lv_has A nL (prs ls) := ⟨h.1, h.2.1, fun q hq => h.2.2 q.1 q.2 (prs_in.mp hq)⟩
theorem LH.mono {A : Array Slot} {nL : Nat} {ls ls' : List (Option Value)} (h : LH A nL ls) (hs : ∀ (i : Nat) (v : Value), ls'[i]? = some (some v) → ls[i]? = some (some v)) : LH A nL ls' := ⟨h.1, h.2.1, fun i v hi => h.2.2 i v (hs i v hi)⟩
/-- no long or double stands just ahead of place i -/
def ok1 (ls : List (Option Value)) (i : Nat) : Bool := match i with
  | 0 => true
  | j + 1 => match ls[j]? with
    | some (some v) => v.category == 1
    | _ => true
theorem ok1_of {ls : List (Option Value)} {i j : Nat} {v : Value} (h : ok1 ls i = true) (hj : ls[j]? = some (some v)) (e : j + 1 = i) : v.category = 1 := by
  subst e
  unfold ok1 at h
  dsimp only at h
  rw [hj] at h
  simpa using h
theorem LH.st1 {A' : Array Slot} {nL i : Nat} {x : Value} {ls : List (Option Value)} (h : lv_has A' nL ((i, x) :: (prs ls).filter (fun q => !(q.1 == i) && !(q.1 + 1 == i && q.2.category == 2)))) (ho : ok1 ls i = true) : LH A' nL (ls.set i (some x)) := by
  refine LH.set h List.mem_cons_self (fun j v hne hj => List.mem_cons_of_mem _ (List.mem_filter.mpr ⟨prs_in.mpr hj, ?_⟩))
  have h1 : (j == i) = false := by simpa using hne
  by_cases e : j + 1 = i
  · have hc := ok1_of ho hj e
    simp [h1, hc]
  · have h2 : (j + 1 == i) = false := by simpa using e
    simp [h1, h2]
theorem V.sub {g : xG} {B : BT} {k n : Nat} {Q : State → Prop} {h h' : xH} {sz pc : Nat} {ls ls' : List (Option Value)} {st : List Value} (hh : ∀ (a : Nat) (e : va_E), h' a = some e → h a = some e) (hs : ∀ (i : Nat) (v : Value), ls'[i]? = some (some v) → ls[i]? = some (some v)) (kk : V g B k n Q h' sz pc ls' st) : V g B k n Q h sz pc ls st := by
  obtain ⟨p, l, e, R, s, m, args, below, meth, c⟩ := B
  intro H locs A hz hl
  exact kk H locs A ⟨hz.1, hz.2.1, hz.2.2.1, fun a e ha => hz.2.2.2.1 a e (hh a e ha), hz.2.2.2.2⟩ (hl.mono hs)
theorem V.wid {g : xG} {B : BT} {k n k' n' : Nat} {Q : State → Prop} {h : xH} {sz pc : Nat} {ls : List (Option Value)} {st : List Value} (h1 : k ≤ k') (h2 : n ≤ n') (kk : V g B k' n' Q h sz pc ls st) : V g B k n Q h sz pc ls st := by
  obtain ⟨p, l, e, R, s, m, args, below, meth, c⟩ := B
  intro H locs A hz hl
  exact W.widen h1 h2 (kk H locs A hz hl)
section VR
variable {g : xG} {B : BT} {k n : Nat} {Q : State → Prop} {h : xH} {sz pc : Nat} {ls : List (Option Value)} {st : List Value} {cc : ByteArray} {nL : Nat} {own : String} {ret : Option FieldType} {d mc ms : Nat}
theorem V.iconst (hB : Bd g B cc nL own ret d mc ms) {i : Int} {v : Int32} (hd : decode cc pc = .ok (.iconst i, 1)) (hv : Int32.ofInt i = v) (kk : V g B k n Q h sz (pc + 1) ls (.int v :: st)) : V g B k n Q h sz pc ls (st) := by
  obtain ⟨p, l, e, R, s, m, args, below, meth, c⟩ := B
  obtain ⟨hx, hb, hml, hown, hr, hlk, hG, hW, hR, hfl⟩ := hB
  intro H locs A hz hl0
  exact lv_iconst hx hb hd hv (kk H locs A hz hl0)
theorem V.bipush (hB : Bd g B cc nL own ret d mc ms) {i : Int} {v : Int32} (hd : decode cc pc = .ok (.bipush i, 2)) (hv : (Int8.ofInt i).toInt32 = v) (kk : V g B k n Q h sz (pc + 2) ls (.int v :: st)) : V g B k n Q h sz pc ls (st) := by
  obtain ⟨p, l, e, R, s, m, args, below, meth, c⟩ := B
  obtain ⟨hx, hb, hml, hown, hr, hlk, hG, hW, hR, hfl⟩ := hB
  intro H locs A hz hl0
  exact lv_bipush hx hb hd hv (kk H locs A hz hl0)
theorem V.sipush (hB : Bd g B cc nL own ret d mc ms) {i : Int} {v : Int32} (hd : decode cc pc = .ok (.sipush i, 3)) (hv : (Int16.ofInt i).toInt32 = v) (kk : V g B k n Q h sz (pc + 3) ls (.int v :: st)) : V g B k n Q h sz pc ls (st) := by
  obtain ⟨p, l, e, R, s, m, args, below, meth, c⟩ := B
  obtain ⟨hx, hb, hml, hown, hr, hlk, hG, hW, hR, hfl⟩ := hB
  intro H locs A hz hl0
  exact lv_sipush hx hb hd hv (kk H locs A hz hl0)
theorem V.iload_n (hB : Bd g B cc nL own ret d mc ms) {i : Fin 4} {x : Int32} (hd : decode cc pc = .ok (.iload_n i, 1)) (hl : ls[(i : Nat)]? = some (some (.int x))) (kk : V g B k n Q h sz (pc + 1) ls (.int x :: st)) : V g B k n Q h sz pc ls (st) := by
  obtain ⟨p, l, e, R, s, m, args, below, meth, c⟩ := B
  obtain ⟨hx, hb, hml, hown, hr, hlk, hG, hW, hR, hfl⟩ := hB
  intro H locs A hz hl0
  exact lv_iload_n hx hb hd rfl (hl0.2.2 _ _ hl) (kk H locs A hz hl0)
theorem V.iload (hB : Bd g B cc nL own ret d mc ms) {i : Nat} {x : Int32} (hd : decode cc pc = .ok (.iload i, 2)) (hl : ls[i]? = some (some (.int x))) (kk : V g B k n Q h sz (pc + 2) ls (.int x :: st)) : V g B k n Q h sz pc ls (st) := by
  obtain ⟨p, l, e, R, s, m, args, below, meth, c⟩ := B
  obtain ⟨hx, hb, hml, hown, hr, hlk, hG, hW, hR, hfl⟩ := hB
  intro H locs A hz hl0
  exact lv_iload hx hb hd (hl0.2.2 _ _ hl) (kk H locs A hz hl0)
theorem V.aload_n (hB : Bd g B cc nL own ret d mc ms) {i : Fin 4} {x : Nat} (hd : decode cc pc = .ok (.aload_n i, 1)) (hl : ls[(i : Nat)]? = some (some (.ref x))) (kk : V g B k n Q h sz (pc + 1) ls (.ref x :: st)) : V g B k n Q h sz pc ls (st) := by
  obtain ⟨p, l, e, R, s, m, args, below, meth, c⟩ := B
  obtain ⟨hx, hb, hml, hown, hr, hlk, hG, hW, hR, hfl⟩ := hB
  intro H locs A hz hl0
  exact lv_aload_n hx hb hd rfl (hl0.2.2 _ _ hl) (kk H locs A hz hl0)
theorem V.aload (hB : Bd g B cc nL own ret d mc ms) {i : Nat} {x : Nat} (hd : decode cc pc = .ok (.aload i, 2)) (hl : ls[i]? = some (some (.ref x))) (kk : V g B k n Q h sz (pc + 2) ls (.ref x :: st)) : V g B k n Q h sz pc ls (st) := by
  obtain ⟨p, l, e, R, s, m, args, below, meth, c⟩ := B
  obtain ⟨hx, hb, hml, hown, hr, hlk, hG, hW, hR, hfl⟩ := hB
  intro H locs A hz hl0
  exact lv_aload hx hb hd (hl0.2.2 _ _ hl) (kk H locs A hz hl0)
theorem V.fload_n (hB : Bd g B cc nL own ret d mc ms) {i : Fin 4} {x : UInt32} (hd : decode cc pc = .ok (.fload_n i, 1)) (hl : ls[(i : Nat)]? = some (some (.float x))) (kk : V g B k n Q h sz (pc + 1) ls (.float x :: st)) : V g B k n Q h sz pc ls (st) := by
  obtain ⟨p, l, e, R, s, m, args, below, meth, c⟩ := B
  obtain ⟨hx, hb, hml, hown, hr, hlk, hG, hW, hR, hfl⟩ := hB
  intro H locs A hz hl0
  exact lv_fload_n hx hb hd rfl (hl0.2.2 _ _ hl) (kk H locs A hz hl0)
theorem V.fload (hB : Bd g B cc nL own ret d mc ms) {i : Nat} {x : UInt32} (hd : decode cc pc = .ok (.fload i, 2)) (hl : ls[i]? = some (some (.float x))) (kk : V g B k n Q h sz (pc + 2) ls (.float x :: st)) : V g B k n Q h sz pc ls (st) := by
  obtain ⟨p, l, e, R, s, m, args, below, meth, c⟩ := B
  obtain ⟨hx, hb, hml, hown, hr, hlk, hG, hW, hR, hfl⟩ := hB
  intro H locs A hz hl0
  exact lv_fload hx hb hd (hl0.2.2 _ _ hl) (kk H locs A hz hl0)
theorem V.dload_n (hB : Bd g B cc nL own ret d mc ms) {i : Fin 4} {x : UInt64} (hd : decode cc pc = .ok (.dload_n i, 1)) (hl : ls[(i : Nat)]? = some (some (.double x))) (kk : V g B k n Q h sz (pc + 1) ls (.double x :: st)) : V g B k n Q h sz pc ls (st) := by
  obtain ⟨p, l, e, R, s, m, args, below, meth, c⟩ := B
  obtain ⟨hx, hb, hml, hown, hr, hlk, hG, hW, hR, hfl⟩ := hB
  intro H locs A hz hl0
  exact lv_dload_n hx hb hd rfl (hl0.2.2 _ _ hl) (kk H locs A hz hl0)
theorem V.dload (hB : Bd g B cc nL own ret d mc ms) {i : Nat} {x : UInt64} (hd : decode cc pc = .ok (.dload i, 2)) (hl : ls[i]? = some (some (.double x))) (kk : V g B k n Q h sz (pc + 2) ls (.double x :: st)) : V g B k n Q h sz pc ls (st) := by
  obtain ⟨p, l, e, R, s, m, args, below, meth, c⟩ := B
  obtain ⟨hx, hb, hml, hown, hr, hlk, hG, hW, hR, hfl⟩ := hB
  intro H locs A hz hl0
  exact lv_dload hx hb hd (hl0.2.2 _ _ hl) (kk H locs A hz hl0)
theorem V.istore_n (hB : Bd g B cc nL own ret d mc ms) {i : Fin 4} {x : Int32} (hd : decode cc pc = .ok (.istore_n i, 1)) (hn : (i : Nat) < nL) (ho : ok1 ls (i : Nat) = true) (kk : V g B k n Q h sz (pc + 1) (ls.set (i : Nat) (some (.int x))) (st)) : V g B k n Q h sz pc ls (.int x :: st) := by
  obtain ⟨p, l, e, R, s, m, args, below, meth, c⟩ := B
  obtain ⟨hx, hb, hml, hown, hr, hlk, hG, hW, hR, hfl⟩ := hB
  intro H locs A hz hl0
  exact lv_istore_n hx hb hd rfl (lv := prs ls) (by rw [← hml]; exact hl0.has) hn rfl (fun A2 h2 => kk H locs A2 hz (by rw [hml]; exact LH.st1 h2 ho))
theorem V.istore (hB : Bd g B cc nL own ret d mc ms) {i : Nat} {x : Int32} (hd : decode cc pc = .ok (.istore i, 2)) (hn : i < nL) (ho : ok1 ls i = true) (kk : V g B k n Q h sz (pc + 2) (ls.set i (some (.int x))) (st)) : V g B k n Q h sz pc ls (.int x :: st) := by
  obtain ⟨p, l, e, R, s, m, args, below, meth, c⟩ := B
  obtain ⟨hx, hb, hml, hown, hr, hlk, hG, hW, hR, hfl⟩ := hB
  intro H locs A hz hl0
  exact lv_istore hx hb hd (lv := prs ls) (by rw [← hml]; exact hl0.has) hn rfl (fun A2 h2 => kk H locs A2 hz (by rw [hml]; exact LH.st1 h2 ho))
theorem V.astore_n (hB : Bd g B cc nL own ret d mc ms) {i : Fin 4} {x : Nat} (hd : decode cc pc = .ok (.astore_n i, 1)) (hn : (i : Nat) < nL) (ho : ok1 ls (i : Nat) = true) (kk : V g B k n Q h sz (pc + 1) (ls.set (i : Nat) (some (.ref x))) (st)) : V g B k n Q h sz pc ls (.ref x :: st) := by
  obtain ⟨p, l, e, R, s, m, args, below, meth, c⟩ := B
  obtain ⟨hx, hb, hml, hown, hr, hlk, hG, hW, hR, hfl⟩ := hB
  intro H locs A hz hl0
  exact lv_astore_n hx hb hd rfl (lv := prs ls) (by rw [← hml]; exact hl0.has) hn rfl (fun A2 h2 => kk H locs A2 hz (by rw [hml]; exact LH.st1 h2 ho))
theorem V.astore (hB : Bd g B cc nL own ret d mc ms) {i : Nat} {x : Nat} (hd : decode cc pc = .ok (.astore i, 2)) (hn : i < nL) (ho : ok1 ls i = true) (kk : V g B k n Q h sz (pc + 2) (ls.set i (some (.ref x))) (st)) : V g B k n Q h sz pc ls (.ref x :: st) := by
  obtain ⟨p, l, e, R, s, m, args, below, meth, c⟩ := B
  obtain ⟨hx, hb, hml, hown, hr, hlk, hG, hW, hR, hfl⟩ := hB
  intro H locs A hz hl0
  exact lv_astore hx hb hd (lv := prs ls) (by rw [← hml]; exact hl0.has) hn rfl (fun A2 h2 => kk H locs A2 hz (by rw [hml]; exact LH.st1 h2 ho))
theorem V.fstore_n (hB : Bd g B cc nL own ret d mc ms) {i : Fin 4} {x : UInt32} (hd : decode cc pc = .ok (.fstore_n i, 1)) (hn : (i : Nat) < nL) (ho : ok1 ls (i : Nat) = true) (kk : V g B k n Q h sz (pc + 1) (ls.set (i : Nat) (some (.float x))) (st)) : V g B k n Q h sz pc ls (.float x :: st) := by
  obtain ⟨p, l, e, R, s, m, args, below, meth, c⟩ := B
  obtain ⟨hx, hb, hml, hown, hr, hlk, hG, hW, hR, hfl⟩ := hB
  intro H locs A hz hl0
  exact lv_fstore_n hx hb hd rfl (lv := prs ls) (by rw [← hml]; exact hl0.has) hn rfl (fun A2 h2 => kk H locs A2 hz (by rw [hml]; exact LH.st1 h2 ho))
theorem V.fstore (hB : Bd g B cc nL own ret d mc ms) {i : Nat} {x : UInt32} (hd : decode cc pc = .ok (.fstore i, 2)) (hn : i < nL) (ho : ok1 ls i = true) (kk : V g B k n Q h sz (pc + 2) (ls.set i (some (.float x))) (st)) : V g B k n Q h sz pc ls (.float x :: st) := by
  obtain ⟨p, l, e, R, s, m, args, below, meth, c⟩ := B
  obtain ⟨hx, hb, hml, hown, hr, hlk, hG, hW, hR, hfl⟩ := hB
  intro H locs A hz hl0
  exact lv_fstore hx hb hd (lv := prs ls) (by rw [← hml]; exact hl0.has) hn rfl (fun A2 h2 => kk H locs A2 hz (by rw [hml]; exact LH.st1 h2 ho))
theorem V.iinc (hB : Bd g B cc nL own ret d mc ms) {i : Nat} {j : Int} {x v : Int32} (hd : decode cc pc = .ok (.iinc i j, 3)) (hl : ls[i]? = some (some (.int x))) (hv : x + Int32.ofInt j = v) (hn : i < nL) (ho : ok1 ls i = true) (kk : V g B k n Q h sz (pc + 3) (ls.set i (some (.int v))) st) : V g B k n Q h sz pc ls st := by
  obtain ⟨p, l, e, R, s, m, args, below, meth, c⟩ := B
  obtain ⟨hx, hb, hml, hown, hr, hlk, hG, hW, hR, hfl⟩ := hB
  intro H locs A hz hl0
  obtain ⟨q, hq⟩ := List.getElem?_of_mem (prs_in.mpr hl)
  exact lv_iinc hx hb hd (lv := prs ls) (by rw [← hml]; exact hl0.has) (k := q) hq hv hn rfl (fun A2 h2 => kk H locs A2 hz (by rw [hml]; exact LH.st1 h2 ho))
theorem V.iadd (hB : Bd g B cc nL own ret d mc ms) {x y : Int32} (hd : decode cc pc = .ok (.iadd, 1)) (kk : V g B k n Q h sz (pc + 1) ls (.int (x + y) :: st)) : V g B k n Q h sz pc ls (.int y :: .int x :: st) := by
  obtain ⟨p, l, e, R, s, m, args, below, meth, c⟩ := B
  obtain ⟨hx, hb, hml, hown, hr, hlk, hG, hW, hR, hfl⟩ := hB
  intro H locs A hz hl0
  exact lv_iadd hx hb hd (kk H locs A hz hl0)
theorem V.isub (hB : Bd g B cc nL own ret d mc ms) {x y : Int32} (hd : decode cc pc = .ok (.isub, 1)) (kk : V g B k n Q h sz (pc + 1) ls (.int (x - y) :: st)) : V g B k n Q h sz pc ls (.int y :: .int x :: st) := by
  obtain ⟨p, l, e, R, s, m, args, below, meth, c⟩ := B
  obtain ⟨hx, hb, hml, hown, hr, hlk, hG, hW, hR, hfl⟩ := hB
  intro H locs A hz hl0
  exact lv_isub hx hb hd (kk H locs A hz hl0)
theorem V.imul (hB : Bd g B cc nL own ret d mc ms) {x y : Int32} (hd : decode cc pc = .ok (.imul, 1)) (kk : V g B k n Q h sz (pc + 1) ls (.int (x * y) :: st)) : V g B k n Q h sz pc ls (.int y :: .int x :: st) := by
  obtain ⟨p, l, e, R, s, m, args, below, meth, c⟩ := B
  obtain ⟨hx, hb, hml, hown, hr, hlk, hG, hW, hR, hfl⟩ := hB
  intro H locs A hz hl0
  exact lv_imul hx hb hd (kk H locs A hz hl0)
theorem V.iand (hB : Bd g B cc nL own ret d mc ms) {x y : Int32} (hd : decode cc pc = .ok (.iand, 1)) (kk : V g B k n Q h sz (pc + 1) ls (.int (x &&& y) :: st)) : V g B k n Q h sz pc ls (.int y :: .int x :: st) := by
  obtain ⟨p, l, e, R, s, m, args, below, meth, c⟩ := B
  obtain ⟨hx, hb, hml, hown, hr, hlk, hG, hW, hR, hfl⟩ := hB
  intro H locs A hz hl0
  exact lv_iand hx hb hd (kk H locs A hz hl0)
theorem V.ineg (hB : Bd g B cc nL own ret d mc ms) {x : Int32} (hd : decode cc pc = .ok (.ineg, 1)) (kk : V g B k n Q h sz (pc + 1) ls (.int (-x) :: st)) : V g B k n Q h sz pc ls (.int x :: st) := by
  obtain ⟨p, l, e, R, s, m, args, below, meth, c⟩ := B
  obtain ⟨hx, hb, hml, hown, hr, hlk, hG, hW, hR, hfl⟩ := hB
  intro H locs A hz hl0
  exact lv_ineg hx hb hd (kk H locs A hz hl0)
theorem V.idiv (hB : Bd g B cc nL own ret d mc ms) {x y : Int32} (hd : decode cc pc = .ok (.idiv, 1)) (hne : ¬ y = 0) (kk : V g B k n Q h sz (pc + 1) ls (.int (x / y) :: st)) : V g B k n Q h sz pc ls (.int y :: .int x :: st) := by
  obtain ⟨p, l, e, R, s, m, args, below, meth, c⟩ := B
  obtain ⟨hx, hb, hml, hown, hr, hlk, hG, hW, hR, hfl⟩ := hB
  intro H locs A hz hl0
  exact lv_idiv hx hb hd hne (kk H locs A hz hl0)
theorem V.irem (hB : Bd g B cc nL own ret d mc ms) {x y : Int32} (hd : decode cc pc = .ok (.irem, 1)) (hne : ¬ y = 0) (kk : V g B k n Q h sz (pc + 1) ls (.int (x - x / y * y) :: st)) : V g B k n Q h sz pc ls (.int y :: .int x :: st) := by
  obtain ⟨p, l, e, R, s, m, args, below, meth, c⟩ := B
  obtain ⟨hx, hb, hml, hown, hr, hlk, hG, hW, hR, hfl⟩ := hB
  intro H locs A hz hl0
  exact lv_irem hx hb hd hne (kk H locs A hz hl0)
theorem V.i2l (hB : Bd g B cc nL own ret d mc ms) {x : Int32} (hd : decode cc pc = .ok (.i2l, 1)) (kk : V g B k n Q h sz (pc + 1) ls (.long x.toInt64 :: st)) : V g B k n Q h sz pc ls (.int x :: st) := by
  obtain ⟨p, l, e, R, s, m, args, below, meth, c⟩ := B
  obtain ⟨hx, hb, hml, hown, hr, hlk, hG, hW, hR, hfl⟩ := hB
  intro H locs A hz hl0
  exact lv_i2l hx hb hd rfl (kk H locs A hz hl0)
theorem V.i2c (hB : Bd g B cc nL own ret d mc ms) {x : Int32} (hd : decode cc pc = .ok (.i2c, 1)) (kk : V g B k n Q h sz (pc + 1) ls (.int (x.toUInt32 % 65536).toInt32 :: st)) : V g B k n Q h sz pc ls (.int x :: st) := by
  obtain ⟨p, l, e, R, s, m, args, below, meth, c⟩ := B
  obtain ⟨hx, hb, hml, hown, hr, hlk, hG, hW, hR, hfl⟩ := hB
  intro H locs A hz hl0
  exact lv_i2c hx hb hd rfl (kk H locs A hz hl0)
theorem V.i2d (hB : Bd g B cc nL own ret d mc ms) {x : Int32} (hd : decode cc pc = .ok (.i2d, 1)) (kk : V g B k n Q h sz (pc + 1) ls (.double (FP.i2d x) :: st)) : V g B k n Q h sz pc ls (.int x :: st) := by
  obtain ⟨p, l, e, R, s, m, args, below, meth, c⟩ := B
  obtain ⟨hx, hb, hml, hown, hr, hlk, hG, hW, hR, hfl⟩ := hB
  intro H locs A hz hl0
  exact lv_i2d hx hb hd (kk H locs A hz hl0)
theorem V.i2f (hB : Bd g B cc nL own ret d mc ms) {x : Int32} (hd : decode cc pc = .ok (.i2f, 1)) (kk : V g B k n Q h sz (pc + 1) ls (.float (FP.i2f x) :: st)) : V g B k n Q h sz pc ls (.int x :: st) := by
  obtain ⟨p, l, e, R, s, m, args, below, meth, c⟩ := B
  obtain ⟨hx, hb, hml, hown, hr, hlk, hG, hW, hR, hfl⟩ := hB
  intro H locs A hz hl0
  exact lv_i2f hx hb hd (kk H locs A hz hl0)
theorem V.ddiv (hB : Bd g B cc nL own ret d mc ms) {x y : UInt64} (hd : decode cc pc = .ok (.ddiv, 1)) (hne : vf_n64 (FP.ddiv x y)) (kk : V g B k n Q h sz (pc + 1) ls (.double (FP.ddiv x y) :: st)) : V g B k n Q h sz pc ls (.double y :: .double x :: st) := by
  obtain ⟨p, l, e, R, s, m, args, below, meth, c⟩ := B
  obtain ⟨hx, hb, hml, hown, hr, hlk, hG, hW, hR, hfl⟩ := hB
  intro H locs A hz hl0
  exact lv_ddiv hx hb hd hne (kk H locs A hz hl0)
theorem V.fdiv (hB : Bd g B cc nL own ret d mc ms) {x y : UInt32} (hd : decode cc pc = .ok (.fdiv, 1)) (hne : vf_n32 (FP.fdiv x y)) (kk : V g B k n Q h sz (pc + 1) ls (.float (FP.fdiv x y) :: st)) : V g B k n Q h sz pc ls (.float y :: .float x :: st) := by
  obtain ⟨p, l, e, R, s, m, args, below, meth, c⟩ := B
  obtain ⟨hx, hb, hml, hown, hr, hlk, hG, hW, hR, hfl⟩ := hB
  intro H locs A hz hl0
  exact lv_fdiv hx hb hd hne (kk H locs A hz hl0)
theorem V.f2d (hB : Bd g B cc nL own ret d mc ms) {x : UInt32} (hd : decode cc pc = .ok (.f2d, 1)) (hne : vf_n64 (FP.f2d x)) (kk : V g B k n Q h sz (pc + 1) ls (.double (FP.f2d x) :: st)) : V g B k n Q h sz pc ls (.float x :: st) := by
  obtain ⟨p, l, e, R, s, m, args, below, meth, c⟩ := B
  obtain ⟨hx, hb, hml, hown, hr, hlk, hG, hW, hR, hfl⟩ := hB
  intro H locs A hz hl0
  exact lv_f2d hx hb hd hne (kk H locs A hz hl0)
theorem V.dcmp (hB : Bd g B cc nL own ret d mc ms) {x y : UInt64} {op : CmpOp} (hd : decode cc pc = .ok (.dcmp op, 1)) (kk : V g B k n Q h sz (pc + 1) ls (.int (Op.cmpValue (FP.dcmp x y) op) :: st)) : V g B k n Q h sz pc ls (.double y :: .double x :: st) := by
  obtain ⟨p, l, e, R, s, m, args, below, meth, c⟩ := B
  obtain ⟨hx, hb, hml, hown, hr, hlk, hG, hW, hR, hfl⟩ := hB
  intro H locs A hz hl0
  exact lv_dcmp hx hb hd (kk H locs A hz hl0)
theorem V.fcmp (hB : Bd g B cc nL own ret d mc ms) {x y : UInt32} {op : CmpOp} (hd : decode cc pc = .ok (.fcmp op, 1)) (kk : V g B k n Q h sz (pc + 1) ls (.int (Op.cmpValue (FP.fcmp x y) op) :: st)) : V g B k n Q h sz pc ls (.float y :: .float x :: st) := by
  obtain ⟨p, l, e, R, s, m, args, below, meth, c⟩ := B
  obtain ⟨hx, hb, hml, hown, hr, hlk, hG, hW, hR, hfl⟩ := hB
  intro H locs A hz hl0
  exact lv_fcmp hx hb hd (kk H locs A hz hl0)
theorem V.lcmp (hB : Bd g B cc nL own ret d mc ms) {x y : Int64} (hd : decode cc pc = .ok (.lcmp, 1)) (kk : V g B k n Q h sz (pc + 1) ls (.int (lg_cmp x y) :: st)) : V g B k n Q h sz pc ls (.long y :: .long x :: st) := by
  obtain ⟨p, l, e, R, s, m, args, below, meth, c⟩ := B
  obtain ⟨hx, hb, hml, hown, hr, hlk, hG, hW, hR, hfl⟩ := hB
  intro H locs A hz hl0
  exact W.lcmp hx hb hd (kk H locs A hz hl0)
theorem V.dup (hB : Bd g B cc nL own ret d mc ms) {va : Value} (hd : decode cc pc = .ok (.dup, 1)) (hva : va.category = 1) (kk : V g B k n Q h sz (pc + 1) ls (va :: va :: st)) : V g B k n Q h sz pc ls (va :: st) := by
  obtain ⟨p, l, e, R, s, m, args, below, meth, c⟩ := B
  obtain ⟨hx, hb, hml, hown, hr, hlk, hG, hW, hR, hfl⟩ := hB
  intro H locs A hz hl0
  exact lv_dup hx hb hd hva (kk H locs A hz hl0)
theorem V.dup2 (hB : Bd g B cc nL own ret d mc ms) {va vb : Value} (hd : decode cc pc = .ok (.dup2, 1)) (hva : va.category = 1) (hvb : vb.category = 1) (kk : V g B k n Q h sz (pc + 1) ls (va :: vb :: va :: vb :: st)) : V g B k n Q h sz pc ls (va :: vb :: st) := by
  obtain ⟨p, l, e, R, s, m, args, below, meth, c⟩ := B
  obtain ⟨hx, hb, hml, hown, hr, hlk, hG, hW, hR, hfl⟩ := hB
  intro H locs A hz hl0
  exact lv_dup2_11 hx hb hd hva hvb (kk H locs A hz hl0)
theorem V.pop (hB : Bd g B cc nL own ret d mc ms) {va : Value} (hd : decode cc pc = .ok (.pop, 1)) (hva : va.category = 1) (kk : V g B k n Q h sz (pc + 1) ls (st)) : V g B k n Q h sz pc ls (va :: st) := by
  obtain ⟨p, l, e, R, s, m, args, below, meth, c⟩ := B
  obtain ⟨hx, hb, hml, hown, hr, hlk, hG, hW, hR, hfl⟩ := hB
  intro H locs A hz hl0
  exact lv_pop hx hb hd hva (kk H locs A hz hl0)
theorem V.goto (hB : Bd g B cc nL own ret d mc ms) {off : Int} {tgt : Nat} (hd : decode cc pc = .ok (.goto off, 3)) (ht : (pc : Int) + off = (tgt : Int)) (kk : V g B k n Q h sz tgt ls (st)) : V g B k n Q h sz pc ls (st) := by
  obtain ⟨p, l, e, R, s, m, args, below, meth, c⟩ := B
  obtain ⟨hx, hb, hml, hown, hr, hlk, hG, hW, hR, hfl⟩ := hB
  intro H locs A hz hl0
  exact lv_goto hx hb hd ht (kk H locs A hz hl0)
theorem V.icmp_eq (hB : Bd g B cc nL own ret d mc ms) {x y : Int32} {off : Int} {tgt : Nat} (hd : decode cc pc = .ok (.if_icmp .eq off, 3)) (ht : (pc : Int) + off = (tgt : Int)) (kt : x = y → V g B k n Q h sz tgt ls st) (kf : ¬ x = y → V g B k n Q h sz (pc + 3) ls st) : V g B k n Q h sz pc ls (.int y :: .int x :: st) := by
  obtain ⟨p, l, e, R, s, m, args, below, meth, c⟩ := B
  obtain ⟨hx, hb, hml, hown, hr, hlk, hG, hW, hR, hfl⟩ := hB
  intro H locs A hz hl0
  exact lv_icmp_eq hx hb hd ht (fun q => kt q H locs A hz hl0) (fun q => kf q H locs A hz hl0)
theorem V.icmp_ne (hB : Bd g B cc nL own ret d mc ms) {x y : Int32} {off : Int} {tgt : Nat} (hd : decode cc pc = .ok (.if_icmp .ne off, 3)) (ht : (pc : Int) + off = (tgt : Int)) (kt : ¬ x = y → V g B k n Q h sz tgt ls st) (kf : x = y → V g B k n Q h sz (pc + 3) ls st) : V g B k n Q h sz pc ls (.int y :: .int x :: st) := by
  obtain ⟨p, l, e, R, s, m, args, below, meth, c⟩ := B
  obtain ⟨hx, hb, hml, hown, hr, hlk, hG, hW, hR, hfl⟩ := hB
  intro H locs A hz hl0
  exact lv_icmp_ne hx hb hd ht (fun q => kt q H locs A hz hl0) (fun q => kf q H locs A hz hl0)
theorem V.icmp_lt (hB : Bd g B cc nL own ret d mc ms) {x y : Int32} {off : Int} {tgt : Nat} (hd : decode cc pc = .ok (.if_icmp .lt off, 3)) (ht : (pc : Int) + off = (tgt : Int)) (kt : x < y → V g B k n Q h sz tgt ls st) (kf : ¬ x < y → V g B k n Q h sz (pc + 3) ls st) : V g B k n Q h sz pc ls (.int y :: .int x :: st) := by
  obtain ⟨p, l, e, R, s, m, args, below, meth, c⟩ := B
  obtain ⟨hx, hb, hml, hown, hr, hlk, hG, hW, hR, hfl⟩ := hB
  intro H locs A hz hl0
  exact lv_icmp_lt hx hb hd ht (fun q => kt q H locs A hz hl0) (fun q => kf q H locs A hz hl0)
theorem V.icmp_ge (hB : Bd g B cc nL own ret d mc ms) {x y : Int32} {off : Int} {tgt : Nat} (hd : decode cc pc = .ok (.if_icmp .ge off, 3)) (ht : (pc : Int) + off = (tgt : Int)) (kt : y ≤ x → V g B k n Q h sz tgt ls st) (kf : ¬ y ≤ x → V g B k n Q h sz (pc + 3) ls st) : V g B k n Q h sz pc ls (.int y :: .int x :: st) := by
  obtain ⟨p, l, e, R, s, m, args, below, meth, c⟩ := B
  obtain ⟨hx, hb, hml, hown, hr, hlk, hG, hW, hR, hfl⟩ := hB
  intro H locs A hz hl0
  exact lv_icmp_ge hx hb hd ht (fun q => kt q H locs A hz hl0) (fun q => kf q H locs A hz hl0)
theorem V.icmp_gt (hB : Bd g B cc nL own ret d mc ms) {x y : Int32} {off : Int} {tgt : Nat} (hd : decode cc pc = .ok (.if_icmp .gt off, 3)) (ht : (pc : Int) + off = (tgt : Int)) (kt : y < x → V g B k n Q h sz tgt ls st) (kf : ¬ y < x → V g B k n Q h sz (pc + 3) ls st) : V g B k n Q h sz pc ls (.int y :: .int x :: st) := by
  obtain ⟨p, l, e, R, s, m, args, below, meth, c⟩ := B
  obtain ⟨hx, hb, hml, hown, hr, hlk, hG, hW, hR, hfl⟩ := hB
  intro H locs A hz hl0
  exact lv_icmp_gt hx hb hd ht (fun q => kt q H locs A hz hl0) (fun q => kf q H locs A hz hl0)
theorem V.icmp_le (hB : Bd g B cc nL own ret d mc ms) {x y : Int32} {off : Int} {tgt : Nat} (hd : decode cc pc = .ok (.if_icmp .le off, 3)) (ht : (pc : Int) + off = (tgt : Int)) (kt : x ≤ y → V g B k n Q h sz tgt ls st) (kf : ¬ x ≤ y → V g B k n Q h sz (pc + 3) ls st) : V g B k n Q h sz pc ls (.int y :: .int x :: st) := by
  obtain ⟨p, l, e, R, s, m, args, below, meth, c⟩ := B
  obtain ⟨hx, hb, hml, hown, hr, hlk, hG, hW, hR, hfl⟩ := hB
  intro H locs A hz hl0
  exact lv_icmp_le hx hb hd ht (fun q => kt q H locs A hz hl0) (fun q => kf q H locs A hz hl0)
theorem V.if_eq (hB : Bd g B cc nL own ret d mc ms) {x : Int32} {off : Int} {tgt : Nat} (hd : decode cc pc = .ok (.ifCond .eq off, 3)) (ht : (pc : Int) + off = (tgt : Int)) (kt : x = 0 → V g B k n Q h sz tgt ls st) (kf : ¬ x = 0 → V g B k n Q h sz (pc + 3) ls st) : V g B k n Q h sz pc ls (.int x :: st) := by
  obtain ⟨p, l, e, R, s, m, args, below, meth, c⟩ := B
  obtain ⟨hx, hb, hml, hown, hr, hlk, hG, hW, hR, hfl⟩ := hB
  intro H locs A hz hl0
  exact lv_if_eq hx hb hd ht (fun q => kt q H locs A hz hl0) (fun q => kf q H locs A hz hl0)
theorem V.if_ne (hB : Bd g B cc nL own ret d mc ms) {x : Int32} {off : Int} {tgt : Nat} (hd : decode cc pc = .ok (.ifCond .ne off, 3)) (ht : (pc : Int) + off = (tgt : Int)) (kt : ¬ x = 0 → V g B k n Q h sz tgt ls st) (kf : x = 0 → V g B k n Q h sz (pc + 3) ls st) : V g B k n Q h sz pc ls (.int x :: st) := by
  obtain ⟨p, l, e, R, s, m, args, below, meth, c⟩ := B
  obtain ⟨hx, hb, hml, hown, hr, hlk, hG, hW, hR, hfl⟩ := hB
  intro H locs A hz hl0
  exact lv_if_ne hx hb hd ht (fun q => kt q H locs A hz hl0) (fun q => kf q H locs A hz hl0)
theorem V.if_lt (hB : Bd g B cc nL own ret d mc ms) {x : Int32} {off : Int} {tgt : Nat} (hd : decode cc pc = .ok (.ifCond .lt off, 3)) (ht : (pc : Int) + off = (tgt : Int)) (kt : x < 0 → V g B k n Q h sz tgt ls st) (kf : ¬ x < 0 → V g B k n Q h sz (pc + 3) ls st) : V g B k n Q h sz pc ls (.int x :: st) := by
  obtain ⟨p, l, e, R, s, m, args, below, meth, c⟩ := B
  obtain ⟨hx, hb, hml, hown, hr, hlk, hG, hW, hR, hfl⟩ := hB
  intro H locs A hz hl0
  exact lv_if_lt hx hb hd ht (fun q => kt q H locs A hz hl0) (fun q => kf q H locs A hz hl0)
theorem V.if_ge (hB : Bd g B cc nL own ret d mc ms) {x : Int32} {off : Int} {tgt : Nat} (hd : decode cc pc = .ok (.ifCond .ge off, 3)) (ht : (pc : Int) + off = (tgt : Int)) (kt : 0 ≤ x → V g B k n Q h sz tgt ls st) (kf : ¬ 0 ≤ x → V g B k n Q h sz (pc + 3) ls st) : V g B k n Q h sz pc ls (.int x :: st) := by
  obtain ⟨p, l, e, R, s, m, args, below, meth, c⟩ := B
  obtain ⟨hx, hb, hml, hown, hr, hlk, hG, hW, hR, hfl⟩ := hB
  intro H locs A hz hl0
  exact lv_if_ge hx hb hd ht (fun q => kt q H locs A hz hl0) (fun q => kf q H locs A hz hl0)
theorem V.if_gt (hB : Bd g B cc nL own ret d mc ms) {x : Int32} {off : Int} {tgt : Nat} (hd : decode cc pc = .ok (.ifCond .gt off, 3)) (ht : (pc : Int) + off = (tgt : Int)) (kt : 0 < x → V g B k n Q h sz tgt ls st) (kf : ¬ 0 < x → V g B k n Q h sz (pc + 3) ls st) : V g B k n Q h sz pc ls (.int x :: st) := by
  obtain ⟨p, l, e, R, s, m, args, below, meth, c⟩ := B
  obtain ⟨hx, hb, hml, hown, hr, hlk, hG, hW, hR, hfl⟩ := hB
  intro H locs A hz hl0
  exact lv_if_gt hx hb hd ht (fun q => kt q H locs A hz hl0) (fun q => kf q H locs A hz hl0)
theorem V.if_le (hB : Bd g B cc nL own ret d mc ms) {x : Int32} {off : Int} {tgt : Nat} (hd : decode cc pc = .ok (.ifCond .le off, 3)) (ht : (pc : Int) + off = (tgt : Int)) (kt : x ≤ 0 → V g B k n Q h sz tgt ls st) (kf : ¬ x ≤ 0 → V g B k n Q h sz (pc + 3) ls st) : V g B k n Q h sz pc ls (.int x :: st) := by
  obtain ⟨p, l, e, R, s, m, args, below, meth, c⟩ := B
  obtain ⟨hx, hb, hml, hown, hr, hlk, hG, hW, hR, hfl⟩ := hB
  intro H locs A hz hl0
  exact lv_if_le hx hb hd ht (fun q => kt q H locs A hz hl0) (fun q => kf q H locs A hz hl0)
theorem V.tsw_in (hB : Bd g B cc nL own ret d mc ms) {dflt lo hi : Int} {offs : Array Int} {len : Nat} {x : Int32} {off : Int} {tgt : Nat} (hd : decode cc pc = .ok (.tableswitch dflt lo hi offs, len)) (h1 : ¬ x.toInt < lo) (h2 : ¬ hi < x.toInt) (ho : offs[(x.toInt - lo).toNat]? = some off) (ht : (pc : Int) + off = (tgt : Int)) (kk : V g B k n Q h sz tgt ls st) : V g B k n Q h sz pc ls (.int x :: st) := by
  obtain ⟨p, l, e, R, s, m, args, below, meth, c⟩ := B
  obtain ⟨hx, hb, hml, hown, hr, hlk, hG, hW, hR, hfl⟩ := hB
  intro H locs A hz hl0
  exact lv_tableIn hx hb hd h1 h2 ho ht (kk H locs A hz hl0)
theorem V.tsw_out (hB : Bd g B cc nL own ret d mc ms) {dflt lo hi : Int} {offs : Array Int} {len : Nat} {x : Int32} {tgt : Nat} (hd : decode cc pc = .ok (.tableswitch dflt lo hi offs, len)) (h1 : x.toInt < lo ∨ hi < x.toInt) (ht : (pc : Int) + dflt = (tgt : Int)) (kk : V g B k n Q h sz tgt ls st) : V g B k n Q h sz pc ls (.int x :: st) := by
  obtain ⟨p, l, e, R, s, m, args, below, meth, c⟩ := B
  obtain ⟨hx, hb, hml, hown, hr, hlk, hG, hW, hR, hfl⟩ := hB
  intro H locs A hz hl0
  exact lv_tableOut hx hb hd h1 ht (kk H locs A hz hl0)
end VR
end
section
/-! rows of V that read and write our cells -/
def FK (ci : Nat) (C : String) (T : u_T) (N : Nat) (ty : Nat → FieldType) : Prop := xcl[ci]? = some (C, T, N) ∧ (∀ w ∈ u_ws C T N, WD w) ∧ (∀ k, k < N → parseFieldDescriptor (T k).2.2.1 = some (ty k)) ∧ ∀ a, a < N → ∀ b, b < N → a ≠ b → (T a).2.1 ≠ (T b).2.1
theorem RZ.put {g : xG} {h h' : xH} {sz : Nat} {H H' : Heap} {locs : List Loc} {a i : Nat} {e : va_E} (hz : RZ g h sz H locs) (e2 : H'.size = H.size) (e3 : ∀ q, q ≠ a → H'[q]? = H[q]?) (ha : g.1.heap.size ≤ a) (hat : va_at g.2.1 xcl (a, e) H') (h1 : h' a = some e) (h2 : ∀ q, q ≠ a → h' q = h q) : RZ g h' sz H' (locs ++ [⟨a, i⟩]) := by
  obtain ⟨z1, z2, z3, z4, z5⟩ := hz
  refine ⟨by rw [e2]; exact z1, z2, fun q hq => ?_, fun q x hx => ?_, fun z hm => ?_⟩
  · rw [e3 q (by omega)]
    exact z3 q hq
  · by_cases hqa : q = a
    · subst hqa
      rw [h1] at hx
      cases hx
      exact ⟨ha, hat⟩
    · rw [h2 q hqa] at hx
      exact ⟨(z4 q x hx).1, (z4 q x hx).2.kept (e3 q hqa)⟩
  · rcases List.mem_append.mp hm with hm | hm
    · exact z5 z hm
    · have : z = ⟨a, i⟩ := by simpa using hm
      rw [this]
      exact ha
theorem RZ.new {g : xG} {h h' : xH} {sz : Nat} {H H' : Heap} {locs : List Loc} {e : va_E} (hz : RZ g h sz H locs) (e2 : H'.size = sz + 1) (e3 : ∀ q, q < sz → H'[q]? = H[q]?) (hat : va_at g.2.1 xcl (sz, e) H') (h1 : h' sz = some e) (h2 : ∀ q, q ≠ sz → h' q = h q) : RZ g h' (sz + 1) H' locs := by
  obtain ⟨z1, z2, z3, z4, z5⟩ := hz
  refine ⟨e2, by omega, fun q hq => ?_, fun q x hx => ?_, z5⟩
  · rw [e3 q (by omega)]
    exact z3 q hq
  · by_cases hqa : q = sz
    · subst hqa
      rw [h1] at hx
      cases hx
      exact ⟨z2, hat⟩
    · rw [h2 q hqa] at hx
      have hl := (z4 q x hx).2.lt
      dsimp only at hl
      exact ⟨(z4 q x hx).1, (z4 q x hx).2.kept (e3 q (by omega))⟩
theorem FK.hts {g : xG} {ci N : Nat} {C : String} {T : u_T} {ty : Nat → FieldType} (hF : FK ci C T N ty) (hG : GK g) {s : State} (hW : g.1.WarmedH s.vm) (args : Array Value) : ∀ w ∈ u_ws C T N, w.before args s = true := fun w hw => (hF.2.1 w hw).of hG args hW
theorem GK.kn {g : xG} (hG : GK g) {s : State} (hW : g.1.WarmedH s.vm) : va_K g.2.1 xcl (xtys g) s := hG.2.moved hW.alike
section VH
variable {g : xG} {B : BT} {k n : Nat} {Q : State → Prop} {h : xH} {sz pc : Nat} {ls : List (Option Value)} {st : List Value} {cc : ByteArray} {nL : Nat} {own : String} {ret : Option FieldType} {d mc ms : Nat}
theorem V.get (hB : Bd g B cc nL own ret d mc ms) {ci N idx a : Nat} {C : String} {T : u_T} {ty : Nat → FieldType} {fs : List Value} {v : Value} (hF : FK ci C T N ty) (f : Nat) (hlink : WD (.fieldLink own idx (T f).1 (T f).2.1 (T f).2.2.1)) (hd : decode cc pc = .ok (.getfield idx, 3)) (hf : f < N) (he : h a = some (.inr (ci, fs))) (hv : fs[f]? = some v) (kk : V g B k n Q h sz (pc + 3) ls (v :: st)) : V g B k n Q h sz pc ls (.ref a :: st) := by
  obtain ⟨p, l, e, R, s, m, args, below, meth, c⟩ := B
  obtain ⟨hx, hb, hml, hown, hr, hlk, hG, hW, hR, hfl⟩ := hB
  intro H locs A hz hl0
  have hP : va_P g.2.1 xcl [(a, .inr (ci, fs))] H := fun q x hq => by
    cases q with
    | zero => cases hq; exact (hz.2.2.2.1 a _ he).2
    | succ q => cases hq
  exact va_get hx hb (hF.hts hG hW args) (fun _ h => h) hown (hG.kn hW) hP 0 rfl hF.1 f hf (hlink.of hG args hW) (fun _ h => h) hv hd (kk H locs A hz hl0)
theorem V.put (hB : Bd g B cc nL own ret d mc ms) {ci N idx a : Nat} {C : String} {T : u_T} {ty : Nat → FieldType} {fs : List Value} {v : Value} (hF : FK ci C T N ty) (f : Nat) (hlink : WD (.fieldLink own idx (T f).1 (T f).2.1 (T f).2.2.1)) (hd : decode cc pc = .ok (.putfield idx, 3)) (hf : f < N) (hfin : (T f).2.2.2 = false) (he : h a = some (.inr (ci, fs))) (hl : f < fs.length) (hn : narrow (ty f) v = v) (hfit : fits (ty f) v = true) {h' : xH} (h1 : h' a = some (.inr (ci, fs.set f v))) (h2 : ∀ q, q ≠ a → h' q = h q) (kk : V g B k n Q h' sz (pc + 3) ls st) : V g B k n Q h sz pc ls (v :: .ref a :: st) := by
  obtain ⟨p, l, e, R, s, m, args, below, meth, c⟩ := B
  obtain ⟨hx, hb, hml, hown, hr, hlk, hG, hW, hR, hfl⟩ := hB
  intro H locs A hz hl0
  have hts := hF.hts hG hW args
  have hK := hG.kn hW
  obtain ⟨hc, -, hty, hnm⟩ := hF
  have hap := va_apart (own := own) hts (fun _ h => h) ty hty hnm hK hc
  obtain ⟨ha, hat⟩ := hz.2.2.2.1 a _ he
  obtain ⟨r, g1, cell, q1, q2, q3, q4⟩ := hat
  have hr9 : r = (C, T, N) := Option.some.inj (g1.symm.trans hc)
  subst hr9
  obtain ⟨hS, hfc, kC, hkC, hkind⟩ := hK.1 ci _ hc
  obtain ⟨cf, kf, fi, fd, hi, hsl⟩ := hS f hf
  have hlay := hts _ (u_in_lay hf)
  unfold u_lay at hlay
  rw [if_neg (by rw [hfin]; decide)] at hlay
  have hst := (u_facts hfc hkC (u_lays hts (fun _ h => h) hf) hi).1
  have h6 := u_store hfc hkC hkind hlay hi (hty f hf) hn hfit
  refine W.putK hx hb (f := fd) ⟨hown, hlink.of hG args hW, ⟨_, _, _, hi⟩, hst⟩ (by rw [q2]; exact h6) q1 q3 (by rw [hsl]; exact k2_hasslot (q4 f hf)) rfl rfl hd fun H' e1 e2 e3 => ?_
  rw [hsl] at e1 ⊢
  exact kk H' _ A (hz.put (e := .inr (ci, fs.set f v)) e2 e3 ha ⟨_, hc, t_OB.to (V := updV (vp_V fs) f v) ⟨_, e1, q2, q3, t_set q4 hap hf v⟩ (fun j _ => vp_updV_set hl v j)⟩ h1 h2) hl0
theorem V.putF (hB : Bd g B cc nL own ret d mc ms) (hini : ∀ p l e R s m args below meth c, B = (p, l, e, R, s, m, args, below, meth, c) → meth.name = "<init>") {ci N idx a : Nat} {C : String} {T : u_T} {ty : Nat → FieldType} {fs : List Value} {v : Value} (hF : FK ci C T N ty) (f : Nat) (hlink : WD (.fieldLink own idx (T f).1 (T f).2.1 (T f).2.2.1)) (hd : decode cc pc = .ok (.putfield idx, 3)) (hf : f < N) (hfin : (T f).2.2.2 = true) (hdecl : (T f).1 = own) (he : h a = some (.inr (ci, fs))) (hl : f < fs.length) (hn : narrow (ty f) v = v) (hfit : fits (ty f) v = true) {h' : xH} (h1 : h' a = some (.inr (ci, fs.set f v))) (h2 : ∀ q, q ≠ a → h' q = h q) (kk : V g B k n Q h' sz (pc + 3) ls st) : V g B k n Q h sz pc ls (v :: .ref a :: st) := by
  obtain ⟨p, l, e, R, s, m, args, below, meth, c⟩ := B
  obtain ⟨hx, hb, hml, hown, hr, hlk, hG, hW, hR, hfl⟩ := hB
  have hin2 := hini _ _ _ _ _ _ _ _ _ _ rfl
  intro H locs A hz hl0
  have hts := hF.hts hG hW args
  have hK := hG.kn hW
  obtain ⟨hc, -, hty, hnm⟩ := hF
  have hap := va_apart (own := own) hts (fun _ h => h) ty hty hnm hK hc
  obtain ⟨ha, hat⟩ := hz.2.2.2.1 a _ he
  obtain ⟨r, g1, cell, q1, q2, q3, q4⟩ := hat
  have hr9 : r = (C, T, N) := Option.some.inj (g1.symm.trans hc)
  subst hr9
  obtain ⟨hS, hfc, kC, hkC, hkind⟩ := hK.1 ci _ hc
  obtain ⟨cf, kf, fi, fd, hi, hsl⟩ := hS f hf
  have hlay := hts _ (u_in_lay hf)
  unfold u_lay at hlay
  rw [if_pos hfin] at hlay
  have hst := (u_facts hfc hkC (u_lays hts (fun _ h => h) hf) hi).1
  have hcf : m.cls = cf := by
    obtain ⟨_, _, c', _, _, _, -, -, hf', -, -, -, hown2, -⟩ := Cond.laysFinal_spec hlay
    have e1 : c' = cf := by have := hi.symm.trans hf'; simp at this; exact this.1.symm
    rw [hdecl] at hown2
    rw [← e1]; exact Option.some.inj (hown.symm.trans hown2)
  have h6 := u_fits hfc hkC hkind (Or.inr hlay) hi (hty f hf) hn hfit
  refine W.putFinK hx hb hown (hlink.of hG args hW) hi hst hcf hin2 (by rw [q2]; exact h6) q1 q3 (by rw [hsl]; exact k2_hasslot (q4 f hf)) rfl rfl hd fun H' e1 e2 e3 => ?_
  rw [hsl] at e1 ⊢
  exact kk H' _ A (hz.put (e := .inr (ci, fs.set f v)) e2 e3 ha ⟨_, hc, t_OB.to (V := updV (vp_V fs) f v) ⟨_, e1, q2, q3, t_set q4 hap hf v⟩ (fun j _ => vp_updV_set hl v j)⟩ h1 h2) hl0
theorem V.alen (hB : Bd g B cc nL own ret d mc ms) {a t : Nat} {ty : FieldType} {x : vp_A} {cA : ClassId} {v : Int32} (ht : (xtys g)[t]? = some (cA, ty)) (hd : decode cc pc = .ok (.arraylength, 1)) (he : h a = some (.inl (cA, x))) (hv : Int32.ofNat x.1 = v) (kk : V g B k n Q h sz (pc + 1) ls (.int v :: st)) : V g B k n Q h sz pc ls (.ref a :: st) := by
  obtain ⟨p, l, e, R, s, m, args, below, meth, c⟩ := B
  obtain ⟨hx, hb, hml, hown, hr, hlk, hG, hW, hR, hfl⟩ := hB
  intro H locs A hz hl0
  have hP : va_P g.2.1 xcl [(a, .inl (cA, x))] H := fun q y hq => by
    cases q with
    | zero => cases hq; exact (hz.2.2.2.1 a _ he).2
    | succ q => cases hq
  exact va_alen hx hb (hG.kn hW) hP 0 t rfl ht hv hd (kk H locs A hz hl0)
theorem V.aald (hB : Bd g B cc nL own ret d mc ms) {a t b N : Nat} {cA : ClassId} {C : String} {f : Nat → Option Nat} {i : Int32} (ht : (xtys g)[t]? = some (cA, .object C)) (hd : decode cc pc = .ok (.aaload, 1)) (he : h a = some (.inl (cA, N, .inr (.inr (.inr (.inr f)))))) (hin : vp_in i N) (hv : f i.toNatClampNeg = some b) (kk : V g B k n Q h sz (pc + 1) ls (.ref b :: st)) : V g B k n Q h sz pc ls (.int i :: .ref a :: st) := by
  obtain ⟨p, l, e, R, s, m, args, below, meth, c⟩ := B
  obtain ⟨hx, hb, hml, hown, hr, hlk, hG, hW, hR, hfl⟩ := hB
  intro H locs A hz hl0
  have hP : va_P g.2.1 xcl [(a, .inl (cA, N, .inr (.inr (.inr (.inr f)))))] H := fun q y hq => by
    cases q with
    | zero => cases hq; exact (hz.2.2.2.1 a _ he).2
    | succ q => cases hq
  refine va_aldq hx hb (hG.kn hW) hP 0 t rfl ht hin hd ?_
  rw [hv]
  exact kk H locs A hz hl0
theorem V.iald (hB : Bd g B cc nL own ret d mc ms) {a N : Nat} {f : Nat → Int32} {i : Int32} (hd : decode cc pc = .ok (.iaload, 1)) (he : h a = some (.inl (g.2.2.1 0, N, .inl f))) (hin : vp_in i N) (kk : V g B k n Q h sz (pc + 1) ls (.int (f i.toNatClampNeg) :: st)) : V g B k n Q h sz pc ls (.int i :: .ref a :: st) := by
  obtain ⟨p, l, e, R, s, m, args, below, meth, c⟩ := B
  obtain ⟨hx, hb, hml, hown, hr, hlk, hG, hW, hR, hfl⟩ := hB
  intro H locs A hz hl0
  have hP : va_P g.2.1 xcl [(a, .inl (g.2.2.1 0, N, .inl f))] H := fun q y hq => by
    cases q with
    | zero => cases hq; exact (hz.2.2.2.1 a _ he).2
    | succ q => cases hq
  exact va_iald hx hb (hG.kn hW) hP 0 0 rfl rfl hin hd (kk H locs A hz hl0)
theorem V.cald (hB : Bd g B cc nL own ret d mc ms) {a N : Nat} {f : Nat → Int32} {i : Int32} (hd : decode cc pc = .ok (.caload, 1)) (he : h a = some (.inl (g.2.2.1 1, N, .inl f))) (hin : vp_in i N) (kk : V g B k n Q h sz (pc + 1) ls (.int (f i.toNatClampNeg) :: st)) : V g B k n Q h sz pc ls (.int i :: .ref a :: st) := by
  obtain ⟨p, l, e, R, s, m, args, below, meth, c⟩ := B
  obtain ⟨hx, hb, hml, hown, hr, hlk, hG, hW, hR, hfl⟩ := hB
  intro H locs A hz hl0
  have hP : va_P g.2.1 xcl [(a, .inl (g.2.2.1 1, N, .inl f))] H := fun q y hq => by
    cases q with
    | zero => cases hq; exact (hz.2.2.2.1 a _ he).2
    | succ q => cases hq
  exact va_cald hx hb (hG.kn hW) hP 0 1 rfl rfl hin hd (kk H locs A hz hl0)
theorem V.bald (hB : Bd g B cc nL own ret d mc ms) {a N : Nat} {f : Nat → Int32} {i : Int32} (hd : decode cc pc = .ok (.baload, 1)) (he : h a = some (.inl (g.2.2.1 4, N, .inl f))) (hin : vp_in i N) (kk : V g B k n Q h sz (pc + 1) ls (.int (f i.toNatClampNeg) :: st)) : V g B k n Q h sz pc ls (.int i :: .ref a :: st) := by
  obtain ⟨p, l, e, R, s, m, args, below, meth, c⟩ := B
  obtain ⟨hx, hb, hml, hown, hr, hlk, hG, hW, hR, hfl⟩ := hB
  intro H locs A hz hl0
  have hP : va_P g.2.1 xcl [(a, .inl (g.2.2.1 4, N, .inl f))] H := fun q y hq => by
    cases q with
    | zero => cases hq; exact (hz.2.2.2.1 a _ he).2
    | succ q => cases hq
  exact va_bald hx hb (hG.kn hW) hP 0 4 rfl rfl hin hd (kk H locs A hz hl0)
theorem V.lald (hB : Bd g B cc nL own ret d mc ms) {a N : Nat} {f : Nat → Int64} {i : Int32} (hd : decode cc pc = .ok (.laload, 1)) (he : h a = some (.inl (g.2.2.1 2, N, .inr (.inl f)))) (hin : vp_in i N) (kk : V g B k n Q h sz (pc + 1) ls (.long (f i.toNatClampNeg) :: st)) : V g B k n Q h sz pc ls (.int i :: .ref a :: st) := by
  obtain ⟨p, l, e, R, s, m, args, below, meth, c⟩ := B
  obtain ⟨hx, hb, hml, hown, hr, hlk, hG, hW, hR, hfl⟩ := hB
  intro H locs A hz hl0
  have hP : va_P g.2.1 xcl [(a, .inl (g.2.2.1 2, N, .inr (.inl f)))] H := fun q y hq => by
    cases q with
    | zero => cases hq; exact (hz.2.2.2.1 a _ he).2
    | succ q => cases hq
  exact va_lald hx hb (hG.kn hW) hP 0 2 rfl rfl hin hd (kk H locs A hz hl0)
theorem V.dald (hB : Bd g B cc nL own ret d mc ms) {a N : Nat} {f : Nat → UInt64} {i : Int32} (hd : decode cc pc = .ok (.daload, 1)) (he : h a = some (.inl (g.2.2.1 3, N, .inr (.inr (.inr (.inl f)))))) (hin : vp_in i N) (kk : V g B k n Q h sz (pc + 1) ls (.double (f i.toNatClampNeg) :: st)) : V g B k n Q h sz pc ls (.int i :: .ref a :: st) := by
  obtain ⟨p, l, e, R, s, m, args, below, meth, c⟩ := B
  obtain ⟨hx, hb, hml, hown, hr, hlk, hG, hW, hR, hfl⟩ := hB
  intro H locs A hz hl0
  have hP : va_P g.2.1 xcl [(a, .inl (g.2.2.1 3, N, .inr (.inr (.inr (.inl f)))))] H := fun q y hq => by
    cases q with
    | zero => cases hq; exact (hz.2.2.2.1 a _ he).2
    | succ q => cases hq
  exact va_dald hx hb (hG.kn hW) hP 0 3 rfl rfl hin hd (kk H locs A hz hl0)
theorem V.iast (hB : Bd g B cc nL own ret d mc ms) {a N : Nat} {f : Nat → Int32} {i : Int32} {x : Int32} (hd : decode cc pc = .ok (.iastore, 1)) (he : h a = some (.inl (g.2.2.1 0, N, .inl f))) (hin : vp_in i N) {h' : xH} (h1 : h' a = some (.inl (g.2.2.1 0, N, .inl (upd f i.toNatClampNeg x)))) (h2 : ∀ q, q ≠ a → h' q = h q) (kk : V g B k n Q h' sz (pc + 1) ls st) : V g B k n Q h sz pc ls (.int x :: .int i :: .ref a :: st) := by
  obtain ⟨p, l, e, R, s, m, args, below, meth, c⟩ := B
  obtain ⟨hx, hb, hml, hown, hr, hlk, hG, hW, hR, hfl⟩ := hB
  intro H locs A hz hl0
  obtain ⟨ha, hat⟩ := hz.2.2.2.1 a _ he
  refine W.iast hx hb (show H[a]? = some (vp_cell _ _) from hat) (((hG.kn hW).2 0 _ rfl).1 N (fun j => .int (f j))) (fun q => by cases q) (by show ¬ (i < 0 ∨ (arrV _ _ _).slots.size ≤ _); rw [arrV_size]; exact hin) rfl rfl hd fun H1 e1 e2 e3 => ?_
  refine kk H1 _ A (hz.put e2 e3 ha ?_ h1 h2) hl0
  show H1[a]? = some (vp_cell _ _)
  rw [e1]
  rw [vp_cell_i, vp_cell_i, arrV_store]
  congr 2
  funext q
  by_cases hq : q = i.toNatClampNeg
  · subst hq
    simp [updV, upd, vp_nar]
    try rfl
  · simp [updV, upd, hq]
theorem V.cast (hB : Bd g B cc nL own ret d mc ms) {a N : Nat} {f : Nat → Int32} {i : Int32} {x : Int32} (hd : decode cc pc = .ok (.castore, 1)) (he : h a = some (.inl (g.2.2.1 1, N, .inl f))) (hin : vp_in i N) {h' : xH} (h1 : h' a = some (.inl (g.2.2.1 1, N, .inl (upd f i.toNatClampNeg (vp_nar .char x))))) (h2 : ∀ q, q ≠ a → h' q = h q) (kk : V g B k n Q h' sz (pc + 1) ls st) : V g B k n Q h sz pc ls (.int x :: .int i :: .ref a :: st) := by
  obtain ⟨p, l, e, R, s, m, args, below, meth, c⟩ := B
  obtain ⟨hx, hb, hml, hown, hr, hlk, hG, hW, hR, hfl⟩ := hB
  intro H locs A hz hl0
  obtain ⟨ha, hat⟩ := hz.2.2.2.1 a _ he
  refine W.cast hx hb (show H[a]? = some (vp_cell _ _) from hat) (((hG.kn hW).2 1 _ rfl).1 N (fun j => .int (f j))) (fun q => by cases q) (by show ¬ (i < 0 ∨ (arrV _ _ _).slots.size ≤ _); rw [arrV_size]; exact hin) rfl rfl hd fun H1 e1 e2 e3 => ?_
  refine kk H1 _ A (hz.put e2 e3 ha ?_ h1 h2) hl0
  show H1[a]? = some (vp_cell _ _)
  rw [e1]
  rw [vp_cell_i, vp_cell_i, arrV_store]
  congr 2
  funext q
  by_cases hq : q = i.toNatClampNeg
  · subst hq
    simp [updV, upd, vp_nar]
    try rfl
  · simp [updV, upd, hq]
theorem V.bast (hB : Bd g B cc nL own ret d mc ms) {a N : Nat} {f : Nat → Int32} {i : Int32} {x : Int32} (hd : decode cc pc = .ok (.bastore, 1)) (he : h a = some (.inl (g.2.2.1 4, N, .inl f))) (hin : vp_in i N) {h' : xH} (h1 : h' a = some (.inl (g.2.2.1 4, N, .inl (upd f i.toNatClampNeg (vp_nar .byte x))))) (h2 : ∀ q, q ≠ a → h' q = h q) (kk : V g B k n Q h' sz (pc + 1) ls st) : V g B k n Q h sz pc ls (.int x :: .int i :: .ref a :: st) := by
  obtain ⟨p, l, e, R, s, m, args, below, meth, c⟩ := B
  obtain ⟨hx, hb, hml, hown, hr, hlk, hG, hW, hR, hfl⟩ := hB
  intro H locs A hz hl0
  obtain ⟨ha, hat⟩ := hz.2.2.2.1 a _ he
  refine W.bast hx hb (show H[a]? = some (vp_cell _ _) from hat) (((hG.kn hW).2 4 _ rfl).1 N (fun j => .int (f j))) (fun q => by cases q) (by show ¬ (i < 0 ∨ (arrV _ _ _).slots.size ≤ _); rw [arrV_size]; exact hin) rfl rfl hd fun H1 e1 e2 e3 => ?_
  refine kk H1 _ A (hz.put e2 e3 ha ?_ h1 h2) hl0
  show H1[a]? = some (vp_cell _ _)
  rw [e1]
  rw [vp_cell_i, vp_cell_i, arrV_store]
  congr 2
  funext q
  by_cases hq : q = i.toNatClampNeg
  · subst hq
    simp [updV, upd, vp_nar]
    try rfl
  · simp [updV, upd, hq]
theorem V.last (hB : Bd g B cc nL own ret d mc ms) {a N : Nat} {f : Nat → Int64} {i : Int32} {x : Int64} (hd : decode cc pc = .ok (.lastore, 1)) (he : h a = some (.inl (g.2.2.1 2, N, .inr (.inl f)))) (hin : vp_in i N) {h' : xH} (h1 : h' a = some (.inl (g.2.2.1 2, N, .inr (.inl (vp_updL f i.toNatClampNeg x))))) (h2 : ∀ q, q ≠ a → h' q = h q) (kk : V g B k n Q h' sz (pc + 1) ls st) : V g B k n Q h sz pc ls (.long x :: .int i :: .ref a :: st) := by
  obtain ⟨p, l, e, R, s, m, args, below, meth, c⟩ := B
  obtain ⟨hx, hb, hml, hown, hr, hlk, hG, hW, hR, hfl⟩ := hB
  intro H locs A hz hl0
  obtain ⟨ha, hat⟩ := hz.2.2.2.1 a _ he
  refine W.last hx hb (show H[a]? = some (vp_cell _ _) from hat) (((hG.kn hW).2 2 _ rfl).1 N (fun j => .long (f j))) (fun q => by cases q) (by show ¬ (i < 0 ∨ (arrV _ _ _).slots.size ≤ _); rw [arrV_size]; exact hin) rfl rfl hd fun H1 e1 e2 e3 => ?_
  refine kk H1 _ A (hz.put e2 e3 ha ?_ h1 h2) hl0
  show H1[a]? = some (vp_cell _ _)
  rw [e1]
  rw [vp_cell_l, vp_cell_l, arrV_store]
  congr 2
  funext q
  by_cases hq : q = i.toNatClampNeg
  · subst hq
    simp [updV, vp_updL, vp_nar]
    try rfl
  · simp [updV, vp_updL, hq]
theorem V.dast (hB : Bd g B cc nL own ret d mc ms) {a N : Nat} {f : Nat → UInt64} {i : Int32} {x : UInt64} (hd : decode cc pc = .ok (.dastore, 1)) (he : h a = some (.inl (g.2.2.1 3, N, .inr (.inr (.inr (.inl f)))))) (hin : vp_in i N) {h' : xH} (h1 : h' a = some (.inl (g.2.2.1 3, N, .inr (.inr (.inr (.inl (vf_upd f i.toNatClampNeg x))))))) (h2 : ∀ q, q ≠ a → h' q = h q) (kk : V g B k n Q h' sz (pc + 1) ls st) : V g B k n Q h sz pc ls (.double x :: .int i :: .ref a :: st) := by
  obtain ⟨p, l, e, R, s, m, args, below, meth, c⟩ := B
  obtain ⟨hx, hb, hml, hown, hr, hlk, hG, hW, hR, hfl⟩ := hB
  intro H locs A hz hl0
  obtain ⟨ha, hat⟩ := hz.2.2.2.1 a _ he
  refine W.dast hx hb (show H[a]? = some (vp_cell _ _) from hat) (((hG.kn hW).2 3 _ rfl).1 N (fun j => .double (f j))) (fun q => by cases q) (by show ¬ (i < 0 ∨ (arrV _ _ _).slots.size ≤ _); rw [arrV_size]; exact hin) rfl rfl hd fun H1 e1 e2 e3 => ?_
  refine kk H1 _ A (hz.put e2 e3 ha ?_ h1 h2) hl0
  show H1[a]? = some (vp_cell _ _)
  rw [e1]
  rw [vp_cell_d, vp_cell_d, arrV_store]
  congr 2
  funext q
  by_cases hq : q = i.toNatClampNeg
  · subst hq
    simp [updV, vf_upd, vp_nar]
    try rfl
  · simp [updV, vf_upd, hq]
end VH
end
section
/-! contracts, their making, their ends, their calls -/
def Hr (g : xG) (h : xH) (sz : Nat) (U : State) : Prop := g.1.WarmedH U.vm ∧ RZ g h sz U.heap []
def xFree (g : xG) : Addr → Prop := fun q => g.1.heap.size ≤ q
def xPc (g : xG) (av : List Value) (h : xH) (sz : Nat) : Array Value → State → Prop := fun a U => a = av.toArray ∧ Hr g h sz U
def xQc (g : xG) (Qr : Option Value → xH → Nat → Prop) : Array Value → State → Outcome → State → Prop := fun _ _ oc t => ∃ (v : Option Value) (h' : xH) (sz' : Nat), oc = .returned v ∧ Qr v h' sz' ∧ Hr g h' sz' t
def xXC (g : xG) (Qx : String → xH → Nat → Prop) : String → State → State → Prop := fun E _ t => ∃ (h' : xH) (sz' : Nat), Qx E h' sz' ∧ RZ g h' sz' t.heap []
/-- THE CONTRACT of a method: from these arguments over h it returns as Qr says, or throws as Qx says -/
def Ct (g : xG) (y : MethodName) (w0 : Cond) (d mc ms : Nat) (av : List Value) (h : xH) (sz : Nat) (Qr : Option Value → xH → Nat → Prop) (Qx : String → xH → Nat → Prop) : Prop :=
  ∀ l : Launch, l.flags = flags0 → vx_Met l y [w0] (xRm d mc ms) (xPc g av h sz) (xQc g Qr) (xXC g Qx) mc ms (xFree g)
/-- what a body owes at its end -/
def QE (g : xG) (B : BT) (mc ms : Nat) (Qr : Option Value → xH → Nat → Prop) (Qx : String → xH → Nat → Prop) : State → Prop := match B with
  | (_, _, _, _, s, _, args, below, _, _) => vx_MQ below (xQc g Qr) (xXC g Qx) args s mc ms (xFree g)
/-- the body's table of handlers; whether it is a constructor -/
def Bx (B : BT) (hh : List (Nat × Nat × Nat × Nat)) : Prop := match B with
  | (_, _, _, _, _, _, _, _, _, c) => c.exceptionTable.toList = tableOf hh
def Bi (B : BT) : Prop := match B with
  | (_, _, _, _, _, _, _, _, meth, _) => meth.name = "<init>"
/-- the locals at a method's entry -/
def ls0 (av : List Value) (nL : Nat) : List (Option Value) := av.map some ++ List.replicate (nL - av.length) none
theorem lg_sl_1 : ∀ {av : List Value}, av.all (fun v => v.category == 1) = true → lg_sl av = av.map Slot.val
  | [], _ => rfl
  | v :: r, h => by
    rw [List.all_cons, Bool.and_eq_true] at h
    have h1 : v.category = 1 := by simpa using h.1
    have h2 := lg_sl_1 h.2
    unfold lg_sl at h2 ⊢
    rw [List.flatMap_cons, h2, if_neg (by rw [h1]; decide)]
    rfl
theorem LH.entry {av : List Value} {nL : Nat} (h1 : av.all (fun v => v.category == 1) = true) (h2 : av.length ≤ nL) : LH ((lg_sl av ++ List.replicate (nL - (lg_sl av).length) Slot.unset).toArray) nL (ls0 av nL) := by
  have hlen : (lg_sl av).length = av.length := by rw [lg_sl_1 h1, List.length_map]
  have h := lv_entry av (n := nL) (by rw [hlen]; exact h2)
  refine ⟨h.1, h.2.1, fun i v hv => ?_⟩
  unfold ls0 at hv
  rw [List.getElem?_append] at hv
  split at hv
  · rename_i hi
    rw [List.getElem?_map] at hv
    rw [List.getElem?_toArray, List.getElem?_append_left (by rw [hlen]; simpa using hi), lg_sl_1 h1, List.getElem?_map]
    cases ha : av[i]? with
    | none => rw [ha] at hv; cases hv
    | some w =>
      rw [ha] at hv
      cases hv
      rfl
  · rw [List.getElem?_replicate] at hv
    split at hv <;> cases hv
theorem Hr.blind {g : xG} {h : xH} {sz : Nat} {U : State} {fr : JFrame} {mk : MethodId} {a : Array Value} (hH : Hr g h sz U) : Hr g h sz (U.calling fr mk a) := hH
theorem xPc.blind {g : xG} {av : List Value} {h : xH} {sz : Nat} : FrameBlind (xPc g av h sz) := fun _ _ _ _ hp => ⟨hp.1, Hr.blind hp.2⟩
theorem RZ.locs {g : xG} {h : xH} {sz : Nat} {H : Heap} {l1 l2 : List Loc} (hz : RZ g h sz H l1) (hl : ∀ z ∈ l2, g.1.heap.size ≤ z.base) : RZ g h sz H l2 := ⟨hz.1, hz.2.1, hz.2.2.1, hz.2.2.2.1, hl⟩
/-- a contract out of its body -/
theorem Ct.mk {g : xG} (hG : GK g) {y : MethodName} {cc : ByteArray} {nL : Nat} {ret : Option FieldType} {d mc ms : Nat} {av : List Value} {h : xH} {sz : Nat} {Qr : Option Value → xH → Nat → Prop} {Qx : String → xH → Nat → Prop} (own : String) (hown : y.cls = own) (hy : plainName y.cls = true) (h1 : av.all (fun v => v.category == 1) = true) (h2 : av.length ≤ nL)
    (body : ∀ B : BT, Bd g B cc nL own ret d mc ms → Bx B [] → (y.name = "<init>" → Bi B) → V g B 0 0 (QE g B mc ms Qr Qx) h sz 0 (ls0 av nL) []) : Ct g y (.code y cc nL ret) d mc ms av h sz Qr Qx := by
  subst hown
  intro l hfl
  refine vx_ofW (cc := cc) (maxL := nL) (ret := ret) (ws' := []) hy rfl ?_
  intro p e s m args below meth c s₁ B hml ht hv
  obtain ⟨rfl, hW, hz⟩ := hv
  have hbd : Bd g (p, l, e, (headSpec [.code y cc nL ret] (xRm d mc ms)).room, s, m, av.toArray, below, meth, c) cc nL y.cls ret d mc ms := ⟨B.exec, B.bytes, hml, findClass_of_methodNamed B.named, B.returns, B.notSynchronized, hG, hW, rfl, hfl⟩
  have hk := body _ hbd (by
    show c.exceptionTable.toList = []
    cases hc : c.exceptionTable.toList with
    | nil => rfl
    | cons x r => exact (ht x (by rw [hc]; exact List.mem_cons_self)).elim) (fun hn => (name_of_methodNamed B.named B.method).1.trans hn)
  have := hk s.heap [] ((lg_sl av ++ List.replicate (nL - (lg_sl av).length) Slot.unset).toArray) hz (by rw [hml]; exact LH.entry h1 h2)
  rw [lg_entry_eq]
  exact this
section VE
variable {g : xG} {B : BT} {k n : Nat} {Q : State → Prop} {h : xH} {sz pc : Nat} {ls : List (Option Value)} {st : List Value} {cc : ByteArray} {nL : Nat} {own : String} {ret : Option FieldType} {d mc ms : Nat} {Qr : Option Value → xH → Nat → Prop} {Qx : String → xH → Nat → Prop}
theorem V.zret (hB : Bd g B cc nL own ret d mc ms) {v : Int32} {ty : FieldType} (hd : decode cc pc = .ok (.ireturn, 1)) (hr : ret = some ty) (hn : narrow ty (.int v) = .int v) (hq : Qr (some (.int v)) h sz) : V g B mc ms (QE g B mc ms Qr Qx) h sz pc ls [.int v] := by
  obtain ⟨p, l, e, R, s, m, args, below, meth, c⟩ := B
  obtain ⟨hx, hb, hml, hown, hr9, hlk, hG, hW, hR, hfl⟩ := hB
  intro H locs A hz hl0
  exact vx_ret (W.zret (v := v) hx hb (hr9.trans hr) hn (fun t ht hWt => ⟨_, h, sz, rfl, hq, State.WarmedH.trans hW hWt, by rw [ht]; exact hz.locs (fun _ h => by cases h)⟩) hz.2.2.2.2 hd hlk)
theorem V.iret (hB : Bd g B cc nL own ret d mc ms) {v : Int32} (hd : decode cc pc = .ok (.ireturn, 1)) (hr : ret = some .int) (hq : Qr (some (.int v)) h sz) : V g B mc ms (QE g B mc ms Qr Qx) h sz pc ls [.int v] := V.zret hB hd hr rfl hq
theorem V.vret (hB : Bd g B cc nL own ret d mc ms) (hd : decode cc pc = .ok (.return_, 1)) (hr : ret = none) (hq : Qr none h sz) : V g B mc ms (QE g B mc ms Qr Qx) h sz pc ls [] := by
  obtain ⟨p, l, e, R, s, m, args, below, meth, c⟩ := B
  obtain ⟨hx, hb, hml, hown, hr9, hlk, hG, hW, hR, hfl⟩ := hB
  intro H locs A hz hl0
  exact vx_ret (W.vret hx hb (hr9.trans hr) (fun t ht hWt => ⟨_, h, sz, rfl, hq, State.WarmedH.trans hW hWt, by rw [ht]; exact hz.locs (fun _ h => by cases h)⟩) hz.2.2.2.2 hd hlk)
theorem V.aret (hB : Bd g B cc nL own ret d mc ms) {a : Nat} {rt : FieldType} (hd : decode cc pc = .ok (.areturn, 1)) (hr : ret = some rt) (hrt : (∃ n, rt = .object n) ∨ ∃ t, rt = .array t) (hq : Qr (some (.ref a)) h sz) : V g B mc ms (QE g B mc ms Qr Qx) h sz pc ls [.ref a] := by
  obtain ⟨p, l, e, R, s, m, args, below, meth, c⟩ := B
  obtain ⟨hx, hb, hml, hown, hr9, hlk, hG, hW, hR, hfl⟩ := hB
  intro H locs A hz hl0
  exact vx_ret (W.aret hx hb (hr9.trans hr) hrt (Or.inr ⟨a, rfl⟩) (fun t ht hWt => ⟨_, h, sz, rfl, hq, State.WarmedH.trans hW hWt, by rw [ht]; exact hz.locs (fun _ h => by cases h)⟩) hz.2.2.2.2 hd hlk)
/-- E is thrown here -/
def VX (g : xG) (B : BT) (k n : Nat) (Q : State → Prop) (h : xH) (sz pc : Nat) (ls : List (Option Value)) (E : String) : Prop := match B with
  | (p, l, e, R, s, m, args, below, meth, c) => ∀ (H : Heap) (locs : List Loc) (A : Array Slot) (st : List Value) (ce : Cell) (q : Addr), RZ g h sz H locs → LH A c.maxLocals ls → H[q]? = some ce → ce.vm = .none → s.vm.findClass E = some ce.cls → vx_W p l e R s m args below meth c H locs k n Q (F0 m pc A st) q
/-- not caught here -/
theorem VX.out (hB : Bd g B cc nL own ret d mc ms) (hX : Bx B []) {E : String} (hk : k ≤ mc) (hn : n ≤ ms) (hq : Qx E h sz) : VX g B k n (QE g B mc ms Qr Qx) h sz pc ls E := by
  obtain ⟨p, l, e, R, s, m, args, below, meth, c⟩ := B
  obtain ⟨hx, hb, hml, hown, hr9, hlk, hG, hW, hR, hfl⟩ := hB
  intro H locs A st ce q hz hl0 h1 h2 h3
  exact vx_out (E := E) (by have hX : c.exceptionTable.toList = tableOf [] := hX; intro x hx; rw [hX] at hx; cases hx) hlk h1 h2 h3 (fun t ht hal => ⟨h, sz, hq, by rw [ht]; exact hz.locs (fun _ h => by cases h)⟩) hz.2.2.2.2 hk hn
/-- a call, its answer, or its throw -/
theorem V.ofRun (hB : Bd g B cc nL own ret d mc ms) {av : List Value} {sz0 : Nat} {h0 : xH} {mc' ms' : Nat} {Qr' : Option Value → xH → Nat → Prop} {Qx' : String → xH → Nat → Prop} {st0 : List Value}
    (hr : ∀ p l e R s m args below meth c H locs A, B = (p, l, e, R, s, m, args, below, meth, c) → RZ g h sz H locs → LH A c.maxLocals ls → vx_Run p l e R s m args below meth c H locs k n mc' ms' (F0 m pc A st0) st (xQc g Qr' av.toArray) (xXC g Qx') (xFree g))
    (kx : ∀ (E : String) (h' : xH) (sz' : Nat), Qx' E h' sz' → VX g B (k + mc') (n + ms') Q h' sz' pc ls E)
    (kk : ∀ (v : Option Value) (h' : xH) (sz' : Nat), Qr' v h' sz' → V g B (k + mc') (n + ms') Q h' sz' (pc + 3) ls (v.toList ++ st)) : V g B k n Q h sz pc ls st0 := by
  obtain ⟨p, l, e, R, s, m, args, below, meth, c⟩ := B
  obtain ⟨hx, hb, hml, hown, hr9, hlk, hG, hW, hR, hfl⟩ := hB
  intro H locs A hz hl0
  have hr1 := hr _ _ _ _ _ _ _ _ _ _ H locs A rfl hz hl0
  intro T hT X
  rcases hr1 T hT X with ⟨v, st₀, t, T', L, e0, X', hL, e1, e2, ⟨v', h', sz', hv, hq, hH⟩, st⟩ | ⟨q, st₀, t, T', L, E, ce, e0, X', hL, e1, e2, ⟨h', sz', hq, hH⟩, hce, hcv, hcl, st⟩
  · cases hv
    obtain ⟨t2, a1, b1⟩ := kk v h' sz' hq T'.heap (locs ++ L) A (by rw [e1]; exact hH.2.locs (fun z hm => (List.mem_append.mp hm).elim (hz.2.2.2.2 z) (hL z))) hl0 T' rfl X'
    exact ⟨t2, st t2 a1, b1⟩
  · obtain ⟨t2, a1, b1⟩ := kx E h' sz' hq T'.heap (locs ++ L) A _ ce q (by rw [e1]; exact hH.locs (fun z hm => (List.mem_append.mp hm).elim (hz.2.2.2.2 z) (hL z))) hl0 (by rw [e1]; exact hce) hcv hcl T' rfl X'
    exact ⟨t2, st.trans a1, b1⟩
/-- what is looked up of a callee, once for each: its code word, its words -/
def CW (y : MethodName) (bytes : ByteArray) (maxL : Nat) (rt : Option FieldType) (np : Nat) : Prop := WD (.code y bytes maxL rt) ∧ WD (.initialized y.cls) ∧ (y.cls ≠ "java/lang/invoke/MethodHandle" ∧ y.cls ≠ "java/lang/invoke/VarHandle" ∧ (parseMethodDescriptor y.desc).map (fun d => d.parameters.length) = some np)
theorem CW.callB {s : State} {args : Array Value} {R : Room} {y : MethodName} {bytes : ByteArray} {maxL : Nat} {rt : Option FieldType} {np idx : Nat} (hC : CW y bytes maxL rt np) (hG : GK g) (hW : g.1.WarmedH s.vm) (hl : WD (.methodLink own idx y)) {d' mc' ms' : Nat} (hR : 40 * d' + 1 ≤ R.frames ∧ 8 + (maxL + 11) + 400 * d' ≤ R.locals) : CallB R s args own idx y bytes maxL rt [.code y bytes maxL rt] (xRm d' mc' ms') mc' ms' np := by
  refine ⟨rfl, rfl, hR.1, hR.2, fun w hw a' U hU => ?_, List.mem_cons_self, hC.1.of hG args hW, hC.2.1.of hG args hW, ⟨hC.2.2.1, hC.2.2.2.1⟩, fun sig hs => ?_, hl.of hG args hW⟩
  · have : w = .code y bytes maxL rt := by simpa using hw
    subst this
    exact hC.1.of hG a' (State.WarmedH.trans hW hU)
  · have h2 := hC.2.2.2.2
    rw [hs] at h2
    exact (Option.some.inj h2).symm
theorem xRm_le {d' d mc ms maxL : Nat} (hd : d' < d) (hL : maxL ≤ 300) : 40 * d' + 1 ≤ (xRm d mc ms).frames ∧ 8 + (maxL + 11) + 400 * d' ≤ (xRm d mc ms).locals := by
  show 40 * d' + 1 ≤ 40 * d ∧ 8 + (maxL + 11) + 400 * d' ≤ 400 * d
  omega
theorem V.callV (hB : Bd g B cc nL own ret d mc ms) {y : MethodName} {bytes : ByteArray} {maxL np idx d' mc' ms' a : Nat} {rt : Option FieldType} {av : List Value} {Qr' : Option Value → xH → Nat → Prop} {Qx' : String → xH → Nat → Prop}
    (hC : CW y bytes maxL rt np) (hl : WD (.methodLink own idx y)) (hin : WD (.instanceMethod y)) (hse : WD (.selects y.cls y y)) (hd : decode cc pc = .ok (.invokevirtual idx, 3)) (hd' : d' < d) (hL : maxL ≤ 300)
    (hM : Ct g y (.code y bytes maxL rt) d' mc' ms' (.ref a :: av) h sz Qr' Qx') {ci N : Nat} {T : u_T} {fs : List Value} (he : h a = some (.inr (ci, fs))) (hci : xcl[ci]? = some (y.cls, T, N)) (hnp : av.length = np) (hst : (st.map fun v => v.category).sum ≤ 8) (hc : k + mc' ≤ mc) (hs : n + ms' ≤ ms)
    (kx : ∀ (E : String) (h' : xH) (sz' : Nat), Qx' E h' sz' → VX g B (k + mc') (n + ms') Q h' sz' pc ls E)
    (kk : ∀ (v : Option Value) (h' : xH) (sz' : Nat), Qr' v h' sz' → V g B (k + mc') (n + ms') Q h' sz' (pc + 3) ls (v.toList ++ st)) {st0 : List Value} (hst0 : st0 = av.reverse ++ .ref a :: st) : V g B k n Q h sz pc ls st0 := by
  refine V.ofRun (av := .ref a :: av) hB (h0 := h) (sz0 := sz) (fun p l e R s m args below meth c H locs A hBe hz hl0 => ?_) kx kk
  subst hBe
  obtain ⟨hx, hb, hml, hown, hr9, hlk, hG, hW, hR, hfl⟩ := hB
  subst hR
  obtain ⟨r, g1, cell, g2, g3, g4, -⟩ := (hz.2.2.2.1 a _ he).2
  have hr9 : r = (y.cls, T, N) := Option.some.inj (g1.symm.trans hci)
  subst hr9
  refine vx_runV (As := av) (rest := st) (n := np) ⟨hx, hb, hml, hown, fun w hw => (absurd hw (List.not_mem_nil (a := w)))⟩ (hM l hfl) ⟨hC.callB hG hW hl (xRm_le hd' hL), hin.of hG args hW, hse.of hG args hW⟩ ⟨xPc.blind, ⟨cell, g2, by rw [g4]; rfl, by rw [g3]; exact ((hG.kn hW).1 ci _ hci).2.1⟩, fun U hU hWU => ⟨rfl, State.WarmedH.trans hW hWU, by rw [hU]; exact hz.locs (fun _ h => by cases h)⟩⟩ rfl hnp (hl0.1.trans hml) hst0 (lv_room hst) hd ⟨hc, hs⟩
theorem V.callS (hB : Bd g B cc nL own ret d mc ms) {y : MethodName} {bytes : ByteArray} {maxL np idx d' mc' ms' : Nat} {rt : Option FieldType} {av : List Value} {Qr' : Option Value → xH → Nat → Prop} {Qx' : String → xH → Nat → Prop}
    (hC : CW y bytes maxL rt np) (hl : WD (.methodLink own idx y)) (hse : WD (.static y)) (hd : decode cc pc = .ok (.invokestatic idx, 3)) (hd' : d' < d) (hL : maxL ≤ 300)
    (hM : Ct g y (.code y bytes maxL rt) d' mc' ms' av h sz Qr' Qx') (hnp : av.length = np) (hst : (st.map fun v => v.category).sum ≤ 8) (hc : k + mc' ≤ mc) (hs : n + ms' ≤ ms)
    (kx : ∀ (E : String) (h' : xH) (sz' : Nat), Qx' E h' sz' → VX g B (k + mc') (n + ms') Q h' sz' pc ls E)
    (kk : ∀ (v : Option Value) (h' : xH) (sz' : Nat), Qr' v h' sz' → V g B (k + mc') (n + ms') Q h' sz' (pc + 3) ls (v.toList ++ st)) {st0 : List Value} (hst0 : st0 = av.reverse ++ st) : V g B k n Q h sz pc ls st0 := by
  refine V.ofRun (av := av) hB (h0 := h) (sz0 := sz) (fun p l e R s m args below meth c H locs A hBe hz hl0 => ?_) kx kk
  subst hBe
  obtain ⟨hx, hb, hml, hown, hr9, hlk, hG, hW, hR, hfl⟩ := hB
  subst hR
  refine vx_runS (As := av) (rest := st) (n := np) ⟨hx, hb, hml, hown, fun w hw => (absurd hw (List.not_mem_nil (a := w)))⟩ (hM l hfl) ⟨hC.callB hG hW hl (xRm_le hd' hL), hse.of hG args hW⟩ ⟨xPc.blind, fun U hU hWU => ⟨rfl, State.WarmedH.trans hW hWU, by rw [hU]; exact hz.locs (fun _ h => by cases h)⟩⟩ rfl hnp (hl0.1.trans hml) hst0 (lv_room hst) hd ⟨hc, hs⟩
end VE
end
section
theorem w_in_X1 : ∀ w ∈ u_ws RX1 TX1 3, w ∈ lw_tbl := by decide +kernel
theorem w_good_X1 : ∀ w ∈ u_ws RX1 TX1 3, goodWord w = true := by decide +kernel
theorem w_in_X2 : ∀ w ∈ u_ws RX2 TX2 5, w ∈ lw_tbl := by decide +kernel
theorem w_good_X2 : ∀ w ∈ u_ws RX2 TX2 5, goodWord w = true := by decide +kernel
theorem w_in_X3 : ∀ w ∈ u_ws RX3 TX3 3, w ∈ lw_tbl := by decide +kernel
theorem w_good_X3 : ∀ w ∈ u_ws RX3 TX3 3, goodWord w = true := by decide +kernel
theorem w_in_X5 : ∀ w ∈ u_ws RX5 TX5 6, w ∈ lw_tbl := by decide +kernel
theorem w_good_X5 : ∀ w ∈ u_ws RX5 TX5 6, goodWord w = true := by decide +kernel
theorem w_in_X6 : ∀ w ∈ u_ws RX6 TX6 8, w ∈ lw_tbl := by decide +kernel
theorem w_good_X6 : ∀ w ∈ u_ws RX6 TX6 8, goodWord w = true := by decide +kernel
theorem w_in_X7 : ∀ w ∈ u_ws RX7 TX7 6, w ∈ lw_tbl := by decide +kernel
theorem w_good_X7 : ∀ w ∈ u_ws RX7 TX7 6, goodWord w = true := by decide +kernel
theorem w_in_X8 : ∀ w ∈ u_ws RX8 TX8 3, w ∈ lw_tbl := by decide +kernel
theorem w_good_X8 : ∀ w ∈ u_ws RX8 TX8 3, goodWord w = true := by decide +kernel
theorem w_in_X9 : ∀ w ∈ u_ws RX9 TX9 11, w ∈ lw_tbl := by decide +kernel
theorem w_good_X9 : ∀ w ∈ u_ws RX9 TX9 11, goodWord w = true := by decide +kernel
theorem w_in_X10 : ∀ w ∈ u_ws RX10 TX10 21, w ∈ lw_tbl := by decide +kernel
theorem w_good_X10 : ∀ w ∈ u_ws RX10 TX10 21, goodWord w = true := by decide +kernel
theorem w_in_J4 : ∀ w ∈ u_ws RJ4 TJ4 4, w ∈ lw_tbl := by decide +kernel
theorem w_good_J4 : ∀ w ∈ u_ws RJ4 TJ4 4, goodWord w = true := by decide +kernel
/-! the memory: rows of numbers by cell; the address of the builder's byte row (from the start's end on) and its length -/
abbrev Mem : Type := (Nat → Nat → Int32) × Nat × Nat
def ad (g : xG) (k : Nat) : Nat := g.1.heap.size + k
def LA (i : Nat) : Nat := if i < 3 then 1 + 30 * i else 3 + 30 * i
def LK (i j : Nat) : Nat := LA i + 10 + 4 * j
def CM (i : Nat) : Nat := 336 + 2 * i
def dj (a b : Int32) : UInt64 := (a.toUInt32.toUInt64 <<< 32) ||| b.toUInt32.toUInt64
def up (m : Mem) (k f : Nat) (v : Int32) : Mem := (fun q j => if q = k ∧ j = f then v else m.1 q j, m.2)
theorem up_same (m : Mem) (k f : Nat) (v : Int32) : (up m k f v).1 k f = v := if_pos ⟨rfl, rfl⟩
theorem up_cell (m : Mem) {k q : Nat} (f : Nat) (v : Int32) (h : q ≠ k) : (up m k f v).1 q = m.1 q := by funext j; exact if_neg (fun z => h z.1)
theorem up_slot (m : Mem) (k : Nat) {f j : Nat} (v : Int32) (h : j ≠ f) : (up m k f v).1 k j = m.1 k j := if_neg (fun z => h z.2)
theorem up_row (m : Mem) (k f : Nat) (v : Int32) : (up m k f v).1 k = upd (m.1 k) f v := by
  funext j
  by_cases h : j = f
  · subst h; rw [up_same]; simp [upd]
  · rw [up_slot m k v h]; simp [upd, h]
/-- a landscape's cell at the place o, its own row c -/
def landCell (g : xG) (i o : Nat) (c : Nat → Int32) : va_E :=
  if o = 0 then .inr (4, [.ref (ad g (LA i + 1)), .int (c 1), .int (c 2), .int (c 3), .int (c 4), .int (c 5), .ref (ad g (LA i + 2)), .ref (ad g (LA i + 5))])
  else if o = 1 then .inl (g.2.2.1 6, 5, .inr (.inr (.inr (.inr (fun j => if j < 5 then some (ad g (LK i j)) else none)))))
  else if o = 2 then .inr (6, [.ref (ad g (LA i + 3)), .ref (ad g (LA i + 4)), .int (c 2)])
  else if o < 5 then .inl (g.2.2.1 0, 6, .inl c)
  else if o = 5 then .inr (5, [.ref (ad g (LA i + 6)), .ref (ad g (LA i + 7)), .ref (ad g (LA i + 8)), .ref (ad g (LA i + 9)), .int (c 4), .int (c 5)])
  else if o = 6 then .inl (g.2.2.1 1, 16, .inl c)
  else if o < 10 then .inl (g.2.2.1 0, 16, .inl c)
  else if (o - 10) % 4 = 0 then .inr (3, [.ref (ad g (LK i ((o - 10) / 4) + 1)), .ref (ad g (LK i ((o - 10) / 4) + 2)), .ref (ad g (LK i ((o - 10) / 4) + 3)), .int (c 3), .int (c 4), .int (c 5)])
  else .inl (g.2.2.1 0, 8, .inl c)
/-- what stands at the place k, its own row c; v: where the builder's bytes stand -/
def cellF (g : xG) (v k : Nat) (c : Nat → Int32) : Option va_E :=
  if k = 0 then some (.inr (7, [.ref (ad g (LA 0)), .ref (ad g (LA 1)), .ref (ad g (LA 2)), .int (c 3), .ref (ad g 91), .ref (ad g 333), .int (c 6), .int (c 7), .int (c 8), .ref (ad g 360), .ref (ad g 362)]))
  else if k < 91 then some (landCell g ((k - 1) / 30) ((k - 1) % 30) c)
  else if k = 91 then some (.inr (2, [.ref (ad g 92), .int (c 1), .int (c 2)]))
  else if k = 92 then some (.inl (g.2.2.1 7, 8, .inr (.inr (.inr (.inr (fun j => if j < 8 then some (ad g (LA (3 + j))) else none))))))
  else if k < 333 then some (landCell g ((k - 3) / 30) ((k - 3) % 30) c)
  else if k = 333 then some (.inr (1, [.ref (ad g 334), .int (c 1), .int (c 2), .ref (ad g 335), .int (c 4)]))
  else if k = 334 then some (.inl (g.2.2.1 1, 60, .inl c))
  else if k = 335 then some (.inl (g.2.2.1 5, 12, .inr (.inr (.inr (.inr (fun j => if j < 12 then some (ad g (CM j)) else none))))))
  else if k < 360 then (if k % 2 = 0 then some (.inr (0, [.ref (g.2.2.2 (c 0).toNatClampNeg), .ref (ad g (k + 1)), .int (c 2)])) else some (.inl (g.2.2.1 0, 3, .inl c)))
  else if k = 360 then some (.inr (9, [.ref (ad g v), .int 0, .int (c 2), .int (c 3)]))
  else if k = 361 then none
  else if k = 362 then some (.inl (g.2.2.1 0, 141, .inl c))
  else if k = 363 then some (.inr (8, [.ref (ad g 364), .ref (ad g 365), .ref (ad g 366), .ref (ad g 367), .ref (ad g 368), .int (c 5), .int (c 6), .int (c 7), .int (c 8), .int (c 9), .ref (ad g 369), .ref (ad g 370), .int (c 12), .ref (ad g 371), .int (c 14), .int (c 15), .int (c 16), .int (c 17), .int (c 18), .int (c 19), .ref (ad g 372)]))
  else if k < 368 then some (.inl (g.2.2.1 0, 218, .inl c))
  else if k = 368 then some (.inl (g.2.2.1 0, 1744, .inl c))
  else if k = 369 then some (.inl (g.2.2.1 0, 8, .inl c))
  else if k = 370 then some (.inl (g.2.2.1 0, 60, .inl c))
  else if k = 371 then some (.inl (g.2.2.1 0, 80, .inl c))
  else if k = 372 then some (.inl (g.2.2.1 0, 120, .inl c))
  else if k = 373 then some (.inl (g.2.2.1 2, 1, .inr (.inl (fun _ => (c 0).toInt64))))
  else if k = 374 then some (.inl (g.2.2.1 3, 1, .inr (.inr (.inr (.inl (fun _ => dj (c 0) (c 1)))))))
  else none
def cellAt (g : xG) (m : Mem) (k : Nat) : Option va_E := cellF g m.2.1 k (m.1 k)
/-- the heap picture of a memory -/
def hp (g : xG) (m : Mem) : xH := fun a => if a < g.1.heap.size then none else match cellAt g m (a - g.1.heap.size) with
  | some e => some e
  | none => if a - g.1.heap.size = m.2.1 then some (.inl (g.2.2.1 4, m.2.2, .inl (m.1 361))) else none
theorem hp_at {g : xG} {m : Mem} {k : Nat} {e : va_E} (h : cellAt g m k = some e) : hp g m (ad g k) = some e := by
  unfold hp ad
  rw [if_neg (by omega), Nat.add_sub_cancel_left, h]
theorem hp_sb {g : xG} {m : Mem} (h : cellAt g m m.2.1 = none) : hp g m (ad g m.2.1) = some (.inl (g.2.2.1 4, m.2.2, .inl (m.1 361))) := by
  unfold hp ad
  rw [if_neg (by omega), Nat.add_sub_cancel_left, h]
  dsimp only
  rw [if_pos rfl]
theorem cellAt_congr {g : xG} {m m' : Mem} {k : Nat} (h : m'.1 k = m.1 k) (h2 : m'.2 = m.2) : cellAt g m' k = cellAt g m k := by
  unfold cellAt
  rw [h, h2]
theorem hp_up {g : xG} {m : Mem} {k f : Nat} {v : Int32} (hk : k ≠ 361) : ∀ q, q ≠ ad g k → hp g (up m k f v) q = hp g m q := by
  intro q hq
  unfold hp
  by_cases h : q < g.1.heap.size
  · rw [if_pos h, if_pos h]
  · rw [if_neg h, if_neg h]
    have hne : q - g.1.heap.size ≠ k := fun z => hq (by unfold ad; omega)
    rw [cellAt_congr (up_cell m f v hne) rfl, up_cell m f v (Ne.symm hk)]
    rfl
theorem ca_low {g : xG} {i o : Nat} (hi : i < 11) (ho : o < 30) : ∀ m : Mem, cellAt g m (LA i + o) = some (landCell g i o (m.1 (LA i + o))) := by
  intro m
  unfold cellAt
  generalize m.1 (LA i + o) = c
  unfold cellF LA
  by_cases h3 : i < 3
  · rw [if_pos h3, if_neg (by omega), if_pos (by omega), show (1 + 30 * i + o - 1) / 30 = i by omega, show (1 + 30 * i + o - 1) % 30 = o by omega]
  · rw [if_neg h3, if_neg (by omega), if_neg (by omega), if_neg (by omega), if_neg (by omega), if_pos (by omega), show (3 + 30 * i + o - 3) / 30 = i by omega, show (3 + 30 * i + o - 3) % 30 = o by omega]
theorem ca_Land {g : xG} {i : Nat} (hi : i < 11) : ∀ m : Mem, cellAt g m (LA i) = some (.inr (4, [.ref (ad g (LA i + 1)), .int (m.1 (LA i) 1), .int (m.1 (LA i) 2), .int (m.1 (LA i) 3), .int (m.1 (LA i) 4), .int (m.1 (LA i) 5), .ref (ad g (LA i + 2)), .ref (ad g (LA i + 5))])) := fun m => ca_low (o := 0) hi (by omega) m
theorem ca_Lakes {g : xG} {i : Nat} (hi : i < 11) : ∀ m : Mem, cellAt g m (LA i + 1) = some (.inl (g.2.2.1 6, 5, .inr (.inr (.inr (.inr (fun j => if j < 5 then some (ad g (LK i j)) else none)))))) := fun m => ca_low (o := 1) hi (by omega) m
theorem ca_Win {g : xG} {i : Nat} (hi : i < 11) : ∀ m : Mem, cellAt g m (LA i + 2) = some (.inr (6, [.ref (ad g (LA i + 3)), .ref (ad g (LA i + 4)), .int (m.1 (LA i + 2) 2)])) := fun m => ca_low (o := 2) hi (by omega) m
theorem ca_WinF {g : xG} {i : Nat} (hi : i < 11) : ∀ m : Mem, cellAt g m (LA i + 3) = some (.inl (g.2.2.1 0, 6, .inl (m.1 (LA i + 3)))) := fun m => ca_low (o := 3) hi (by omega) m
theorem ca_WinL {g : xG} {i : Nat} (hi : i < 11) : ∀ m : Mem, cellAt g m (LA i + 4) = some (.inl (g.2.2.1 0, 6, .inl (m.1 (LA i + 4)))) := fun m => ca_low (o := 4) hi (by omega) m
theorem ca_Peal {g : xG} {i : Nat} (hi : i < 11) : ∀ m : Mem, cellAt g m (LA i + 5) = some (.inr (5, [.ref (ad g (LA i + 6)), .ref (ad g (LA i + 7)), .ref (ad g (LA i + 8)), .ref (ad g (LA i + 9)), .int (m.1 (LA i + 5) 4), .int (m.1 (LA i + 5) 5)])) := fun m => ca_low (o := 5) hi (by omega) m
theorem ca_PKind {g : xG} {i : Nat} (hi : i < 11) : ∀ m : Mem, cellAt g m (LA i + 6) = some (.inl (g.2.2.1 1, 16, .inl (m.1 (LA i + 6)))) := fun m => ca_low (o := 6) hi (by omega) m
theorem ca_PLake {g : xG} {i : Nat} (hi : i < 11) : ∀ m : Mem, cellAt g m (LA i + 7) = some (.inl (g.2.2.1 0, 16, .inl (m.1 (LA i + 7)))) := fun m => ca_low (o := 7) hi (by omega) m
theorem ca_PPitch {g : xG} {i : Nat} (hi : i < 11) : ∀ m : Mem, cellAt g m (LA i + 8) = some (.inl (g.2.2.1 0, 16, .inl (m.1 (LA i + 8)))) := fun m => ca_low (o := 8) hi (by omega) m
theorem ca_PHour {g : xG} {i : Nat} (hi : i < 11) : ∀ m : Mem, cellAt g m (LA i + 9) = some (.inl (g.2.2.1 0, 16, .inl (m.1 (LA i + 9)))) := fun m => ca_low (o := 9) hi (by omega) m
theorem ca_Lake {g : xG} {i j : Nat} (hi : i < 11) (hj : j < 5) : ∀ m : Mem, cellAt g m (LK i j) = some (.inr (3, [.ref (ad g (LK i j + 1)), .ref (ad g (LK i j + 2)), .ref (ad g (LK i j + 3)), .int (m.1 (LK i j) 3), .int (m.1 (LK i j) 4), .int (m.1 (LK i j) 5)])) := by
  intro m
  have h := ca_low (g := g) (i := i) (o := 10 + 4 * j + 0) hi (by omega) m
  rw [show LA i + (10 + 4 * j + 0) = LK i j by unfold LK; omega] at h
  rw [h]
  generalize m.1 (LK i j) = c
  unfold landCell
  rw [if_neg (by omega), if_neg (by omega), if_neg (by omega), if_neg (by omega), if_neg (by omega), if_neg (by omega), if_neg (by omega), if_pos (by omega), show (10 + 4 * j + 0 - 10) / 4 = j by omega]
theorem ca_LThick {g : xG} {i j : Nat} (hi : i < 11) (hj : j < 5) : ∀ m : Mem, cellAt g m (LK i j + 1) = some (.inl (g.2.2.1 0, 8, .inl (m.1 (LK i j + 1)))) := by
  intro m
  have h := ca_low (g := g) (i := i) (o := 10 + 4 * j + 1) hi (by omega) m
  rw [show LA i + (10 + 4 * j + 1) = LK i j + 1 by unfold LK; omega] at h
  rw [h]
  generalize m.1 (LK i j + 1) = c
  unfold landCell
  rw [if_neg (by omega), if_neg (by omega), if_neg (by omega), if_neg (by omega), if_neg (by omega), if_neg (by omega), if_neg (by omega), if_neg (by omega)]
theorem ca_LTemp {g : xG} {i j : Nat} (hi : i < 11) (hj : j < 5) : ∀ m : Mem, cellAt g m (LK i j + 2) = some (.inl (g.2.2.1 0, 8, .inl (m.1 (LK i j + 2)))) := by
  intro m
  have h := ca_low (g := g) (i := i) (o := 10 + 4 * j + 2) hi (by omega) m
  rw [show LA i + (10 + 4 * j + 2) = LK i j + 2 by unfold LK; omega] at h
  rw [h]
  generalize m.1 (LK i j + 2) = c
  unfold landCell
  rw [if_neg (by omega), if_neg (by omega), if_neg (by omega), if_neg (by omega), if_neg (by omega), if_neg (by omega), if_neg (by omega), if_neg (by omega)]
theorem ca_LStrain {g : xG} {i j : Nat} (hi : i < 11) (hj : j < 5) : ∀ m : Mem, cellAt g m (LK i j + 3) = some (.inl (g.2.2.1 0, 8, .inl (m.1 (LK i j + 3)))) := by
  intro m
  have h := ca_low (g := g) (i := i) (o := 10 + 4 * j + 3) hi (by omega) m
  rw [show LA i + (10 + 4 * j + 3) = LK i j + 3 by unfold LK; omega] at h
  rw [h]
  generalize m.1 (LK i j + 3) = c
  unfold landCell
  rw [if_neg (by omega), if_neg (by omega), if_neg (by omega), if_neg (by omega), if_neg (by omega), if_neg (by omega), if_neg (by omega), if_neg (by omega)]
theorem ca_Cmd {g : xG} {i : Nat} (hi : i < 12) : ∀ m : Mem, cellAt g m (CM i) = some (.inr (0, [.ref (g.2.2.2 (m.1 (CM i) 0).toNatClampNeg), .ref (ad g (CM i + 1)), .int (m.1 (CM i) 2)])) := by
  intro m
  unfold cellAt
  generalize m.1 (CM i) = c
  unfold cellF CM
  rw [if_neg (by omega), if_neg (by omega), if_neg (by omega), if_neg (by omega), if_neg (by omega), if_neg (by omega), if_neg (by omega), if_neg (by omega), if_pos (by omega), if_pos (by omega)]
theorem ca_CmdN {g : xG} {i : Nat} (hi : i < 12) : ∀ m : Mem, cellAt g m (CM i + 1) = some (.inl (g.2.2.1 0, 3, .inl (m.1 (CM i + 1)))) := by
  intro m
  unfold cellAt
  generalize m.1 (CM i + 1) = c
  unfold cellF CM
  rw [if_neg (by omega), if_neg (by omega), if_neg (by omega), if_neg (by omega), if_neg (by omega), if_neg (by omega), if_neg (by omega), if_neg (by omega), if_pos (by omega), if_neg (by omega)]
theorem ca_Bells {g : xG} : ∀ m : Mem, cellAt g m 0 = some (.inr (7, [.ref (ad g (LA 0)), .ref (ad g (LA 1)), .ref (ad g (LA 2)), .int (m.1 0 3), .ref (ad g 91), .ref (ad g 333), .int (m.1 0 6), .int (m.1 0 7), .int (m.1 0 8), .ref (ad g 360), .ref (ad g 362)])) := fun _ => rfl
theorem ca_Hist {g : xG} : ∀ m : Mem, cellAt g m 91 = some (.inr (2, [.ref (ad g 92), .int (m.1 91 1), .int (m.1 91 2)])) := fun _ => rfl
theorem ca_Past {g : xG} : ∀ m : Mem, cellAt g m 92 = some (.inl (g.2.2.1 7, 8, .inr (.inr (.inr (.inr (fun j => if j < 8 then some (ad g (LA (3 + j))) else none)))))) := fun _ => rfl
theorem ca_CText {g : xG} : ∀ m : Mem, cellAt g m 333 = some (.inr (1, [.ref (ad g 334), .int (m.1 333 1), .int (m.1 333 2), .ref (ad g 335), .int (m.1 333 4)])) := fun _ => rfl
theorem ca_Chars {g : xG} : ∀ m : Mem, cellAt g m 334 = some (.inl (g.2.2.1 1, 60, .inl (m.1 334))) := fun _ => rfl
theorem ca_Cmds {g : xG} : ∀ m : Mem, cellAt g m 335 = some (.inl (g.2.2.1 5, 12, .inr (.inr (.inr (.inr (fun j => if j < 12 then some (ad g (CM j)) else none)))))) := fun _ => rfl
theorem ca_SB {g : xG} : ∀ m : Mem, cellAt g m 360 = some (.inr (9, [.ref (ad g m.2.1), .int 0, .int (m.1 360 2), .int (m.1 360 3)])) := fun _ => rfl
theorem ca_Tally {g : xG} : ∀ m : Mem, cellAt g m 362 = some (.inl (g.2.2.1 0, 141, .inl (m.1 362))) := fun _ => rfl
theorem ca_Model {g : xG} : ∀ m : Mem, cellAt g m 363 = some (.inr (8, [.ref (ad g 364), .ref (ad g 365), .ref (ad g 366), .ref (ad g 367), .ref (ad g 368), .int (m.1 363 5), .int (m.1 363 6), .int (m.1 363 7), .int (m.1 363 8), .int (m.1 363 9), .ref (ad g 369), .ref (ad g 370), .int (m.1 363 12), .ref (ad g 371), .int (m.1 363 14), .int (m.1 363 15), .int (m.1 363 16), .int (m.1 363 17), .int (m.1 363 18), .int (m.1 363 19), .ref (ad g 372)])) := fun _ => rfl
theorem ca_Now {g : xG} : ∀ m : Mem, cellAt g m 364 = some (.inl (g.2.2.1 0, 218, .inl (m.1 364))) := fun _ => rfl
theorem ca_Before {g : xG} : ∀ m : Mem, cellAt g m 365 = some (.inl (g.2.2.1 0, 218, .inl (m.1 365))) := fun _ => rfl
theorem ca_Trial {g : xG} : ∀ m : Mem, cellAt g m 366 = some (.inl (g.2.2.1 0, 218, .inl (m.1 366))) := fun _ => rfl
theorem ca_Saved {g : xG} : ∀ m : Mem, cellAt g m 367 = some (.inl (g.2.2.1 0, 218, .inl (m.1 367))) := fun _ => rfl
theorem ca_Hrow {g : xG} : ∀ m : Mem, cellAt g m 368 = some (.inl (g.2.2.1 0, 1744, .inl (m.1 368))) := fun _ => rfl
theorem ca_Targets {g : xG} : ∀ m : Mem, cellAt g m 369 = some (.inl (g.2.2.1 0, 8, .inl (m.1 369))) := fun _ => rfl
theorem ca_Text {g : xG} : ∀ m : Mem, cellAt g m 370 = some (.inl (g.2.2.1 0, 60, .inl (m.1 370))) := fun _ => rfl
theorem ca_Line {g : xG} : ∀ m : Mem, cellAt g m 371 = some (.inl (g.2.2.1 0, 80, .inl (m.1 371))) := fun _ => rfl
theorem ca_Nums {g : xG} : ∀ m : Mem, cellAt g m 372 = some (.inl (g.2.2.1 0, 120, .inl (m.1 372))) := fun _ => rfl
theorem ca_Out {g : xG} : ∀ m : Mem, cellAt g m 373 = some (.inl (g.2.2.1 2, 1, .inr (.inl (fun _ => (m.1 373 0).toInt64)))) := fun _ => rfl
theorem ca_OutD {g : xG} : ∀ m : Mem, cellAt g m 374 = some (.inl (g.2.2.1 3, 1, .inr (.inr (.inr (.inl (fun _ => dj (m.1 374 0) (m.1 374 1))))))) := fun _ => rfl
section VM
variable {g : xG} {B : BT} {k n : Nat} {Q : State → Prop} {m : Mem} {sz pc : Nat} {ls : List (Option Value)} {st : List Value} {cc : ByteArray} {nL : Nat} {own : String} {ret : Option FieldType} {d mc ms : Nat}
abbrev ix (i : Int32) (q N : Nat) : Prop := i.toNatClampNeg = q ∧ vp_in i N
theorem ix_nI {q N : Nat} (h : q < N) (hN : N < 2 ^ 31) : ix (nI q) q N := ⟨nI_clamp (by omega), vp_in_nI h hN⟩
theorem V.ialdM (hB : Bd g B cc nL own ret d mc ms) {a N q : Nat} {i : Int32} (he : ∀ m : Mem, cellAt g m a = some (.inl (g.2.2.1 0, N, .inl (m.1 a)))) (hd : decode cc pc = .ok (.iaload, 1)) (hi : ix i q N) (kk : V g B k n Q (hp g m) sz (pc + 1) ls (.int (m.1 a q) :: st)) : V g B k n Q (hp g m) sz pc ls (.int i :: .ref (ad g a) :: st) := by
  refine V.iald hB hd (hp_at (he m)) hi.2 ?_
  rw [hi.1]
  exact kk
theorem V.caldM (hB : Bd g B cc nL own ret d mc ms) {a N q : Nat} {i : Int32} (he : ∀ m : Mem, cellAt g m a = some (.inl (g.2.2.1 1, N, .inl (m.1 a)))) (hd : decode cc pc = .ok (.caload, 1)) (hi : ix i q N) (kk : V g B k n Q (hp g m) sz (pc + 1) ls (.int (m.1 a q) :: st)) : V g B k n Q (hp g m) sz pc ls (.int i :: .ref (ad g a) :: st) := by
  refine V.cald hB hd (hp_at (he m)) hi.2 ?_
  rw [hi.1]
  exact kk
theorem V.iastM (hB : Bd g B cc nL own ret d mc ms) {a N q : Nat} {i x : Int32} (he : ∀ m : Mem, cellAt g m a = some (.inl (g.2.2.1 0, N, .inl (m.1 a)))) (hd : decode cc pc = .ok (.iastore, 1)) (hi : ix i q N) (ha : a ≠ 361) (kk : V g B k n Q (hp g (up m a q x)) sz (pc + 1) ls st) : V g B k n Q (hp g m) sz pc ls (.int x :: .int i :: .ref (ad g a) :: st) := by
  refine V.iast hB hd (hp_at (he m)) hi.2 (hp_at ((he (up m a q x)).trans ?_)) (hp_up ha) kk
  rw [up_row, hi.1]
theorem V.castM (hB : Bd g B cc nL own ret d mc ms) {a N q : Nat} {i x : Int32} (he : ∀ m : Mem, cellAt g m a = some (.inl (g.2.2.1 1, N, .inl (m.1 a)))) (hd : decode cc pc = .ok (.castore, 1)) (hi : ix i q N) (ha : a ≠ 361) (hx : vp_nar .char x = x) (kk : V g B k n Q (hp g (up m a q x)) sz (pc + 1) ls st) : V g B k n Q (hp g m) sz pc ls (.int x :: .int i :: .ref (ad g a) :: st) := by
  refine V.cast hB hd (hp_at (he m)) hi.2 (hp_at ((he (up m a q x)).trans ?_)) (hp_up ha) kk
  rw [up_row, hi.1, hx]
theorem V.putM (hB : Bd g B cc nL own ret d mc ms) {ci N idx a : Nat} {C : String} {T : u_T} {ty : Nat → FieldType} {fs : List Value} {v : Int32} (hF : FK ci C T N ty) (f : Nat) (hlink : WD (.fieldLink own idx (T f).1 (T f).2.1 (T f).2.2.1)) (hd : decode cc pc = .ok (.putfield idx, 3)) (hf : f < N) (hfin : (T f).2.2.2 = false) (he : cellAt g m a = some (.inr (ci, fs))) (hl : f < fs.length) (hn : narrow (ty f) (.int v) = .int v) (hfit : fits (ty f) (.int v) = true) (h1 : cellAt g (up m a f v) a = some (.inr (ci, fs.set f (.int v)))) (ha : a ≠ 361) (kk : V g B k n Q (hp g (up m a f v)) sz (pc + 3) ls st) : V g B k n Q (hp g m) sz pc ls (.int v :: .ref (ad g a) :: st) :=
  V.put hB hF f hlink hd hf hfin (hp_at he) hl hn hfit (hp_at h1) (hp_up ha) kk
theorem fk_Cmd : FK 0 RX1 TX1 3 tyX1 := ⟨rfl, fun w hw => ⟨w_in_X1 w hw, w_good_X1 w hw⟩, tyX1_ok, nmX1⟩
theorem V.p_Cmd_numberCount (hB : Bd g B cc nL own ret d mc ms) {i : Nat} {idx : Nat} {v : Int32} (hlink : WD (.fieldLink own idx (TX1 2).1 (TX1 2).2.1 (TX1 2).2.2.1)) (hd : decode cc pc = .ok (.putfield idx, 3)) (hi : i < 12) (kk : V g B k n Q (hp g (up m (CM i) 2 v)) sz (pc + 3) ls st) : V g B k n Q (hp g m) sz pc ls (.int v :: .ref (ad g (CM i)) :: st) :=
  V.putM hB fk_Cmd 2 hlink hd (by decide) rfl ((ca_Cmd hi) m) (Nat.le_of_ble_eq_true rfl) rfl rfl (by rw [ca_Cmd hi (up m (CM i) 2 v)]; simp [up]) (by unfold CM; omega) kk
theorem fk_CText : FK 1 RX2 TX2 5 tyX2 := ⟨rfl, fun w hw => ⟨w_in_X2 w hw, w_good_X2 w hw⟩, tyX2_ok, nmX2⟩
theorem V.p_CText_length (hB : Bd g B cc nL own ret d mc ms) {idx : Nat} {v : Int32} (hlink : WD (.fieldLink own idx (TX2 1).1 (TX2 1).2.1 (TX2 1).2.2.1)) (hd : decode cc pc = .ok (.putfield idx, 3))  (kk : V g B k n Q (hp g (up m (333) 1 v)) sz (pc + 3) ls st) : V g B k n Q (hp g m) sz pc ls (.int v :: .ref (ad g (333)) :: st) :=
  V.putM hB fk_CText 1 hlink hd (by decide) rfl (ca_CText m) (Nat.le_of_ble_eq_true rfl) rfl rfl (by rw [ca_CText (up m 333 1 v)]; simp [up]) (by decide) kk
theorem V.p_CText_position (hB : Bd g B cc nL own ret d mc ms) {idx : Nat} {v : Int32} (hlink : WD (.fieldLink own idx (TX2 2).1 (TX2 2).2.1 (TX2 2).2.2.1)) (hd : decode cc pc = .ok (.putfield idx, 3))  (kk : V g B k n Q (hp g (up m (333) 2 v)) sz (pc + 3) ls st) : V g B k n Q (hp g m) sz pc ls (.int v :: .ref (ad g (333)) :: st) :=
  V.putM hB fk_CText 2 hlink hd (by decide) rfl (ca_CText m) (Nat.le_of_ble_eq_true rfl) rfl rfl (by rw [ca_CText (up m 333 2 v)]; simp [up]) (by decide) kk
theorem V.p_CText_commandCount (hB : Bd g B cc nL own ret d mc ms) {idx : Nat} {v : Int32} (hlink : WD (.fieldLink own idx (TX2 4).1 (TX2 4).2.1 (TX2 4).2.2.1)) (hd : decode cc pc = .ok (.putfield idx, 3))  (kk : V g B k n Q (hp g (up m (333) 4 v)) sz (pc + 3) ls st) : V g B k n Q (hp g m) sz pc ls (.int v :: .ref (ad g (333)) :: st) :=
  V.putM hB fk_CText 4 hlink hd (by decide) rfl (ca_CText m) (Nat.le_of_ble_eq_true rfl) rfl rfl (by rw [ca_CText (up m 333 4 v)]; simp [up]) (by decide) kk
theorem fk_Hist : FK 2 RX3 TX3 3 tyX3 := ⟨rfl, fun w hw => ⟨w_in_X3 w hw, w_good_X3 w hw⟩, tyX3_ok, nmX3⟩
theorem V.p_Hist_count (hB : Bd g B cc nL own ret d mc ms) {idx : Nat} {v : Int32} (hlink : WD (.fieldLink own idx (TX3 1).1 (TX3 1).2.1 (TX3 1).2.2.1)) (hd : decode cc pc = .ok (.putfield idx, 3))  (kk : V g B k n Q (hp g (up m (91) 1 v)) sz (pc + 3) ls st) : V g B k n Q (hp g m) sz pc ls (.int v :: .ref (ad g (91)) :: st) :=
  V.putM hB fk_Hist 1 hlink hd (by decide) rfl (ca_Hist m) (Nat.le_of_ble_eq_true rfl) rfl rfl (by rw [ca_Hist (up m 91 1 v)]; simp [up]) (by decide) kk
theorem V.p_Hist_next (hB : Bd g B cc nL own ret d mc ms) {idx : Nat} {v : Int32} (hlink : WD (.fieldLink own idx (TX3 2).1 (TX3 2).2.1 (TX3 2).2.2.1)) (hd : decode cc pc = .ok (.putfield idx, 3))  (kk : V g B k n Q (hp g (up m (91) 2 v)) sz (pc + 3) ls st) : V g B k n Q (hp g m) sz pc ls (.int v :: .ref (ad g (91)) :: st) :=
  V.putM hB fk_Hist 2 hlink hd (by decide) rfl (ca_Hist m) (Nat.le_of_ble_eq_true rfl) rfl rfl (by rw [ca_Hist (up m 91 2 v)]; simp [up]) (by decide) kk
theorem fk_Lake : FK 3 RX5 TX5 6 tyX5 := ⟨rfl, fun w hw => ⟨w_in_X5 w hw, w_good_X5 w hw⟩, tyX5_ok, nmX5⟩
theorem V.p_Lake_layerCount (hB : Bd g B cc nL own ret d mc ms) {i j : Nat} {idx : Nat} {v : Int32} (hlink : WD (.fieldLink own idx (TX5 3).1 (TX5 3).2.1 (TX5 3).2.2.1)) (hd : decode cc pc = .ok (.putfield idx, 3)) (hi : i < 11) (hj : j < 5) (kk : V g B k n Q (hp g (up m (LK i j) 3 v)) sz (pc + 3) ls st) : V g B k n Q (hp g m) sz pc ls (.int v :: .ref (ad g (LK i j)) :: st) :=
  V.putM hB fk_Lake 3 hlink hd (by decide) rfl ((ca_Lake hi hj) m) (Nat.le_of_ble_eq_true rfl) rfl rfl (by rw [ca_Lake hi hj (up m (LK i j) 3 v)]; simp [up]) (by unfold LK LA; split <;> omega) kk
theorem V.p_Lake_depth (hB : Bd g B cc nL own ret d mc ms) {i j : Nat} {idx : Nat} {v : Int32} (hlink : WD (.fieldLink own idx (TX5 4).1 (TX5 4).2.1 (TX5 4).2.2.1)) (hd : decode cc pc = .ok (.putfield idx, 3)) (hi : i < 11) (hj : j < 5) (kk : V g B k n Q (hp g (up m (LK i j) 4 v)) sz (pc + 3) ls st) : V g B k n Q (hp g m) sz pc ls (.int v :: .ref (ad g (LK i j)) :: st) :=
  V.putM hB fk_Lake 4 hlink hd (by decide) rfl ((ca_Lake hi hj) m) (Nat.le_of_ble_eq_true rfl) rfl rfl (by rw [ca_Lake hi hj (up m (LK i j) 4 v)]; simp [up]) (by unfold LK LA; split <;> omega) kk
theorem V.p_Lake_cracks (hB : Bd g B cc nL own ret d mc ms) {i j : Nat} {idx : Nat} {v : Int32} (hlink : WD (.fieldLink own idx (TX5 5).1 (TX5 5).2.1 (TX5 5).2.2.1)) (hd : decode cc pc = .ok (.putfield idx, 3)) (hi : i < 11) (hj : j < 5) (kk : V g B k n Q (hp g (up m (LK i j) 5 v)) sz (pc + 3) ls st) : V g B k n Q (hp g m) sz pc ls (.int v :: .ref (ad g (LK i j)) :: st) :=
  V.putM hB fk_Lake 5 hlink hd (by decide) rfl ((ca_Lake hi hj) m) (Nat.le_of_ble_eq_true rfl) rfl rfl (by rw [ca_Lake hi hj (up m (LK i j) 5 v)]; simp [up]) (by unfold LK LA; split <;> omega) kk
theorem fk_Land : FK 4 RX6 TX6 8 tyX6 := ⟨rfl, fun w hw => ⟨w_in_X6 w hw, w_good_X6 w hw⟩, tyX6_ok, nmX6⟩
theorem V.p_Land_lakeCount (hB : Bd g B cc nL own ret d mc ms) {i : Nat} {idx : Nat} {v : Int32} (hlink : WD (.fieldLink own idx (TX6 1).1 (TX6 1).2.1 (TX6 1).2.2.1)) (hd : decode cc pc = .ok (.putfield idx, 3)) (hi : i < 11) (kk : V g B k n Q (hp g (up m (LA i) 1 v)) sz (pc + 3) ls st) : V g B k n Q (hp g m) sz pc ls (.int v :: .ref (ad g (LA i)) :: st) :=
  V.putM hB fk_Land 1 hlink hd (by decide) rfl ((ca_Land hi) m) (Nat.le_of_ble_eq_true rfl) rfl rfl (by rw [ca_Land hi (up m (LA i) 1 v)]; simp [up]) (by unfold LA; split <;> omega) kk
theorem V.p_Land_air (hB : Bd g B cc nL own ret d mc ms) {i : Nat} {idx : Nat} {v : Int32} (hlink : WD (.fieldLink own idx (TX6 2).1 (TX6 2).2.1 (TX6 2).2.2.1)) (hd : decode cc pc = .ok (.putfield idx, 3)) (hi : i < 11) (kk : V g B k n Q (hp g (up m (LA i) 2 v)) sz (pc + 3) ls st) : V g B k n Q (hp g m) sz pc ls (.int v :: .ref (ad g (LA i)) :: st) :=
  V.putM hB fk_Land 2 hlink hd (by decide) rfl ((ca_Land hi) m) (Nat.le_of_ble_eq_true rfl) rfl rfl (by rw [ca_Land hi (up m (LA i) 2 v)]; simp [up]) (by unfold LA; split <;> omega) kk
theorem V.p_Land_hour (hB : Bd g B cc nL own ret d mc ms) {i : Nat} {idx : Nat} {v : Int32} (hlink : WD (.fieldLink own idx (TX6 3).1 (TX6 3).2.1 (TX6 3).2.2.1)) (hd : decode cc pc = .ok (.putfield idx, 3)) (hi : i < 11) (kk : V g B k n Q (hp g (up m (LA i) 3 v)) sz (pc + 3) ls st) : V g B k n Q (hp g m) sz pc ls (.int v :: .ref (ad g (LA i)) :: st) :=
  V.putM hB fk_Land 3 hlink hd (by decide) rfl ((ca_Land hi) m) (Nat.le_of_ble_eq_true rfl) rfl rfl (by rw [ca_Land hi (up m (LA i) 3 v)]; simp [up]) (by unfold LA; split <;> omega) kk
theorem V.p_Land_frozen (hB : Bd g B cc nL own ret d mc ms) {i : Nat} {idx : Nat} {v : Int32} (hlink : WD (.fieldLink own idx (TX6 4).1 (TX6 4).2.1 (TX6 4).2.2.1)) (hd : decode cc pc = .ok (.putfield idx, 3)) (hi : i < 11) (kk : V g B k n Q (hp g (up m (LA i) 4 v)) sz (pc + 3) ls st) : V g B k n Q (hp g m) sz pc ls (.int v :: .ref (ad g (LA i)) :: st) :=
  V.putM hB fk_Land 4 hlink hd (by decide) rfl ((ca_Land hi) m) (Nat.le_of_ble_eq_true rfl) rfl rfl (by rw [ca_Land hi (up m (LA i) 4 v)]; simp [up]) (by unfold LA; split <;> omega) kk
theorem V.p_Land_thawed (hB : Bd g B cc nL own ret d mc ms) {i : Nat} {idx : Nat} {v : Int32} (hlink : WD (.fieldLink own idx (TX6 5).1 (TX6 5).2.1 (TX6 5).2.2.1)) (hd : decode cc pc = .ok (.putfield idx, 3)) (hi : i < 11) (kk : V g B k n Q (hp g (up m (LA i) 5 v)) sz (pc + 3) ls st) : V g B k n Q (hp g m) sz pc ls (.int v :: .ref (ad g (LA i)) :: st) :=
  V.putM hB fk_Land 5 hlink hd (by decide) rfl ((ca_Land hi) m) (Nat.le_of_ble_eq_true rfl) rfl rfl (by rw [ca_Land hi (up m (LA i) 5 v)]; simp [up]) (by unfold LA; split <;> omega) kk
theorem fk_Peal : FK 5 RX7 TX7 6 tyX7 := ⟨rfl, fun w hw => ⟨w_in_X7 w hw, w_good_X7 w hw⟩, tyX7_ok, nmX7⟩
theorem V.p_Peal_count (hB : Bd g B cc nL own ret d mc ms) {i : Nat} {idx : Nat} {v : Int32} (hlink : WD (.fieldLink own idx (TX7 4).1 (TX7 4).2.1 (TX7 4).2.2.1)) (hd : decode cc pc = .ok (.putfield idx, 3)) (hi : i < 11) (kk : V g B k n Q (hp g (up m (LA i + 5) 4 v)) sz (pc + 3) ls st) : V g B k n Q (hp g m) sz pc ls (.int v :: .ref (ad g (LA i + 5)) :: st) :=
  V.putM hB fk_Peal 4 hlink hd (by decide) rfl ((ca_Peal hi) m) (Nat.le_of_ble_eq_true rfl) rfl rfl (by rw [ca_Peal hi (up m (LA i + 5) 4 v)]; simp [up]) (by unfold LA; split <;> omega) kk
theorem V.p_Peal_next (hB : Bd g B cc nL own ret d mc ms) {i : Nat} {idx : Nat} {v : Int32} (hlink : WD (.fieldLink own idx (TX7 5).1 (TX7 5).2.1 (TX7 5).2.2.1)) (hd : decode cc pc = .ok (.putfield idx, 3)) (hi : i < 11) (kk : V g B k n Q (hp g (up m (LA i + 5) 5 v)) sz (pc + 3) ls st) : V g B k n Q (hp g m) sz pc ls (.int v :: .ref (ad g (LA i + 5)) :: st) :=
  V.putM hB fk_Peal 5 hlink hd (by decide) rfl ((ca_Peal hi) m) (Nat.le_of_ble_eq_true rfl) rfl rfl (by rw [ca_Peal hi (up m (LA i + 5) 5 v)]; simp [up]) (by unfold LA; split <;> omega) kk
theorem fk_Win : FK 6 RX8 TX8 3 tyX8 := ⟨rfl, fun w hw => ⟨w_in_X8 w hw, w_good_X8 w hw⟩, tyX8_ok, nmX8⟩
theorem V.p_Win_count (hB : Bd g B cc nL own ret d mc ms) {i : Nat} {idx : Nat} {v : Int32} (hlink : WD (.fieldLink own idx (TX8 2).1 (TX8 2).2.1 (TX8 2).2.2.1)) (hd : decode cc pc = .ok (.putfield idx, 3)) (hi : i < 11) (kk : V g B k n Q (hp g (up m (LA i + 2) 2 v)) sz (pc + 3) ls st) : V g B k n Q (hp g m) sz pc ls (.int v :: .ref (ad g (LA i + 2)) :: st) :=
  V.putM hB fk_Win 2 hlink hd (by decide) rfl ((ca_Win hi) m) (Nat.le_of_ble_eq_true rfl) rfl rfl (by rw [ca_Win hi (up m (LA i + 2) 2 v)]; simp [up]) (by unfold LA; split <;> omega) kk
theorem fk_Bells : FK 7 RX9 TX9 11 tyX9 := ⟨rfl, fun w hw => ⟨w_in_X9 w hw, w_good_X9 w hw⟩, tyX9_ok, nmX9⟩
theorem V.p_Bells_hasSnapshot (hB : Bd g B cc nL own ret d mc ms) {idx : Nat} {v : Int32} (hlink : WD (.fieldLink own idx (TX9 3).1 (TX9 3).2.1 (TX9 3).2.2.1)) (hd : decode cc pc = .ok (.putfield idx, 3))  (hn : narrow .boolean (.int v) = .int v) (hfit : fits .boolean (.int v) = true) (kk : V g B k n Q (hp g (up m (0) 3 v)) sz (pc + 3) ls st) : V g B k n Q (hp g m) sz pc ls (.int v :: .ref (ad g (0)) :: st) :=
  V.putM hB fk_Bells 3 hlink hd (by decide) rfl (ca_Bells m) (Nat.le_of_ble_eq_true rfl) hn hfit (by rw [ca_Bells (up m 0 3 v)]; simp [up]) (by decide) kk
theorem V.p_Bells_errorPosition (hB : Bd g B cc nL own ret d mc ms) {idx : Nat} {v : Int32} (hlink : WD (.fieldLink own idx (TX9 6).1 (TX9 6).2.1 (TX9 6).2.2.1)) (hd : decode cc pc = .ok (.putfield idx, 3))  (kk : V g B k n Q (hp g (up m (0) 6 v)) sz (pc + 3) ls st) : V g B k n Q (hp g m) sz pc ls (.int v :: .ref (ad g (0)) :: st) :=
  V.putM hB fk_Bells 6 hlink hd (by decide) rfl (ca_Bells m) (Nat.le_of_ble_eq_true rfl) rfl rfl (by rw [ca_Bells (up m 0 6 v)]; simp [up]) (by decide) kk
theorem V.p_Bells_failedCommand (hB : Bd g B cc nL own ret d mc ms) {idx : Nat} {v : Int32} (hlink : WD (.fieldLink own idx (TX9 7).1 (TX9 7).2.1 (TX9 7).2.2.1)) (hd : decode cc pc = .ok (.putfield idx, 3))  (kk : V g B k n Q (hp g (up m (0) 7 v)) sz (pc + 3) ls st) : V g B k n Q (hp g m) sz pc ls (.int v :: .ref (ad g (0)) :: st) :=
  V.putM hB fk_Bells 7 hlink hd (by decide) rfl (ca_Bells m) (Nat.le_of_ble_eq_true rfl) rfl rfl (by rw [ca_Bells (up m 0 7 v)]; simp [up]) (by decide) kk
theorem V.p_Bells_failureKind (hB : Bd g B cc nL own ret d mc ms) {idx : Nat} {v : Int32} (hlink : WD (.fieldLink own idx (TX9 8).1 (TX9 8).2.1 (TX9 8).2.2.1)) (hd : decode cc pc = .ok (.putfield idx, 3))  (hn : narrow .char (.int v) = .int v) (hfit : fits .char (.int v) = true) (kk : V g B k n Q (hp g (up m (0) 8 v)) sz (pc + 3) ls st) : V g B k n Q (hp g m) sz pc ls (.int v :: .ref (ad g (0)) :: st) :=
  V.putM hB fk_Bells 8 hlink hd (by decide) rfl (ca_Bells m) (Nat.le_of_ble_eq_true rfl) hn hfit (by rw [ca_Bells (up m 0 8 v)]; simp [up]) (by decide) kk
theorem fk_Model : FK 8 RX10 TX10 21 tyX10 := ⟨rfl, fun w hw => ⟨w_in_X10 w hw, w_good_X10 w hw⟩, tyX10_ok, nmX10⟩
theorem V.p_Model_isSaved (hB : Bd g B cc nL own ret d mc ms) {idx : Nat} {v : Int32} (hlink : WD (.fieldLink own idx (TX10 5).1 (TX10 5).2.1 (TX10 5).2.2.1)) (hd : decode cc pc = .ok (.putfield idx, 3))  (hn : narrow .boolean (.int v) = .int v) (hfit : fits .boolean (.int v) = true) (kk : V g B k n Q (hp g (up m (363) 5 v)) sz (pc + 3) ls st) : V g B k n Q (hp g m) sz pc ls (.int v :: .ref (ad g (363)) :: st) :=
  V.putM hB fk_Model 5 hlink hd (by decide) rfl (ca_Model m) (Nat.le_of_ble_eq_true rfl) hn hfit (by rw [ca_Model (up m 363 5 v)]; simp [up]) (by decide) kk
theorem V.p_Model_f6 (hB : Bd g B cc nL own ret d mc ms) {idx : Nat} {v : Int32} (hlink : WD (.fieldLink own idx (TX10 6).1 (TX10 6).2.1 (TX10 6).2.2.1)) (hd : decode cc pc = .ok (.putfield idx, 3))  (kk : V g B k n Q (hp g (up m (363) 6 v)) sz (pc + 3) ls st) : V g B k n Q (hp g m) sz pc ls (.int v :: .ref (ad g (363)) :: st) :=
  V.putM hB fk_Model 6 hlink hd (by decide) rfl (ca_Model m) (Nat.le_of_ble_eq_true rfl) rfl rfl (by rw [ca_Model (up m 363 6 v)]; simp [up]) (by decide) kk
theorem V.p_Model_f7 (hB : Bd g B cc nL own ret d mc ms) {idx : Nat} {v : Int32} (hlink : WD (.fieldLink own idx (TX10 7).1 (TX10 7).2.1 (TX10 7).2.2.1)) (hd : decode cc pc = .ok (.putfield idx, 3))  (kk : V g B k n Q (hp g (up m (363) 7 v)) sz (pc + 3) ls st) : V g B k n Q (hp g m) sz pc ls (.int v :: .ref (ad g (363)) :: st) :=
  V.putM hB fk_Model 7 hlink hd (by decide) rfl (ca_Model m) (Nat.le_of_ble_eq_true rfl) rfl rfl (by rw [ca_Model (up m 363 7 v)]; simp [up]) (by decide) kk
theorem V.p_Model_f8 (hB : Bd g B cc nL own ret d mc ms) {idx : Nat} {v : Int32} (hlink : WD (.fieldLink own idx (TX10 8).1 (TX10 8).2.1 (TX10 8).2.2.1)) (hd : decode cc pc = .ok (.putfield idx, 3))  (kk : V g B k n Q (hp g (up m (363) 8 v)) sz (pc + 3) ls st) : V g B k n Q (hp g m) sz pc ls (.int v :: .ref (ad g (363)) :: st) :=
  V.putM hB fk_Model 8 hlink hd (by decide) rfl (ca_Model m) (Nat.le_of_ble_eq_true rfl) rfl rfl (by rw [ca_Model (up m 363 8 v)]; simp [up]) (by decide) kk
theorem V.p_Model_f9 (hB : Bd g B cc nL own ret d mc ms) {idx : Nat} {v : Int32} (hlink : WD (.fieldLink own idx (TX10 9).1 (TX10 9).2.1 (TX10 9).2.2.1)) (hd : decode cc pc = .ok (.putfield idx, 3))  (kk : V g B k n Q (hp g (up m (363) 9 v)) sz (pc + 3) ls st) : V g B k n Q (hp g m) sz pc ls (.int v :: .ref (ad g (363)) :: st) :=
  V.putM hB fk_Model 9 hlink hd (by decide) rfl (ca_Model m) (Nat.le_of_ble_eq_true rfl) rfl rfl (by rw [ca_Model (up m 363 9 v)]; simp [up]) (by decide) kk
theorem V.p_Model_f12 (hB : Bd g B cc nL own ret d mc ms) {idx : Nat} {v : Int32} (hlink : WD (.fieldLink own idx (TX10 12).1 (TX10 12).2.1 (TX10 12).2.2.1)) (hd : decode cc pc = .ok (.putfield idx, 3))  (kk : V g B k n Q (hp g (up m (363) 12 v)) sz (pc + 3) ls st) : V g B k n Q (hp g m) sz pc ls (.int v :: .ref (ad g (363)) :: st) :=
  V.putM hB fk_Model 12 hlink hd (by decide) rfl (ca_Model m) (Nat.le_of_ble_eq_true rfl) rfl rfl (by rw [ca_Model (up m 363 12 v)]; simp [up]) (by decide) kk
theorem V.p_Model_f14 (hB : Bd g B cc nL own ret d mc ms) {idx : Nat} {v : Int32} (hlink : WD (.fieldLink own idx (TX10 14).1 (TX10 14).2.1 (TX10 14).2.2.1)) (hd : decode cc pc = .ok (.putfield idx, 3))  (kk : V g B k n Q (hp g (up m (363) 14 v)) sz (pc + 3) ls st) : V g B k n Q (hp g m) sz pc ls (.int v :: .ref (ad g (363)) :: st) :=
  V.putM hB fk_Model 14 hlink hd (by decide) rfl (ca_Model m) (Nat.le_of_ble_eq_true rfl) rfl rfl (by rw [ca_Model (up m 363 14 v)]; simp [up]) (by decide) kk
theorem V.p_Model_f15 (hB : Bd g B cc nL own ret d mc ms) {idx : Nat} {v : Int32} (hlink : WD (.fieldLink own idx (TX10 15).1 (TX10 15).2.1 (TX10 15).2.2.1)) (hd : decode cc pc = .ok (.putfield idx, 3))  (kk : V g B k n Q (hp g (up m (363) 15 v)) sz (pc + 3) ls st) : V g B k n Q (hp g m) sz pc ls (.int v :: .ref (ad g (363)) :: st) :=
  V.putM hB fk_Model 15 hlink hd (by decide) rfl (ca_Model m) (Nat.le_of_ble_eq_true rfl) rfl rfl (by rw [ca_Model (up m 363 15 v)]; simp [up]) (by decide) kk
theorem V.p_Model_f16 (hB : Bd g B cc nL own ret d mc ms) {idx : Nat} {v : Int32} (hlink : WD (.fieldLink own idx (TX10 16).1 (TX10 16).2.1 (TX10 16).2.2.1)) (hd : decode cc pc = .ok (.putfield idx, 3))  (kk : V g B k n Q (hp g (up m (363) 16 v)) sz (pc + 3) ls st) : V g B k n Q (hp g m) sz pc ls (.int v :: .ref (ad g (363)) :: st) :=
  V.putM hB fk_Model 16 hlink hd (by decide) rfl (ca_Model m) (Nat.le_of_ble_eq_true rfl) rfl rfl (by rw [ca_Model (up m 363 16 v)]; simp [up]) (by decide) kk
theorem V.p_Model_f17 (hB : Bd g B cc nL own ret d mc ms) {idx : Nat} {v : Int32} (hlink : WD (.fieldLink own idx (TX10 17).1 (TX10 17).2.1 (TX10 17).2.2.1)) (hd : decode cc pc = .ok (.putfield idx, 3))  (kk : V g B k n Q (hp g (up m (363) 17 v)) sz (pc + 3) ls st) : V g B k n Q (hp g m) sz pc ls (.int v :: .ref (ad g (363)) :: st) :=
  V.putM hB fk_Model 17 hlink hd (by decide) rfl (ca_Model m) (Nat.le_of_ble_eq_true rfl) rfl rfl (by rw [ca_Model (up m 363 17 v)]; simp [up]) (by decide) kk
theorem V.p_Model_f18 (hB : Bd g B cc nL own ret d mc ms) {idx : Nat} {v : Int32} (hlink : WD (.fieldLink own idx (TX10 18).1 (TX10 18).2.1 (TX10 18).2.2.1)) (hd : decode cc pc = .ok (.putfield idx, 3))  (kk : V g B k n Q (hp g (up m (363) 18 v)) sz (pc + 3) ls st) : V g B k n Q (hp g m) sz pc ls (.int v :: .ref (ad g (363)) :: st) :=
  V.putM hB fk_Model 18 hlink hd (by decide) rfl (ca_Model m) (Nat.le_of_ble_eq_true rfl) rfl rfl (by rw [ca_Model (up m 363 18 v)]; simp [up]) (by decide) kk
theorem V.p_Model_f19 (hB : Bd g B cc nL own ret d mc ms) {idx : Nat} {v : Int32} (hlink : WD (.fieldLink own idx (TX10 19).1 (TX10 19).2.1 (TX10 19).2.2.1)) (hd : decode cc pc = .ok (.putfield idx, 3))  (kk : V g B k n Q (hp g (up m (363) 19 v)) sz (pc + 3) ls st) : V g B k n Q (hp g m) sz pc ls (.int v :: .ref (ad g (363)) :: st) :=
  V.putM hB fk_Model 19 hlink hd (by decide) rfl (ca_Model m) (Nat.le_of_ble_eq_true rfl) rfl rfl (by rw [ca_Model (up m 363 19 v)]; simp [up]) (by decide) kk
theorem fk_SB : FK 9 RJ4 TJ4 4 tyJ4 := ⟨rfl, fun w hw => ⟨w_in_J4 w hw, w_good_J4 w hw⟩, tyJ4_ok, nmJ4⟩
theorem V.p_SB_maybeLatin1 (hB : Bd g B cc nL own ret d mc ms) {idx : Nat} {v : Int32} (hlink : WD (.fieldLink own idx (TJ4 2).1 (TJ4 2).2.1 (TJ4 2).2.2.1)) (hd : decode cc pc = .ok (.putfield idx, 3))  (hn : narrow .boolean (.int v) = .int v) (hfit : fits .boolean (.int v) = true) (kk : V g B k n Q (hp g (up m (360) 2 v)) sz (pc + 3) ls st) : V g B k n Q (hp g m) sz pc ls (.int v :: .ref (ad g (360)) :: st) :=
  V.putM hB fk_SB 2 hlink hd (by decide) rfl (ca_SB m) (Nat.le_of_ble_eq_true rfl) hn hfit (by rw [ca_SB (up m 360 2 v)]; simp [up]) (by decide) kk
theorem V.p_SB_count (hB : Bd g B cc nL own ret d mc ms) {idx : Nat} {v : Int32} (hlink : WD (.fieldLink own idx (TJ4 3).1 (TJ4 3).2.1 (TJ4 3).2.2.1)) (hd : decode cc pc = .ok (.putfield idx, 3))  (kk : V g B k n Q (hp g (up m (360) 3 v)) sz (pc + 3) ls st) : V g B k n Q (hp g m) sz pc ls (.int v :: .ref (ad g (360)) :: st) :=
  V.putM hB fk_SB 3 hlink hd (by decide) rfl (ca_SB m) (Nat.le_of_ble_eq_true rfl) rfl rfl (by rw [ca_SB (up m 360 3 v)]; simp [up]) (by decide) kk
end VM
end
