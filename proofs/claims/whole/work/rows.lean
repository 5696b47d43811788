section
-- ===== PART A: goes FIRST, ahead of the names: the tables' words, and 'selects' of the private methods out of them =====
/-- a private method of a class that the tables say can be made, by its rows of tables_1 -/
def lw_okq (q : MethodName × Nat) : Prop := (q.1.cls ≠ "java/lang/invoke/MethodHandle" ∧ q.1.cls ≠ "java/lang/invoke/VarHandle") ∧ Cond.instantiable q.1.cls q.2 ∈ tables_1 ∧ Cond.privateMethod q.1 ∈ tables_1 ∧ Cond.instanceMethod q.1 ∈ tables_1
theorem lw_p0 : lw_okq (⟨"TickKeeper", "zoneAt", "(I)LTickKeeper$Zone;"⟩, 10) := ⟨⟨by decide +kernel, by decide +kernel⟩, List.mem_of_getElem? (i := 18) (by decide +kernel), List.mem_of_getElem? (i := 272) (by decide +kernel), List.mem_of_getElem? (i := 273) (by decide +kernel)⟩
theorem lw_p1 : lw_okq (⟨"TickKeeper$Zone", "workingAfter", "(I)I"⟩, 4) := ⟨⟨by decide +kernel, by decide +kernel⟩, List.mem_of_getElem? (i := 203) (by decide +kernel), List.mem_of_getElem? (i := 313) (by decide +kernel), List.mem_of_getElem? (i := 314) (by decide +kernel)⟩
theorem lw_p2 : lw_okq (⟨"TickKeeper$Zone", "endOf", "(I)I"⟩, 4) := ⟨⟨by decide +kernel, by decide +kernel⟩, List.mem_of_getElem? (i := 203) (by decide +kernel), List.mem_of_getElem? (i := 350) (by decide +kernel), List.mem_of_getElem? (i := 351) (by decide +kernel)⟩
theorem lw_p3 : lw_okq (⟨"TickKeeper", "jobAt", "(I)LTickKeeper$Job;"⟩, 10) := ⟨⟨by decide +kernel, by decide +kernel⟩, List.mem_of_getElem? (i := 18) (by decide +kernel), List.mem_of_getElem? (i := 464) (by decide +kernel), List.mem_of_getElem? (i := 465) (by decide +kernel)⟩
theorem lw_p4 : lw_okq (⟨"TickKeeper", "reaches", "(II)Z"⟩, 10) := ⟨⟨by decide +kernel, by decide +kernel⟩, List.mem_of_getElem? (i := 18) (by decide +kernel), List.mem_of_getElem? (i := 514) (by decide +kernel), List.mem_of_getElem? (i := 515) (by decide +kernel)⟩
theorem lw_p5 : lw_okq (⟨"TickKeeper$Rule", "isEmpty", "()Z"⟩, 7) := ⟨⟨by decide +kernel, by decide +kernel⟩, List.mem_of_getElem? (i := 387) (by decide +kernel), List.mem_of_getElem? (i := 539) (by decide +kernel), List.mem_of_getElem? (i := 540) (by decide +kernel)⟩
theorem lw_p6 : lw_okq (⟨"TickKeeper$Rule", "nextLocal", "(II)I"⟩, 7) := ⟨⟨by decide +kernel, by decide +kernel⟩, List.mem_of_getElem? (i := 387) (by decide +kernel), List.mem_of_getElem? (i := 549) (by decide +kernel), List.mem_of_getElem? (i := 550) (by decide +kernel)⟩
theorem lw_p7 : lw_okq (⟨"TickKeeper$Rule", "nextTime", "(I)I"⟩, 7) := ⟨⟨by decide +kernel, by decide +kernel⟩, List.mem_of_getElem? (i := 387) (by decide +kernel), List.mem_of_getElem? (i := 554) (by decide +kernel), List.mem_of_getElem? (i := 555) (by decide +kernel)⟩
theorem lw_p8 : lw_okq (⟨"TickKeeper$Rule", "nextFitting", "(II)I"⟩, 7) := ⟨⟨by decide +kernel, by decide +kernel⟩, List.mem_of_getElem? (i := 387) (by decide +kernel), List.mem_of_getElem? (i := 564) (by decide +kernel), List.mem_of_getElem? (i := 565) (by decide +kernel)⟩
theorem lw_p9 : lw_okq (⟨"TickKeeper$Rule", "fitting", "(III)J"⟩, 7) := ⟨⟨by decide +kernel, by decide +kernel⟩, List.mem_of_getElem? (i := 387) (by decide +kernel), List.mem_of_getElem? (i := 570) (by decide +kernel), List.mem_of_getElem? (i := 571) (by decide +kernel)⟩
theorem lw_p10 : lw_okq (⟨"TickKeeper$Rule", "nextMoved", "(I)I"⟩, 7) := ⟨⟨by decide +kernel, by decide +kernel⟩, List.mem_of_getElem? (i := 387) (by decide +kernel), List.mem_of_getElem? (i := 582) (by decide +kernel), List.mem_of_getElem? (i := 583) (by decide +kernel)⟩
theorem lw_p11 : lw_okq (⟨"TickKeeper", "highestUpTo", "(I)I"⟩, 10) := ⟨⟨by decide +kernel, by decide +kernel⟩, List.mem_of_getElem? (i := 18) (by decide +kernel), List.mem_of_getElem? (i := 600) (by decide +kernel), List.mem_of_getElem? (i := 601) (by decide +kernel)⟩
theorem lw_p12 : lw_okq (⟨"TickKeeper", "registerOf", "(II)LTickKeeper$Register;"⟩, 10) := ⟨⟨by decide +kernel, by decide +kernel⟩, List.mem_of_getElem? (i := 18) (by decide +kernel), List.mem_of_getElem? (i := 604) (by decide +kernel), List.mem_of_getElem? (i := 605) (by decide +kernel)⟩
theorem lw_p13 : lw_okq (⟨"TickKeeper", "sendToOthers", "(IIIIII)V"⟩, 10) := ⟨⟨by decide +kernel, by decide +kernel⟩, List.mem_of_getElem? (i := 18) (by decide +kernel), List.mem_of_getElem? (i := 639) (by decide +kernel), List.mem_of_getElem? (i := 640) (by decide +kernel)⟩
theorem lw_p14 : lw_okq (⟨"TickKeeper", "handOver", "(LTickKeeper$Letter;)Z"⟩, 10) := ⟨⟨by decide +kernel, by decide +kernel⟩, List.mem_of_getElem? (i := 18) (by decide +kernel), List.mem_of_getElem? (i := 667) (by decide +kernel), List.mem_of_getElem? (i := 668) (by decide +kernel)⟩
theorem lw_p15 : lw_okq (⟨"TickKeeper", "handToDesk", "(LTickKeeper$Letter;LTickKeeper$Job;)V"⟩, 10) := ⟨⟨by decide +kernel, by decide +kernel⟩, List.mem_of_getElem? (i := 18) (by decide +kernel), List.mem_of_getElem? (i := 671) (by decide +kernel), List.mem_of_getElem? (i := 672) (by decide +kernel)⟩
def lw_privs_1 : List (MethodName × Nat) := [(⟨"TickKeeper", "zoneAt", "(I)LTickKeeper$Zone;"⟩, 10), (⟨"TickKeeper$Zone", "workingAfter", "(I)I"⟩, 4), (⟨"TickKeeper$Zone", "endOf", "(I)I"⟩, 4), (⟨"TickKeeper", "jobAt", "(I)LTickKeeper$Job;"⟩, 10), (⟨"TickKeeper", "reaches", "(II)Z"⟩, 10), (⟨"TickKeeper$Rule", "isEmpty", "()Z"⟩, 7), (⟨"TickKeeper$Rule", "nextLocal", "(II)I"⟩, 7), (⟨"TickKeeper$Rule", "nextTime", "(I)I"⟩, 7), (⟨"TickKeeper$Rule", "nextFitting", "(II)I"⟩, 7), (⟨"TickKeeper$Rule", "fitting", "(III)J"⟩, 7), (⟨"TickKeeper$Rule", "nextMoved", "(I)I"⟩, 7), (⟨"TickKeeper", "highestUpTo", "(I)I"⟩, 10), (⟨"TickKeeper", "registerOf", "(II)LTickKeeper$Register;"⟩, 10), (⟨"TickKeeper", "sendToOthers", "(IIIIII)V"⟩, 10), (⟨"TickKeeper", "handOver", "(LTickKeeper$Letter;)Z"⟩, 10), (⟨"TickKeeper", "handToDesk", "(LTickKeeper$Letter;LTickKeeper$Job;)V"⟩, 10)]
theorem lw_r1 : ∀ q ∈ lw_privs_1, lw_okq q := List.forall_mem_cons.mpr ⟨lw_p0, List.forall_mem_cons.mpr ⟨lw_p1, List.forall_mem_cons.mpr ⟨lw_p2, List.forall_mem_cons.mpr ⟨lw_p3, List.forall_mem_cons.mpr ⟨lw_p4, List.forall_mem_cons.mpr ⟨lw_p5, List.forall_mem_cons.mpr ⟨lw_p6, List.forall_mem_cons.mpr ⟨lw_p7, List.forall_mem_cons.mpr ⟨lw_p8, List.forall_mem_cons.mpr ⟨lw_p9, List.forall_mem_cons.mpr ⟨lw_p10, List.forall_mem_cons.mpr ⟨lw_p11, List.forall_mem_cons.mpr ⟨lw_p12, List.forall_mem_cons.mpr ⟨lw_p13, List.forall_mem_cons.mpr ⟨lw_p14, List.forall_mem_cons.mpr ⟨lw_p15, fun _ h => absurd h List.not_mem_nil⟩⟩⟩⟩⟩⟩⟩⟩⟩⟩⟩⟩⟩⟩⟩⟩
theorem lw_p16 : lw_okq (⟨"TickKeeper", "answerAsk", "(LTickKeeper$Letter;LTickKeeper$Register;)V"⟩, 10) := ⟨⟨by decide +kernel, by decide +kernel⟩, List.mem_of_getElem? (i := 18) (by decide +kernel), List.mem_of_getElem? (i := 684) (by decide +kernel), List.mem_of_getElem? (i := 685) (by decide +kernel)⟩
theorem lw_p17 : lw_okq (⟨"TickKeeper", "reply", "(LTickKeeper$Letter;IIII)V"⟩, 10) := ⟨⟨by decide +kernel, by decide +kernel⟩, List.mem_of_getElem? (i := 18) (by decide +kernel), List.mem_of_getElem? (i := 688) (by decide +kernel), List.mem_of_getElem? (i := 689) (by decide +kernel)⟩
theorem lw_p18 : lw_okq (⟨"TickKeeper", "answerWrite", "(LTickKeeper$Letter;LTickKeeper$Register;)V"⟩, 10) := ⟨⟨by decide +kernel, by decide +kernel⟩, List.mem_of_getElem? (i := 18) (by decide +kernel), List.mem_of_getElem? (i := 696) (by decide +kernel), List.mem_of_getElem? (i := 697) (by decide +kernel)⟩
theorem lw_p19 : lw_okq (⟨"TickKeeper", "finish", "(LTickKeeper$Letter;LTickKeeper$Job;LTickKeeper$Run;)V"⟩, 10) := ⟨⟨by decide +kernel, by decide +kernel⟩, List.mem_of_getElem? (i := 18) (by decide +kernel), List.mem_of_getElem? (i := 704) (by decide +kernel), List.mem_of_getElem? (i := 705) (by decide +kernel)⟩
theorem lw_p20 : lw_okq (⟨"TickKeeper", "decide", "(II)V"⟩, 10) := ⟨⟨by decide +kernel, by decide +kernel⟩, List.mem_of_getElem? (i := 18) (by decide +kernel), List.mem_of_getElem? (i := 717) (by decide +kernel), List.mem_of_getElem? (i := 718) (by decide +kernel)⟩
theorem lw_p21 : lw_okq (⟨"TickKeeper", "unmetWaits", "(LTickKeeper$Job;I)I"⟩, 10) := ⟨⟨by decide +kernel, by decide +kernel⟩, List.mem_of_getElem? (i := 18) (by decide +kernel), List.mem_of_getElem? (i := 730) (by decide +kernel), List.mem_of_getElem? (i := 731) (by decide +kernel)⟩
theorem lw_p22 : lw_okq (⟨"TickKeeper", "runCount", "()I"⟩, 10) := ⟨⟨by decide +kernel, by decide +kernel⟩, List.mem_of_getElem? (i := 18) (by decide +kernel), List.mem_of_getElem? (i := 818) (by decide +kernel), List.mem_of_getElem? (i := 819) (by decide +kernel)⟩
theorem lw_p23 : lw_okq (⟨"TickKeeperModel", "isZone", "(I)Z"⟩, 56) := ⟨⟨by decide +kernel, by decide +kernel⟩, List.mem_of_getElem? (i := 822) (by decide +kernel), List.mem_of_getElem? (i := 1005) (by decide +kernel), List.mem_of_getElem? (i := 1006) (by decide +kernel)⟩
theorem lw_p24 : lw_okq (⟨"TickKeeperModel", "isHoliday", "(II)Z"⟩, 56) := ⟨⟨by decide +kernel, by decide +kernel⟩, List.mem_of_getElem? (i := 822) (by decide +kernel), List.mem_of_getElem? (i := 1017) (by decide +kernel), List.mem_of_getElem? (i := 1018) (by decide +kernel)⟩
theorem lw_p25 : lw_okq (⟨"TickKeeperModel", "localOf", "(II)I"⟩, 56) := ⟨⟨by decide +kernel, by decide +kernel⟩, List.mem_of_getElem? (i := 822) (by decide +kernel), List.mem_of_getElem? (i := 1025) (by decide +kernel), List.mem_of_getElem? (i := 1026) (by decide +kernel)⟩
theorem lw_p26 : lw_okq (⟨"TickKeeperModel", "pieceFrom", "(II)I"⟩, 56) := ⟨⟨by decide +kernel, by decide +kernel⟩, List.mem_of_getElem? (i := 822) (by decide +kernel), List.mem_of_getElem? (i := 1029) (by decide +kernel), List.mem_of_getElem? (i := 1030) (by decide +kernel)⟩
theorem lw_p27 : lw_okq (⟨"TickKeeperModel", "pieceBy", "(II)I"⟩, 56) := ⟨⟨by decide +kernel, by decide +kernel⟩, List.mem_of_getElem? (i := 822) (by decide +kernel), List.mem_of_getElem? (i := 1033) (by decide +kernel), List.mem_of_getElem? (i := 1034) (by decide +kernel)⟩
theorem lw_p28 : lw_okq (⟨"TickKeeperModel", "momentOf", "(II)I"⟩, 56) := ⟨⟨by decide +kernel, by decide +kernel⟩, List.mem_of_getElem? (i := 822) (by decide +kernel), List.mem_of_getElem? (i := 1043) (by decide +kernel), List.mem_of_getElem? (i := 1044) (by decide +kernel)⟩
theorem lw_p29 : lw_okq (⟨"TickKeeperModel", "pieceTo", "(II)I"⟩, 56) := ⟨⟨by decide +kernel, by decide +kernel⟩, List.mem_of_getElem? (i := 822) (by decide +kernel), List.mem_of_getElem? (i := 1050) (by decide +kernel), List.mem_of_getElem? (i := 1051) (by decide +kernel)⟩
theorem lw_p30 : lw_okq (⟨"TickKeeperModel", "date", "(I)V"⟩, 56) := ⟨⟨by decide +kernel, by decide +kernel⟩, List.mem_of_getElem? (i := 822) (by decide +kernel), List.mem_of_getElem? (i := 1058) (by decide +kernel), List.mem_of_getElem? (i := 1059) (by decide +kernel)⟩
theorem lw_p31 : lw_okq (⟨"TickKeeperModel", "isWorking", "(II)Z"⟩, 56) := ⟨⟨by decide +kernel, by decide +kernel⟩, List.mem_of_getElem? (i := 822) (by decide +kernel), List.mem_of_getElem? (i := 1069) (by decide +kernel), List.mem_of_getElem? (i := 1070) (by decide +kernel)⟩
def lw_privs_2 : List (MethodName × Nat) := [(⟨"TickKeeper", "answerAsk", "(LTickKeeper$Letter;LTickKeeper$Register;)V"⟩, 10), (⟨"TickKeeper", "reply", "(LTickKeeper$Letter;IIII)V"⟩, 10), (⟨"TickKeeper", "answerWrite", "(LTickKeeper$Letter;LTickKeeper$Register;)V"⟩, 10), (⟨"TickKeeper", "finish", "(LTickKeeper$Letter;LTickKeeper$Job;LTickKeeper$Run;)V"⟩, 10), (⟨"TickKeeper", "decide", "(II)V"⟩, 10), (⟨"TickKeeper", "unmetWaits", "(LTickKeeper$Job;I)I"⟩, 10), (⟨"TickKeeper", "runCount", "()I"⟩, 10), (⟨"TickKeeperModel", "isZone", "(I)Z"⟩, 56), (⟨"TickKeeperModel", "isHoliday", "(II)Z"⟩, 56), (⟨"TickKeeperModel", "localOf", "(II)I"⟩, 56), (⟨"TickKeeperModel", "pieceFrom", "(II)I"⟩, 56), (⟨"TickKeeperModel", "pieceBy", "(II)I"⟩, 56), (⟨"TickKeeperModel", "momentOf", "(II)I"⟩, 56), (⟨"TickKeeperModel", "pieceTo", "(II)I"⟩, 56), (⟨"TickKeeperModel", "date", "(I)V"⟩, 56), (⟨"TickKeeperModel", "isWorking", "(II)Z"⟩, 56)]
theorem lw_r2 : ∀ q ∈ lw_privs_2, lw_okq q := List.forall_mem_cons.mpr ⟨lw_p16, List.forall_mem_cons.mpr ⟨lw_p17, List.forall_mem_cons.mpr ⟨lw_p18, List.forall_mem_cons.mpr ⟨lw_p19, List.forall_mem_cons.mpr ⟨lw_p20, List.forall_mem_cons.mpr ⟨lw_p21, List.forall_mem_cons.mpr ⟨lw_p22, List.forall_mem_cons.mpr ⟨lw_p23, List.forall_mem_cons.mpr ⟨lw_p24, List.forall_mem_cons.mpr ⟨lw_p25, List.forall_mem_cons.mpr ⟨lw_p26, List.forall_mem_cons.mpr ⟨lw_p27, List.forall_mem_cons.mpr ⟨lw_p28, List.forall_mem_cons.mpr ⟨lw_p29, List.forall_mem_cons.mpr ⟨lw_p30, List.forall_mem_cons.mpr ⟨lw_p31, fun _ h => absurd h List.not_mem_nil⟩⟩⟩⟩⟩⟩⟩⟩⟩⟩⟩⟩⟩⟩⟩⟩
theorem lw_p32 : lw_okq (⟨"TickKeeperModel", "isJob", "(I)Z"⟩, 56) := ⟨⟨by decide +kernel, by decide +kernel⟩, List.mem_of_getElem? (i := 822) (by decide +kernel), List.mem_of_getElem? (i := 1081) (by decide +kernel), List.mem_of_getElem? (i := 1082) (by decide +kernel)⟩
theorem lw_p33 : lw_okq (⟨"TickKeeperModel", "waitsFor", "(II)Z"⟩, 56) := ⟨⟨by decide +kernel, by decide +kernel⟩, List.mem_of_getElem? (i := 822) (by decide +kernel), List.mem_of_getElem? (i := 1113) (by decide +kernel), List.mem_of_getElem? (i := 1114) (by decide +kernel)⟩
theorem lw_p34 : lw_okq (⟨"TickKeeperModel", "dueFrom", "(III)I"⟩, 56) := ⟨⟨by decide +kernel, by decide +kernel⟩, List.mem_of_getElem? (i := 822) (by decide +kernel), List.mem_of_getElem? (i := 1125) (by decide +kernel), List.mem_of_getElem? (i := 1126) (by decide +kernel)⟩
theorem lw_p35 : lw_okq (⟨"TickKeeperModel", "byCalendar", "(III)I"⟩, 56) := ⟨⟨by decide +kernel, by decide +kernel⟩, List.mem_of_getElem? (i := 822) (by decide +kernel), List.mem_of_getElem? (i := 1129) (by decide +kernel), List.mem_of_getElem? (i := 1130) (by decide +kernel)⟩
theorem lw_p36 : lw_okq (⟨"TickKeeperModel", "isNever", "(I)Z"⟩, 56) := ⟨⟨by decide +kernel, by decide +kernel⟩, List.mem_of_getElem? (i := 822) (by decide +kernel), List.mem_of_getElem? (i := 1133) (by decide +kernel), List.mem_of_getElem? (i := 1134) (by decide +kernel)⟩
theorem lw_p37 : lw_okq (⟨"TickKeeperModel", "firstLocal", "(II)I"⟩, 56) := ⟨⟨by decide +kernel, by decide +kernel⟩, List.mem_of_getElem? (i := 822) (by decide +kernel), List.mem_of_getElem? (i := 1137) (by decide +kernel), List.mem_of_getElem? (i := 1138) (by decide +kernel)⟩
theorem lw_p38 : lw_okq (⟨"TickKeeperModel", "isOn", "(II)Z"⟩, 56) := ⟨⟨by decide +kernel, by decide +kernel⟩, List.mem_of_getElem? (i := 822) (by decide +kernel), List.mem_of_getElem? (i := 1147) (by decide +kernel), List.mem_of_getElem? (i := 1148) (by decide +kernel)⟩
theorem lw_p39 : lw_okq (⟨"TickKeeperModel", "fits", "(II)Z"⟩, 56) := ⟨⟨by decide +kernel, by decide +kernel⟩, List.mem_of_getElem? (i := 822) (by decide +kernel), List.mem_of_getElem? (i := 1151) (by decide +kernel), List.mem_of_getElem? (i := 1152) (by decide +kernel)⟩
theorem lw_p40 : lw_okq (⟨"TickKeeperModel", "inDay", "(IIII)I"⟩, 56) := ⟨⟨by decide +kernel, by decide +kernel⟩, List.mem_of_getElem? (i := 822) (by decide +kernel), List.mem_of_getElem? (i := 1161) (by decide +kernel), List.mem_of_getElem? (i := 1162) (by decide +kernel)⟩
theorem lw_p41 : lw_okq (⟨"TickKeeperModel", "isException", "(II)Z"⟩, 56) := ⟨⟨by decide +kernel, by decide +kernel⟩, List.mem_of_getElem? (i := 822) (by decide +kernel), List.mem_of_getElem? (i := 1165) (by decide +kernel), List.mem_of_getElem? (i := 1166) (by decide +kernel)⟩
theorem lw_p42 : lw_okq (⟨"TickKeeperModel", "begins", "(II)V"⟩, 56) := ⟨⟨by decide +kernel, by decide +kernel⟩, List.mem_of_getElem? (i := 822) (by decide +kernel), List.mem_of_getElem? (i := 1185) (by decide +kernel), List.mem_of_getElem? (i := 1186) (by decide +kernel)⟩
theorem lw_p43 : lw_okq (⟨"TickKeeperModel", "sends", "(IIIIIIII)V"⟩, 56) := ⟨⟨by decide +kernel, by decide +kernel⟩, List.mem_of_getElem? (i := 822) (by decide +kernel), List.mem_of_getElem? (i := 1189) (by decide +kernel), List.mem_of_getElem? (i := 1190) (by decide +kernel)⟩
theorem lw_p44 : lw_okq (⟨"TickKeeperModel", "isLetter", "(I)Z"⟩, 56) := ⟨⟨by decide +kernel, by decide +kernel⟩, List.mem_of_getElem? (i := 822) (by decide +kernel), List.mem_of_getElem? (i := 1197) (by decide +kernel), List.mem_of_getElem? (i := 1198) (by decide +kernel)⟩
theorem lw_p45 : lw_okq (⟨"TickKeeperModel", "removes", "(I)I"⟩, 56) := ⟨⟨by decide +kernel, by decide +kernel⟩, List.mem_of_getElem? (i := 822) (by decide +kernel), List.mem_of_getElem? (i := 1201) (by decide +kernel), List.mem_of_getElem? (i := 1202) (by decide +kernel)⟩
theorem lw_p46 : lw_okq (⟨"TickKeeperModel", "delivers", "()V"⟩, 56) := ⟨⟨by decide +kernel, by decide +kernel⟩, List.mem_of_getElem? (i := 822) (by decide +kernel), List.mem_of_getElem? (i := 1205) (by decide +kernel), List.mem_of_getElem? (i := 1206) (by decide +kernel)⟩
theorem lw_p47 : lw_okq (⟨"TickKeeperModel", "takes", "(II)V"⟩, 56) := ⟨⟨by decide +kernel, by decide +kernel⟩, List.mem_of_getElem? (i := 822) (by decide +kernel), List.mem_of_getElem? (i := 1209) (by decide +kernel), List.mem_of_getElem? (i := 1210) (by decide +kernel)⟩
def lw_privs_3 : List (MethodName × Nat) := [(⟨"TickKeeperModel", "isJob", "(I)Z"⟩, 56), (⟨"TickKeeperModel", "waitsFor", "(II)Z"⟩, 56), (⟨"TickKeeperModel", "dueFrom", "(III)I"⟩, 56), (⟨"TickKeeperModel", "byCalendar", "(III)I"⟩, 56), (⟨"TickKeeperModel", "isNever", "(I)Z"⟩, 56), (⟨"TickKeeperModel", "firstLocal", "(II)I"⟩, 56), (⟨"TickKeeperModel", "isOn", "(II)Z"⟩, 56), (⟨"TickKeeperModel", "fits", "(II)Z"⟩, 56), (⟨"TickKeeperModel", "inDay", "(IIII)I"⟩, 56), (⟨"TickKeeperModel", "isException", "(II)Z"⟩, 56), (⟨"TickKeeperModel", "begins", "(II)V"⟩, 56), (⟨"TickKeeperModel", "sends", "(IIIIIIII)V"⟩, 56), (⟨"TickKeeperModel", "isLetter", "(I)Z"⟩, 56), (⟨"TickKeeperModel", "removes", "(I)I"⟩, 56), (⟨"TickKeeperModel", "delivers", "()V"⟩, 56), (⟨"TickKeeperModel", "takes", "(II)V"⟩, 56)]
theorem lw_r3 : ∀ q ∈ lw_privs_3, lw_okq q := List.forall_mem_cons.mpr ⟨lw_p32, List.forall_mem_cons.mpr ⟨lw_p33, List.forall_mem_cons.mpr ⟨lw_p34, List.forall_mem_cons.mpr ⟨lw_p35, List.forall_mem_cons.mpr ⟨lw_p36, List.forall_mem_cons.mpr ⟨lw_p37, List.forall_mem_cons.mpr ⟨lw_p38, List.forall_mem_cons.mpr ⟨lw_p39, List.forall_mem_cons.mpr ⟨lw_p40, List.forall_mem_cons.mpr ⟨lw_p41, List.forall_mem_cons.mpr ⟨lw_p42, List.forall_mem_cons.mpr ⟨lw_p43, List.forall_mem_cons.mpr ⟨lw_p44, List.forall_mem_cons.mpr ⟨lw_p45, List.forall_mem_cons.mpr ⟨lw_p46, List.forall_mem_cons.mpr ⟨lw_p47, fun _ h => absurd h List.not_mem_nil⟩⟩⟩⟩⟩⟩⟩⟩⟩⟩⟩⟩⟩⟩⟩⟩
theorem lw_p48 : lw_okq (⟨"TickKeeperModel", "asked", "(IIII)V"⟩, 56) := ⟨⟨by decide +kernel, by decide +kernel⟩, List.mem_of_getElem? (i := 822) (by decide +kernel), List.mem_of_getElem? (i := 1213) (by decide +kernel), List.mem_of_getElem? (i := 1214) (by decide +kernel)⟩
theorem lw_p49 : lw_okq (⟨"TickKeeperModel", "promises", "(II)V"⟩, 56) := ⟨⟨by decide +kernel, by decide +kernel⟩, List.mem_of_getElem? (i := 822) (by decide +kernel), List.mem_of_getElem? (i := 1217) (by decide +kernel), List.mem_of_getElem? (i := 1218) (by decide +kernel)⟩
theorem lw_p50 : lw_okq (⟨"TickKeeperModel", "decides", "(II)V"⟩, 56) := ⟨⟨by decide +kernel, by decide +kernel⟩, List.mem_of_getElem? (i := 822) (by decide +kernel), List.mem_of_getElem? (i := 1221) (by decide +kernel), List.mem_of_getElem? (i := 1222) (by decide +kernel)⟩
theorem lw_p51 : lw_okq (⟨"TickKeeperModel", "claimFor", "(II)I"⟩, 56) := ⟨⟨by decide +kernel, by decide +kernel⟩, List.mem_of_getElem? (i := 822) (by decide +kernel), List.mem_of_getElem? (i := 1225) (by decide +kernel), List.mem_of_getElem? (i := 1226) (by decide +kernel)⟩
theorem lw_p52 : lw_okq (⟨"TickKeeperModel", "dueUpTo", "(III)I"⟩, 56) := ⟨⟨by decide +kernel, by decide +kernel⟩, List.mem_of_getElem? (i := 822) (by decide +kernel), List.mem_of_getElem? (i := 1229) (by decide +kernel), List.mem_of_getElem? (i := 1230) (by decide +kernel)⟩
theorem lw_p53 : lw_okq (⟨"TickKeeperModel", "lastByCalendar", "(III)I"⟩, 56) := ⟨⟨by decide +kernel, by decide +kernel⟩, List.mem_of_getElem? (i := 822) (by decide +kernel), List.mem_of_getElem? (i := 1233) (by decide +kernel), List.mem_of_getElem? (i := 1234) (by decide +kernel)⟩
theorem lw_p54 : lw_okq (⟨"TickKeeperModel", "mustWait", "(II)Z"⟩, 56) := ⟨⟨by decide +kernel, by decide +kernel⟩, List.mem_of_getElem? (i := 822) (by decide +kernel), List.mem_of_getElem? (i := 1237) (by decide +kernel), List.mem_of_getElem? (i := 1238) (by decide +kernel)⟩
theorem lw_p55 : lw_okq (⟨"TickKeeperModel", "ends", "(I)V"⟩, 56) := ⟨⟨by decide +kernel, by decide +kernel⟩, List.mem_of_getElem? (i := 822) (by decide +kernel), List.mem_of_getElem? (i := 1241) (by decide +kernel), List.mem_of_getElem? (i := 1242) (by decide +kernel)⟩
theorem lw_p56 : lw_okq (⟨"TickKeeperModel", "writes", "(IIII)V"⟩, 56) := ⟨⟨by decide +kernel, by decide +kernel⟩, List.mem_of_getElem? (i := 822) (by decide +kernel), List.mem_of_getElem? (i := 1245) (by decide +kernel), List.mem_of_getElem? (i := 1246) (by decide +kernel)⟩
theorem lw_p57 : lw_okq (⟨"TickKeeperModel", "written", "(II)V"⟩, 56) := ⟨⟨by decide +kernel, by decide +kernel⟩, List.mem_of_getElem? (i := 822) (by decide +kernel), List.mem_of_getElem? (i := 1249) (by decide +kernel), List.mem_of_getElem? (i := 1250) (by decide +kernel)⟩
theorem lw_p58 : lw_okq (⟨"TickKeeperModel", "guard1", "(I)I"⟩, 56) := ⟨⟨by decide +kernel, by decide +kernel⟩, List.mem_of_getElem? (i := 822) (by decide +kernel), List.mem_of_getElem? (i := 1253) (by decide +kernel), List.mem_of_getElem? (i := 1254) (by decide +kernel)⟩
theorem lw_p59 : lw_okq (⟨"TickKeeperModel", "refuses", "(II)V"⟩, 56) := ⟨⟨by decide +kernel, by decide +kernel⟩, List.mem_of_getElem? (i := 822) (by decide +kernel), List.mem_of_getElem? (i := 1257) (by decide +kernel), List.mem_of_getElem? (i := 1258) (by decide +kernel)⟩
def lw_privs_4 : List (MethodName × Nat) := [(⟨"TickKeeperModel", "asked", "(IIII)V"⟩, 56), (⟨"TickKeeperModel", "promises", "(II)V"⟩, 56), (⟨"TickKeeperModel", "decides", "(II)V"⟩, 56), (⟨"TickKeeperModel", "claimFor", "(II)I"⟩, 56), (⟨"TickKeeperModel", "dueUpTo", "(III)I"⟩, 56), (⟨"TickKeeperModel", "lastByCalendar", "(III)I"⟩, 56), (⟨"TickKeeperModel", "mustWait", "(II)Z"⟩, 56), (⟨"TickKeeperModel", "ends", "(I)V"⟩, 56), (⟨"TickKeeperModel", "writes", "(IIII)V"⟩, 56), (⟨"TickKeeperModel", "written", "(II)V"⟩, 56), (⟨"TickKeeperModel", "guard1", "(I)I"⟩, 56), (⟨"TickKeeperModel", "refuses", "(II)V"⟩, 56)]
theorem lw_r4 : ∀ q ∈ lw_privs_4, lw_okq q := List.forall_mem_cons.mpr ⟨lw_p48, List.forall_mem_cons.mpr ⟨lw_p49, List.forall_mem_cons.mpr ⟨lw_p50, List.forall_mem_cons.mpr ⟨lw_p51, List.forall_mem_cons.mpr ⟨lw_p52, List.forall_mem_cons.mpr ⟨lw_p53, List.forall_mem_cons.mpr ⟨lw_p54, List.forall_mem_cons.mpr ⟨lw_p55, List.forall_mem_cons.mpr ⟨lw_p56, List.forall_mem_cons.mpr ⟨lw_p57, List.forall_mem_cons.mpr ⟨lw_p58, List.forall_mem_cons.mpr ⟨lw_p59, fun _ h => absurd h List.not_mem_nil⟩⟩⟩⟩⟩⟩⟩⟩⟩⟩⟩⟩
def lw_privs : List (MethodName × Nat) := lw_privs_1 ++ (lw_privs_2 ++ (lw_privs_3 ++ (lw_privs_4)))
def lw_tbl : List Cond := k2_sels lw_privs ++ tables_1
theorem lw_privs_ok : ∀ q ∈ lw_privs, lw_okq q := by
  show ∀ q ∈ lw_privs_1 ++ (lw_privs_2 ++ (lw_privs_3 ++ (lw_privs_4))), lw_okq q
  exact List.forall_mem_append.mpr ⟨lw_r1, List.forall_mem_append.mpr ⟨lw_r2, List.forall_mem_append.mpr ⟨lw_r3, lw_r4⟩⟩⟩
end
section
/-! the tables of this claim as data: classes, fields, methods, links (written by program out of the claim's printed names) -/
def zk_cnl : List String := ["TickKeeper$Job", "TickKeeper$Letter", "TickKeeper$Letters", "TickKeeper$Register", "TickKeeper$Row", "TickKeeper$Rule", "TickKeeper$Run", "TickKeeper$Zone", "TickKeeper", "TickKeeperModel", "TickKeeper$Dates", "TickKeeperLaw", "java/lang/Math", "java/lang/Integer", "java/lang/Long", "java/util/Arrays"]
def zk_cn (i : Nat) : String := zk_cnl.getD i ""
def zk_TL : List (List (String × String × String × Bool)) := [
  [("TickKeeper$Job", "rule", "LTickKeeper$Rule;", true), ("TickKeeper$Job", "minutes", "LTickKeeper$Row;", true), ("TickKeeper$Job", "guards", "LTickKeeper$Row;", true), ("TickKeeper$Job", "mode", "I", false), ("TickKeeper$Job", "lateness", "I", false), ("TickKeeper$Job", "paused", "Z", false), ("TickKeeper$Job", "awaited", "I", false), ("TickKeeper$Job", "unmet", "I", false), ("TickKeeper$Job", "timesPassed", "I", false)],
  [("TickKeeper$Letter", "kind", "I", false), ("TickKeeper$Letter", "from", "I", false), ("TickKeeper$Letter", "to", "I", false), ("TickKeeper$Letter", "job", "I", false), ("TickKeeper$Letter", "ballot", "I", false), ("TickKeeper$Letter", "second", "I", false), ("TickKeeper$Letter", "upTo", "I", false), ("TickKeeper$Letter", "guard", "I", false)],
  [("TickKeeper$Letters", "row", "[LTickKeeper$Letter;", true), ("TickKeeper$Letters", "scrap", "LTickKeeper$Letter;", true), ("TickKeeper$Letters", "taken", "LTickKeeper$Letter;", false), ("TickKeeper$Letters", "size", "I", false), ("TickKeeper$Letters", "lostForRoom", "I", false)],
  [("TickKeeper$Register", "run", "LTickKeeper$Run;", true), ("TickKeeper$Register", "promised", "I", false), ("TickKeeper$Register", "accepted", "I", false), ("TickKeeper$Register", "upTo", "I", false), ("TickKeeper$Register", "guard", "I", false), ("TickKeeper$Register", "refusedBy", "I", false)],
  [("TickKeeper$Row", "limit", "I", true), ("TickKeeper$Row", "items", "[I", false), ("TickKeeper$Row", "size", "I", false)],
  [("TickKeeper$Rule", "zone", "LTickKeeper$Zone;", true), ("TickKeeper$Rule", "masks", "[J", true), ("TickKeeper$Rule", "nthWeekdays", "LTickKeeper$Row;", true), ("TickKeeper$Rule", "nthNumbers", "LTickKeeper$Row;", true), ("TickKeeper$Rule", "exceptions", "LTickKeeper$Row;", true), ("TickKeeper$Rule", "extras", "LTickKeeper$Row;", true), ("TickKeeper$Rule", "way", "I", false)],
  [("TickKeeper$Run", "stage", "I", false), ("TickKeeper$Run", "ballot", "I", false), ("TickKeeper$Run", "accepted", "I", false), ("TickKeeper$Run", "upTo", "I", false), ("TickKeeper$Run", "guard", "I", false), ("TickKeeper$Run", "minute", "I", false), ("TickKeeper$Run", "passesOver", "Z", false)],
  [("TickKeeper$Zone", "starts", "LTickKeeper$Row;", true), ("TickKeeper$Zone", "offsets", "LTickKeeper$Row;", true), ("TickKeeper$Zone", "holidays", "LTickKeeper$Row;", true), ("TickKeeper$Zone", "movedTo", "[I", true)],
  [("TickKeeper", "zones", "[LTickKeeper$Zone;", true), ("TickKeeper", "jobs", "[LTickKeeper$Job;", true), ("TickKeeper", "registers", "[LTickKeeper$Register;", true), ("TickKeeper", "schedulerDown", "[Z", true), ("TickKeeper", "deskDown", "[Z", true), ("TickKeeper", "letters", "LTickKeeper$Letters;", true), ("TickKeeper", "zoneCount", "I", false), ("TickKeeper", "jobCount", "I", false), ("TickKeeper", "minuteNow", "I", false), ("TickKeeper", "refusedEffects", "I", false)],
  [("TickKeeperModel", "now", "I", false), ("TickKeeperModel", "zones", "I", false), ("TickKeeperModel", "shifts", "[I", true), ("TickKeeperModel", "shiftAt", "[I", true), ("TickKeeperModel", "shiftBy", "[I", true), ("TickKeeperModel", "holidays", "[I", true), ("TickKeeperModel", "holidayOf", "[I", true), ("TickKeeperModel", "year", "I", false), ("TickKeeperModel", "month", "I", false), ("TickKeeperModel", "dayOf", "I", false), ("TickKeeperModel", "jobs", "I", false), ("TickKeeperModel", "zoneOf", "[I", true), ("TickKeeperModel", "minutes", "[J", true), ("TickKeeperModel", "hours", "[I", true), ("TickKeeperModel", "days", "[J", true), ("TickKeeperModel", "months", "[I", true), ("TickKeeperModel", "weekdays", "[I", true), ("TickKeeperModel", "nths", "[I", true), ("TickKeeperModel", "nthDay", "[I", true), ("TickKeeperModel", "nthIs", "[I", true), ("TickKeeperModel", "exceptions", "[I", true), ("TickKeeperModel", "exceptionAt", "[I", true), ("TickKeeperModel", "way", "[I", true), ("TickKeeperModel", "mode", "[I", true), ("TickKeeperModel", "lateness", "[I", true), ("TickKeeperModel", "isPaused", "[Z", true), ("TickKeeperModel", "others", "[I", true), ("TickKeeperModel", "otherOf", "[I", true), ("TickKeeperModel", "extras", "[I", true), ("TickKeeperModel", "extraAt", "[I", true), ("TickKeeperModel", "promised", "[I", true), ("TickKeeperModel", "accepted", "[I", true), ("TickKeeperModel", "upTo", "[I", true), ("TickKeeperModel", "guard", "[I", true), ("TickKeeperModel", "seen", "[I", true), ("TickKeeperModel", "run", "[I", true), ("TickKeeperModel", "phase", "[I", true), ("TickKeeperModel", "runAccepted", "[I", true), ("TickKeeperModel", "runUpTo", "[I", true), ("TickKeeperModel", "runGuard", "[I", true), ("TickKeeperModel", "claims", "[I", true), ("TickKeeperModel", "passesOver", "[Z", true), ("TickKeeperModel", "isDown", "[Z", true), ("TickKeeperModel", "isDeskDown", "[Z", true), ("TickKeeperModel", "waitingFor", "[I", true), ("TickKeeperModel", "passedOver", "[I", true), ("TickKeeperModel", "effects", "[I", true), ("TickKeeperModel", "effectMinute", "[I", true), ("TickKeeperModel", "effectGuard", "[I", true), ("TickKeeperModel", "takenMinute", "[I", true), ("TickKeeperModel", "takenGuard", "[I", true), ("TickKeeperModel", "lost", "I", false), ("TickKeeperModel", "refused", "I", false), ("TickKeeperModel", "letters", "I", false), ("TickKeeperModel", "letter", "[I", true), ("TickKeeperModel", "hand", "[I", true)]]
def zk_T (ci : Nat) : u_T := fun k => (zk_TL.getD ci []).getD k ("", "", "", false)
def zk_N (ci : Nat) : Nat := (zk_TL.getD ci []).length
def zk_tyl : List (List FieldType) := [
  [.object "TickKeeper$Rule", .object "TickKeeper$Row", .object "TickKeeper$Row", .int, .int, .boolean, .int, .int, .int],
  [.int, .int, .int, .int, .int, .int, .int, .int],
  [.array (.object "TickKeeper$Letter"), .object "TickKeeper$Letter", .object "TickKeeper$Letter", .int, .int],
  [.object "TickKeeper$Run", .int, .int, .int, .int, .int],
  [.int, .array .int, .int],
  [.object "TickKeeper$Zone", .array .long, .object "TickKeeper$Row", .object "TickKeeper$Row", .object "TickKeeper$Row", .object "TickKeeper$Row", .int],
  [.int, .int, .int, .int, .int, .int, .boolean],
  [.object "TickKeeper$Row", .object "TickKeeper$Row", .object "TickKeeper$Row", .array .int],
  [.array (.object "TickKeeper$Zone"), .array (.object "TickKeeper$Job"), .array (.object "TickKeeper$Register"), .array .boolean, .array .boolean, .object "TickKeeper$Letters", .int, .int, .int, .int],
  [.int, .int, .array .int, .array .int, .array .int, .array .int, .array .int, .int, .int, .int, .int, .array .int, .array .long, .array .int, .array .long, .array .int, .array .int, .array .int, .array .int, .array .int, .array .int, .array .int, .array .int, .array .int, .array .int, .array .boolean, .array .int, .array .int, .array .int, .array .int, .array .int, .array .int, .array .int, .array .int, .array .int, .array .int, .array .int, .array .int, .array .int, .array .int, .array .int, .array .boolean, .array .boolean, .array .boolean, .array .int, .array .int, .array .int, .array .int, .array .int, .array .int, .array .int, .int, .int, .int, .array .int, .array .int]]
def zk_ty (ci k : Nat) : FieldType := (zk_tyl.getD ci []).getD k .int
def zk_CL : List vw_C := (List.range 10).map fun ci => (zk_cn ci, zk_T ci, zk_N ci)
abbrev zk_Row : Type := MethodName × ByteArray × Nat × Option FieldType × Nat × Nat × Nat
def zk_r0 : zk_Row := (⟨"TickKeeper$Job", "<init>", "(LTickKeeper$Rule;)V"⟩, prog_3_method_1_code, 2, none, 0, 1, 2)
def zk_r1 : zk_Row := (⟨"TickKeeper$Job", "latestMinute", "()I"⟩, prog_3_method_3_code, 1, (some Jvm.ClassFile.FieldType.int), 0, 0, 1)
def zk_r2 : zk_Row := (⟨"TickKeeper$Job", "takes", "(II)Z"⟩, prog_3_method_4_code, 4, (some Jvm.ClassFile.FieldType.boolean), 0, 2, 3)
def zk_r3 : zk_Row := (⟨"TickKeeper$Job", "latenessAllowed", "()I"⟩, prog_3_method_2_code, 1, (some Jvm.ClassFile.FieldType.int), 0, 0, 0)
def zk_r4 : zk_Row := (⟨"TickKeeper$Job", "didSomeOf", "(I)Z"⟩, prog_3_method_5_code, 3, (some Jvm.ClassFile.FieldType.boolean), 0, 1, 3)
def zk_r5 : zk_Row := (⟨"TickKeeper$Letter", "<init>", "()V"⟩, prog_4_method_1_code, 1, none, 1, 0, 1)
def zk_r6 : zk_Row := (⟨"TickKeeper$Letter", "address", "(IIII)V"⟩, prog_4_method_2_code, 5, none, 1, 4, 0)
def zk_r7 : zk_Row := (⟨"TickKeeper$Letter", "say", "(IIII)V"⟩, prog_4_method_3_code, 5, none, 1, 4, 0)
def zk_r8 : zk_Row := (⟨"TickKeeper$Letters", "<init>", "()V"⟩, prog_5_method_1_code, 2, none, 2, 0, 2)
def zk_r9 : zk_Row := (⟨"TickKeeper$Letters", "post", "(IIII)LTickKeeper$Letter;"⟩, prog_5_method_3_code, 6, (some (Jvm.ClassFile.FieldType.object "TickKeeper$Letter")), 2, 4, 1)
def zk_r10 : zk_Row := (⟨"TickKeeper$Letters", "take", "(I)LTickKeeper$Letter;"⟩, prog_5_method_4_code, 4, (some (Jvm.ClassFile.FieldType.object "TickKeeper$Letter")), 2, 1, 1)
def zk_r11 : zk_Row := (⟨"TickKeeper$Letters", "at", "(I)LTickKeeper$Letter;"⟩, prog_5_method_2_code, 2, (some (Jvm.ClassFile.FieldType.object "TickKeeper$Letter")), 2, 1, 0)
def zk_r12 : zk_Row := (⟨"TickKeeper$Register", "<init>", "()V"⟩, prog_6_method_1_code, 1, none, 3, 0, 2)
def zk_r13 : zk_Row := (⟨"TickKeeper$Register", "beginRun", "(I)I"⟩, prog_6_method_2_code, 4, (some Jvm.ClassFile.FieldType.int), 3, 1, 1)
def zk_r14 : zk_Row := (⟨"TickKeeper$Register", "accept", "(III)V"⟩, prog_6_method_3_code, 4, none, 3, 3, 0)
def zk_r15 : zk_Row := (⟨"TickKeeper$Register", "beRefused", "(LTickKeeper$Letter;)V"⟩, prog_6_method_4_code, 2, none, 3, 1, 1)
def zk_r16 : zk_Row := (⟨"TickKeeper$Register", "forget", "()V"⟩, prog_6_method_5_code, 1, none, 3, 0, 1)
def zk_r17 : zk_Row := (⟨"TickKeeper$Row", "<init>", "(I)V"⟩, prog_7_method_1_code, 2, none, 4, 1, 1)
def zk_r18 : zk_Row := (⟨"TickKeeper$Row", "add", "(I)Z"⟩, prog_7_method_4_code, 2, (some Jvm.ClassFile.FieldType.boolean), 4, 1, 2)
def zk_r19 : zk_Row := (⟨"TickKeeper$Row", "at", "(I)I"⟩, prog_7_method_2_code, 2, (some Jvm.ClassFile.FieldType.int), 4, 1, 0)
def zk_r20 : zk_Row := (⟨"TickKeeper$Row", "has", "(I)Z"⟩, prog_7_method_3_code, 3, (some Jvm.ClassFile.FieldType.boolean), 4, 1, 0)
def zk_r21 : zk_Row := (⟨"TickKeeper$Row", "countWith", "(I)I"⟩, prog_7_method_5_code, 2, (some Jvm.ClassFile.FieldType.int), 4, 1, 3)
def zk_r22 : zk_Row := (⟨"TickKeeper$Rule", "<init>", "(LTickKeeper$Zone;)V"⟩, prog_8_method_1_code, 2, none, 5, 1, 2)
def zk_r23 : zk_Row := (⟨"TickKeeper$Rule", "setMask", "(IJ)I"⟩, prog_8_method_2_code, 4, (some Jvm.ClassFile.FieldType.int), 5, 2, 1)
def zk_r24 : zk_Row := (⟨"TickKeeper$Rule", "addNth", "(II)I"⟩, prog_8_method_3_code, 3, (some Jvm.ClassFile.FieldType.int), 5, 2, 4)
def zk_r25 : zk_Row := (⟨"TickKeeper$Rule", "addException", "(I)I"⟩, prog_8_method_4_code, 2, (some Jvm.ClassFile.FieldType.int), 5, 1, 4)
def zk_r26 : zk_Row := (⟨"TickKeeper$Rule", "firstDue", "(II)I"⟩, prog_8_method_6_code, 9, (some Jvm.ClassFile.FieldType.int), 5, 2, 4)
def zk_r27 : zk_Row := (⟨"TickKeeper$Rule", "isEmpty", "()Z"⟩, prog_8_method_8_code, 2, (some Jvm.ClassFile.FieldType.boolean), 5, 0, 0)
def zk_r28 : zk_Row := (⟨"TickKeeper$Rule", "nextLocal", "(II)I"⟩, prog_8_method_9_code, 9, (some Jvm.ClassFile.FieldType.int), 5, 2, 3)
def zk_r29 : zk_Row := (⟨"TickKeeper$Rule", "nextTime", "(I)I"⟩, prog_8_method_10_code, 7, (some Jvm.ClassFile.FieldType.int), 5, 1, 2)
def zk_r30 : zk_Row := (⟨"TickKeeper$Rule", "notBelow", "(JI)J"⟩, prog_8_method_14_code, 3, (some Jvm.ClassFile.FieldType.long), 5, 2, 0)
def zk_r31 : zk_Row := (⟨"TickKeeper$Rule", "lowest", "(J)I"⟩, prog_8_method_15_code, 2, (some Jvm.ClassFile.FieldType.int), 5, 1, 1)
def zk_r32 : zk_Row := (⟨"TickKeeper$Rule", "nextFitting", "(II)I"⟩, prog_8_method_11_code, 9, (some Jvm.ClassFile.FieldType.int), 5, 2, 2)
def zk_r33 : zk_Row := (⟨"TickKeeper$Rule", "fitting", "(III)J"⟩, prog_8_method_13_code, 10, (some Jvm.ClassFile.FieldType.long), 5, 3, 1)
def zk_r34 : zk_Row := (⟨"TickKeeper$Rule", "nextMoved", "(I)I"⟩, prog_8_method_12_code, 9, (some Jvm.ClassFile.FieldType.int), 5, 1, 2)
def zk_r35 : zk_Row := (⟨"TickKeeper$Rule", "addExtra", "(I)I"⟩, prog_8_method_5_code, 2, (some Jvm.ClassFile.FieldType.int), 5, 1, 4)
def zk_r36 : zk_Row := (⟨"TickKeeper$Rule", "lastDue", "(II)I"⟩, prog_8_method_7_code, 8, (some Jvm.ClassFile.FieldType.int), 5, 2, 5)
def zk_r37 : zk_Row := (⟨"TickKeeper$Run", "<init>", "()V"⟩, prog_9_method_1_code, 1, none, 6, 0, 1)
def zk_r38 : zk_Row := (⟨"TickKeeper$Run", "begin", "(IIII)V"⟩, prog_9_method_2_code, 5, none, 6, 4, 0)
def zk_r39 : zk_Row := (⟨"TickKeeper$Run", "reads", "(LTickKeeper$Letter;)Z"⟩, prog_9_method_3_code, 2, (some Jvm.ClassFile.FieldType.boolean), 6, 1, 0)
def zk_r40 : zk_Row := (⟨"TickKeeper$Run", "end", "()V"⟩, prog_9_method_5_code, 1, none, 6, 0, 0)
def zk_r41 : zk_Row := (⟨"TickKeeper$Run", "claim", "(IIZ)V"⟩, prog_9_method_4_code, 4, none, 6, 3, 0)
def zk_r42 : zk_Row := (⟨"TickKeeper$Zone", "<init>", "()V"⟩, prog_10_method_1_code, 1, none, 7, 0, 3)
def zk_r43 : zk_Row := (⟨"TickKeeper$Zone", "latestShift", "()I"⟩, prog_10_method_4_code, 1, (some Jvm.ClassFile.FieldType.int), 7, 0, 1)
def zk_r44 : zk_Row := (⟨"TickKeeper$Zone", "shiftCount", "()I"⟩, prog_10_method_3_code, 1, (some Jvm.ClassFile.FieldType.int), 7, 0, 0)
def zk_r45 : zk_Row := (⟨"TickKeeper$Zone", "addShift", "(II)Z"⟩, prog_10_method_5_code, 3, (some Jvm.ClassFile.FieldType.boolean), 7, 2, 3)
def zk_r46 : zk_Row := (⟨"TickKeeper$Zone", "isHoliday", "(I)Z"⟩, prog_10_method_13_code, 2, (some Jvm.ClassFile.FieldType.boolean), 7, 1, 1)
def zk_r47 : zk_Row := (⟨"TickKeeper$Zone", "addHoliday", "(I)Z"⟩, prog_10_method_15_code, 3, (some Jvm.ClassFile.FieldType.boolean), 7, 1, 4)
def zk_r48 : zk_Row := (⟨"TickKeeper$Zone", "workingAfter", "(I)I"⟩, prog_10_method_16_code, 3, (some Jvm.ClassFile.FieldType.int), 7, 1, 3)
def zk_r49 : zk_Row := (⟨"TickKeeper$Zone", "isWorking", "(I)Z"⟩, prog_10_method_14_code, 2, (some Jvm.ClassFile.FieldType.boolean), 7, 1, 2)
def zk_r50 : zk_Row := (⟨"TickKeeper$Zone", "localOf", "(I)I"⟩, prog_10_method_7_code, 4, (some Jvm.ClassFile.FieldType.int), 7, 1, 1)
def zk_r51 : zk_Row := (⟨"TickKeeper$Zone", "momentOf", "(I)I"⟩, prog_10_method_9_code, 5, (some Jvm.ClassFile.FieldType.int), 7, 1, 2)
def zk_r52 : zk_Row := (⟨"TickKeeper$Zone", "endOf", "(I)I"⟩, prog_10_method_6_code, 2, (some Jvm.ClassFile.FieldType.int), 7, 1, 1)
def zk_r53 : zk_Row := (⟨"TickKeeper$Zone", "highestBefore", "(I)I"⟩, prog_10_method_10_code, 5, (some Jvm.ClassFile.FieldType.int), 7, 1, 2)
def zk_r54 : zk_Row := (⟨"TickKeeper$Zone", "holidayBits", "(I)J"⟩, prog_10_method_18_code, 6, (some Jvm.ClassFile.FieldType.long), 7, 1, 1)
def zk_r55 : zk_Row := (⟨"TickKeeper$Zone", "movedFrom", "(I)I"⟩, prog_10_method_17_code, 2, (some Jvm.ClassFile.FieldType.int), 7, 1, 0)
def zk_r56 : zk_Row := (⟨"TickKeeper$Zone", "dayOf", "(I)I"⟩, prog_10_method_8_code, 2, (some Jvm.ClassFile.FieldType.int), 7, 1, 2)
def zk_r57 : zk_Row := (⟨"TickKeeper$Zone", "stretchCount", "()I"⟩, prog_10_method_2_code, 1, (some Jvm.ClassFile.FieldType.int), 7, 0, 0)
def zk_r58 : zk_Row := (⟨"TickKeeper$Zone", "firstOfDay", "(II)I"⟩, prog_10_method_11_code, 3, (some Jvm.ClassFile.FieldType.int), 7, 2, 1)
def zk_r59 : zk_Row := (⟨"TickKeeper$Zone", "lastOfDay", "(II)I"⟩, prog_10_method_12_code, 3, (some Jvm.ClassFile.FieldType.int), 7, 2, 2)
def zk_r60 : zk_Row := (⟨"TickKeeper", "<init>", "()V"⟩, prog_1_method_1_code, 2, none, 8, 0, 3)
def zk_r61 : zk_Row := (⟨"TickKeeper", "zone", "()I"⟩, prog_1_method_2_code, 1, (some Jvm.ClassFile.FieldType.int), 8, 0, 4)
def zk_r62 : zk_Row := (⟨"TickKeeper", "shift", "(III)I"⟩, prog_1_method_3_code, 5, (some Jvm.ClassFile.FieldType.int), 8, 3, 4)
def zk_r63 : zk_Row := (⟨"TickKeeper", "zoneAt", "(I)LTickKeeper$Zone;"⟩, prog_1_method_39_code, 2, (some (Jvm.ClassFile.FieldType.object "TickKeeper$Zone")), 8, 1, 0)
def zk_r64 : zk_Row := (⟨"TickKeeper", "isMinute", "(I)Z"⟩, prog_1_method_35_code, 1, (some Jvm.ClassFile.FieldType.boolean), 8, 1, 0)
def zk_r65 : zk_Row := (⟨"TickKeeper", "holiday", "(II)I"⟩, prog_1_method_4_code, 4, (some Jvm.ClassFile.FieldType.int), 8, 2, 5)
def zk_r66 : zk_Row := (⟨"TickKeeper", "local", "(II)I"⟩, prog_1_method_5_code, 4, (some Jvm.ClassFile.FieldType.int), 8, 2, 2)
def zk_r67 : zk_Row := (⟨"TickKeeper", "moment", "(II)I"⟩, prog_1_method_6_code, 4, (some Jvm.ClassFile.FieldType.int), 8, 2, 3)
def zk_r68 : zk_Row := (⟨"TickKeeper", "orNone", "(I)I"⟩, prog_1_method_38_code, 1, (some Jvm.ClassFile.FieldType.int), 8, 1, 0)
def zk_r69 : zk_Row := (⟨"TickKeeper", "day", "(III)I"⟩, prog_1_method_7_code, 6, (some Jvm.ClassFile.FieldType.int), 8, 3, 3)
def zk_r70 : zk_Row := (⟨"TickKeeper", "job", "(I)I"⟩, prog_1_method_8_code, 3, (some Jvm.ClassFile.FieldType.int), 8, 1, 3)
def zk_r71 : zk_Row := (⟨"TickKeeper", "mask", "(IIJ)I"⟩, prog_1_method_9_code, 6, (some Jvm.ClassFile.FieldType.int), 8, 3, 2)
def zk_r72 : zk_Row := (⟨"TickKeeper", "jobAt", "(I)LTickKeeper$Job;"⟩, prog_1_method_40_code, 2, (some (Jvm.ClassFile.FieldType.object "TickKeeper$Job")), 8, 1, 0)
def zk_r73 : zk_Row := (⟨"TickKeeper", "nth", "(III)I"⟩, prog_1_method_10_code, 5, (some Jvm.ClassFile.FieldType.int), 8, 3, 5)
def zk_r74 : zk_Row := (⟨"TickKeeper", "except", "(II)I"⟩, prog_1_method_11_code, 4, (some Jvm.ClassFile.FieldType.int), 8, 2, 5)
def zk_r75 : zk_Row := (⟨"TickKeeper", "onHoliday", "(II)I"⟩, prog_1_method_12_code, 5, (some Jvm.ClassFile.FieldType.int), 8, 2, 1)
def zk_r76 : zk_Row := (⟨"TickKeeper", "catchUp", "(III)I"⟩, prog_1_method_13_code, 5, (some Jvm.ClassFile.FieldType.int), 8, 3, 1)
def zk_r77 : zk_Row := (⟨"TickKeeper", "after", "(II)I"⟩, prog_1_method_14_code, 4, (some Jvm.ClassFile.FieldType.int), 8, 2, 2)
def zk_r78 : zk_Row := (⟨"TickKeeper", "reaches", "(II)Z"⟩, prog_1_method_42_code, 7, (some Jvm.ClassFile.FieldType.boolean), 8, 2, 1)
def zk_r79 : zk_Row := (⟨"TickKeeper", "pause", "(IZ)I"⟩, prog_1_method_15_code, 5, (some Jvm.ClassFile.FieldType.int), 8, 2, 1)
def zk_r80 : zk_Row := (⟨"TickKeeper", "due", "(II)I"⟩, prog_1_method_16_code, 4, (some Jvm.ClassFile.FieldType.int), 8, 2, 5)
def zk_r81 : zk_Row := (⟨"TickKeeper", "between", "(IIII)I"⟩, prog_1_method_17_code, 8, (some Jvm.ClassFile.FieldType.int), 8, 4, 5)
def zk_r82 : zk_Row := (⟨"TickKeeper", "runNow", "(I)I"⟩, prog_1_method_18_code, 4, (some Jvm.ClassFile.FieldType.int), 8, 1, 5)
def zk_r83 : zk_Row := (⟨"TickKeeper", "highestUpTo", "(I)I"⟩, prog_1_method_43_code, 5, (some Jvm.ClassFile.FieldType.int), 8, 1, 2)
def zk_r84 : zk_Row := (⟨"TickKeeper", "registerOf", "(II)LTickKeeper$Register;"⟩, prog_1_method_41_code, 3, (some (Jvm.ClassFile.FieldType.object "TickKeeper$Register")), 8, 2, 1)
def zk_r85 : zk_Row := (⟨"TickKeeper", "isScheduler", "(I)Z"⟩, prog_1_method_36_code, 1, (some Jvm.ClassFile.FieldType.boolean), 8, 1, 0)
def zk_r86 : zk_Row := (⟨"TickKeeper", "now", "(I)I"⟩, prog_1_method_19_code, 2, (some Jvm.ClassFile.FieldType.int), 8, 1, 1)
def zk_r87 : zk_Row := (⟨"TickKeeper", "wake", "(I)I"⟩, prog_1_method_20_code, 7, (some Jvm.ClassFile.FieldType.int), 8, 1, 5)
def zk_r88 : zk_Row := (⟨"TickKeeper", "sendToOthers", "(IIIIII)V"⟩, prog_1_method_53_code, 9, none, 8, 6, 2)
def zk_r89 : zk_Row := (⟨"TickKeeper", "deliver", "(I)I"⟩, prog_1_method_21_code, 3, (some Jvm.ClassFile.FieldType.int), 8, 1, 7)
def zk_r90 : zk_Row := (⟨"TickKeeper", "handOver", "(LTickKeeper$Letter;)Z"⟩, prog_1_method_45_code, 4, (some Jvm.ClassFile.FieldType.boolean), 8, 1, 5)
def zk_r91 : zk_Row := (⟨"TickKeeper", "handToDesk", "(LTickKeeper$Letter;LTickKeeper$Job;)V"⟩, prog_1_method_46_code, 3, none, 8, 2, 4)
def zk_r92 : zk_Row := (⟨"TickKeeper", "isDesk", "(I)Z"⟩, prog_1_method_37_code, 1, (some Jvm.ClassFile.FieldType.boolean), 8, 1, 0)
def zk_r93 : zk_Row := (⟨"TickKeeper", "answerAsk", "(LTickKeeper$Letter;LTickKeeper$Register;)V"⟩, prog_1_method_47_code, 3, none, 8, 2, 3)
def zk_r94 : zk_Row := (⟨"TickKeeper", "reply", "(LTickKeeper$Letter;IIII)V"⟩, prog_1_method_52_code, 7, none, 8, 5, 2)
def zk_r95 : zk_Row := (⟨"TickKeeper", "answerWrite", "(LTickKeeper$Letter;LTickKeeper$Register;)V"⟩, prog_1_method_48_code, 3, none, 8, 2, 3)
def zk_r96 : zk_Row := (⟨"TickKeeper", "finish", "(LTickKeeper$Letter;LTickKeeper$Job;LTickKeeper$Run;)V"⟩, prog_1_method_49_code, 5, none, 8, 3, 2)
def zk_r97 : zk_Row := (⟨"TickKeeper", "decide", "(II)V"⟩, prog_1_method_50_code, 10, none, 8, 2, 6)
def zk_r98 : zk_Row := (⟨"TickKeeper", "unmetWaits", "(LTickKeeper$Job;I)I"⟩, prog_1_method_51_code, 9, (some Jvm.ClassFile.FieldType.int), 8, 2, 5)
def zk_r99 : zk_Row := (⟨"TickKeeper", "flow", "(I)I"⟩, prog_1_method_22_code, 5, (some Jvm.ClassFile.FieldType.int), 8, 1, 7)
def zk_r100 : zk_Row := (⟨"TickKeeper", "lose", "(I)I"⟩, prog_1_method_23_code, 3, (some Jvm.ClassFile.FieldType.int), 8, 1, 2)
def zk_r101 : zk_Row := (⟨"TickKeeper", "twin", "(I)I"⟩, prog_1_method_24_code, 4, (some Jvm.ClassFile.FieldType.int), 8, 1, 2)
def zk_r102 : zk_Row := (⟨"TickKeeper", "letter", "(II)I"⟩, prog_1_method_25_code, 4, (some Jvm.ClassFile.FieldType.int), 8, 2, 1)
def zk_r103 : zk_Row := (⟨"TickKeeper", "crash", "(I)I"⟩, prog_1_method_26_code, 5, (some Jvm.ClassFile.FieldType.int), 8, 1, 2)
def zk_r104 : zk_Row := (⟨"TickKeeper", "restart", "(I)I"⟩, prog_1_method_27_code, 2, (some Jvm.ClassFile.FieldType.int), 8, 1, 1)
def zk_r105 : zk_Row := (⟨"TickKeeper", "desk", "(IZ)I"⟩, prog_1_method_28_code, 4, (some Jvm.ClassFile.FieldType.int), 8, 2, 1)
def zk_r106 : zk_Row := (⟨"TickKeeper", "register", "(III)I"⟩, prog_1_method_29_code, 5, (some Jvm.ClassFile.FieldType.int), 8, 3, 2)
def zk_r107 : zk_Row := (⟨"TickKeeper", "effects", "(I)I"⟩, prog_1_method_30_code, 3, (some Jvm.ClassFile.FieldType.int), 8, 1, 1)
def zk_r108 : zk_Row := (⟨"TickKeeper", "effect", "(III)I"⟩, prog_1_method_31_code, 5, (some Jvm.ClassFile.FieldType.int), 8, 3, 1)
def zk_r109 : zk_Row := (⟨"TickKeeper", "waiting", "(I)I"⟩, prog_1_method_32_code, 3, (some Jvm.ClassFile.FieldType.int), 8, 1, 1)
def zk_r110 : zk_Row := (⟨"TickKeeper", "passed", "(I)I"⟩, prog_1_method_33_code, 3, (some Jvm.ClassFile.FieldType.int), 8, 1, 1)
def zk_r111 : zk_Row := (⟨"TickKeeper", "count", "(I)I"⟩, prog_1_method_34_code, 2, (some Jvm.ClassFile.FieldType.int), 8, 1, 1)
def zk_r112 : zk_Row := (⟨"TickKeeper", "runCount", "()I"⟩, prog_1_method_44_code, 3, (some Jvm.ClassFile.FieldType.int), 8, 0, 0)
def zk_r113 : zk_Row := (⟨"TickKeeperModel", "<init>", "()V"⟩, prog_12_method_1_code, 2, none, 9, 0, 1)
def zk_r114 : zk_Row := (⟨"TickKeeperModel", "zone", "()I"⟩, prog_12_method_8_code, 1, (some Jvm.ClassFile.FieldType.int), 9, 0, 0)
def zk_r115 : zk_Row := (⟨"TickKeeperModel", "shift", "(III)I"⟩, prog_12_method_9_code, 5, (some Jvm.ClassFile.FieldType.int), 9, 3, 2)
def zk_r116 : zk_Row := (⟨"TickKeeperModel", "isZone", "(I)Z"⟩, prog_12_method_7_code, 2, (some Jvm.ClassFile.FieldType.boolean), 9, 1, 1)
def zk_r117 : zk_Row := (⟨"TickKeeperModel", "in", "(III)Z"⟩, prog_12_method_3_code, 3, (some Jvm.ClassFile.FieldType.boolean), 9, 3, 0)
def zk_r118 : zk_Row := (⟨"TickKeeperModel", "holiday", "(II)I"⟩, prog_12_method_11_code, 3, (some Jvm.ClassFile.FieldType.int), 9, 2, 2)
def zk_r119 : zk_Row := (⟨"TickKeeperModel", "isHoliday", "(II)Z"⟩, prog_12_method_10_code, 5, (some Jvm.ClassFile.FieldType.boolean), 9, 2, 0)
def zk_r120 : zk_Row := (⟨"TickKeeperModel", "local", "(II)I"⟩, prog_12_method_16_code, 3, (some Jvm.ClassFile.FieldType.int), 9, 2, 2)
def zk_r121 : zk_Row := (⟨"TickKeeperModel", "localOf", "(II)I"⟩, prog_12_method_15_code, 5, (some Jvm.ClassFile.FieldType.int), 9, 2, 1)
def zk_r122 : zk_Row := (⟨"TickKeeperModel", "pieceFrom", "(II)I"⟩, prog_12_method_12_code, 3, (some Jvm.ClassFile.FieldType.int), 9, 2, 0)
def zk_r123 : zk_Row := (⟨"TickKeeperModel", "pieceBy", "(II)I"⟩, prog_12_method_14_code, 3, (some Jvm.ClassFile.FieldType.int), 9, 2, 0)
def zk_r124 : zk_Row := (⟨"TickKeeperModel", "moment", "(II)I"⟩, prog_12_method_18_code, 3, (some Jvm.ClassFile.FieldType.int), 9, 2, 3)
def zk_r125 : zk_Row := (⟨"TickKeeperModel", "momentOf", "(II)I"⟩, prog_12_method_17_code, 5, (some Jvm.ClassFile.FieldType.int), 9, 2, 2)
def zk_r126 : zk_Row := (⟨"TickKeeperModel", "more", "(II)I"⟩, prog_12_method_5_code, 2, (some Jvm.ClassFile.FieldType.int), 9, 2, 0)
def zk_r127 : zk_Row := (⟨"TickKeeperModel", "pieceTo", "(II)I"⟩, prog_12_method_13_code, 3, (some Jvm.ClassFile.FieldType.int), 9, 2, 0)
def zk_r128 : zk_Row := (⟨"TickKeeperModel", "day", "(III)I"⟩, prog_12_method_25_code, 4, (some Jvm.ClassFile.FieldType.int), 9, 3, 2)
def zk_r129 : zk_Row := (⟨"TickKeeperModel", "date", "(I)V"⟩, prog_12_method_22_code, 8, none, 9, 1, 0)
def zk_r130 : zk_Row := (⟨"TickKeeperModel", "weekday", "(I)I"⟩, prog_12_method_23_code, 2, (some Jvm.ClassFile.FieldType.int), 9, 1, 0)
def zk_r131 : zk_Row := (⟨"TickKeeperModel", "isWorking", "(II)Z"⟩, prog_12_method_24_code, 3, (some Jvm.ClassFile.FieldType.boolean), 9, 2, 1)
def zk_r132 : zk_Row := (⟨"TickKeeperModel", "job", "(I)I"⟩, prog_12_method_27_code, 2, (some Jvm.ClassFile.FieldType.int), 9, 1, 2)
def zk_r133 : zk_Row := (⟨"TickKeeperModel", "mask", "(IIJ)I"⟩, prog_12_method_29_code, 7, (some Jvm.ClassFile.FieldType.int), 9, 3, 2)
def zk_r134 : zk_Row := (⟨"TickKeeperModel", "isJob", "(I)Z"⟩, prog_12_method_26_code, 2, (some Jvm.ClassFile.FieldType.boolean), 9, 1, 1)
def zk_r135 : zk_Row := (⟨"TickKeeperModel", "bitsOf", "(J)I"⟩, prog_12_method_28_code, 4, (some Jvm.ClassFile.FieldType.int), 9, 1, 0)
def zk_r136 : zk_Row := (⟨"TickKeeperModel", "nth", "(III)I"⟩, prog_12_method_30_code, 4, (some Jvm.ClassFile.FieldType.int), 9, 3, 2)
def zk_r137 : zk_Row := (⟨"TickKeeperModel", "except", "(II)I"⟩, prog_12_method_31_code, 3, (some Jvm.ClassFile.FieldType.int), 9, 2, 2)
def zk_r138 : zk_Row := (⟨"TickKeeperModel", "onHoliday", "(II)I"⟩, prog_12_method_32_code, 4, (some Jvm.ClassFile.FieldType.int), 9, 2, 2)
def zk_r139 : zk_Row := (⟨"TickKeeperModel", "catchUp", "(III)I"⟩, prog_12_method_33_code, 4, (some Jvm.ClassFile.FieldType.int), 9, 3, 2)
def zk_r140 : zk_Row := (⟨"TickKeeperModel", "after", "(II)I"⟩, prog_12_method_35_code, 5, (some Jvm.ClassFile.FieldType.int), 9, 2, 2)
def zk_r141 : zk_Row := (⟨"TickKeeperModel", "waitsFor", "(II)Z"⟩, prog_12_method_34_code, 7, (some Jvm.ClassFile.FieldType.boolean), 9, 2, 0)
def zk_r142 : zk_Row := (⟨"TickKeeperModel", "pause", "(IZ)I"⟩, prog_12_method_36_code, 4, (some Jvm.ClassFile.FieldType.int), 9, 2, 2)
def zk_r143 : zk_Row := (⟨"TickKeeperModel", "due", "(II)I"⟩, prog_12_method_46_code, 4, (some Jvm.ClassFile.FieldType.int), 9, 2, 6)
def zk_r144 : zk_Row := (⟨"TickKeeperModel", "dueFrom", "(III)I"⟩, prog_12_method_44_code, 7, (some Jvm.ClassFile.FieldType.int), 9, 3, 5)
def zk_r145 : zk_Row := (⟨"TickKeeperModel", "byCalendar", "(III)I"⟩, prog_12_method_40_code, 9, (some Jvm.ClassFile.FieldType.int), 9, 3, 4)
def zk_r146 : zk_Row := (⟨"TickKeeperModel", "isNever", "(I)Z"⟩, prog_12_method_41_code, 2, (some Jvm.ClassFile.FieldType.boolean), 9, 1, 0)
def zk_r147 : zk_Row := (⟨"TickKeeperModel", "firstLocal", "(II)I"⟩, prog_12_method_19_code, 5, (some Jvm.ClassFile.FieldType.int), 9, 2, 2)
def zk_r148 : zk_Row := (⟨"TickKeeperModel", "less", "(II)I"⟩, prog_12_method_4_code, 2, (some Jvm.ClassFile.FieldType.int), 9, 2, 0)
def zk_r149 : zk_Row := (⟨"TickKeeperModel", "down", "(II)I"⟩, prog_12_method_6_code, 3, (some Jvm.ClassFile.FieldType.int), 9, 2, 0)
def zk_r150 : zk_Row := (⟨"TickKeeperModel", "isOn", "(II)Z"⟩, prog_12_method_38_code, 6, (some Jvm.ClassFile.FieldType.boolean), 9, 2, 3)
def zk_r151 : zk_Row := (⟨"TickKeeperModel", "fits", "(II)Z"⟩, prog_12_method_37_code, 8, (some Jvm.ClassFile.FieldType.boolean), 9, 2, 2)
def zk_r152 : zk_Row := (⟨"TickKeeperModel", "daysOf", "(II)I"⟩, prog_12_method_21_code, 2, (some Jvm.ClassFile.FieldType.int), 9, 2, 1)
def zk_r153 : zk_Row := (⟨"TickKeeperModel", "isLeap", "(I)Z"⟩, prog_12_method_20_code, 1, (some Jvm.ClassFile.FieldType.boolean), 9, 1, 0)
def zk_r154 : zk_Row := (⟨"TickKeeperModel", "inDay", "(IIII)I"⟩, prog_12_method_43_code, 10, (some Jvm.ClassFile.FieldType.int), 9, 4, 3)
def zk_r155 : zk_Row := (⟨"TickKeeperModel", "isException", "(II)Z"⟩, prog_12_method_39_code, 5, (some Jvm.ClassFile.FieldType.boolean), 9, 2, 0)
def zk_r156 : zk_Row := (⟨"TickKeeperModel", "between", "(IIII)I"⟩, prog_12_method_47_code, 7, (some Jvm.ClassFile.FieldType.int), 9, 4, 6)
def zk_r157 : zk_Row := (⟨"TickKeeperModel", "runNow", "(I)I"⟩, prog_12_method_48_code, 4, (some Jvm.ClassFile.FieldType.int), 9, 1, 6)
def zk_r158 : zk_Row := (⟨"TickKeeperModel", "now", "(I)I"⟩, prog_12_method_50_code, 2, (some Jvm.ClassFile.FieldType.int), 9, 1, 1)
def zk_r159 : zk_Row := (⟨"TickKeeperModel", "wake", "(I)I"⟩, prog_12_method_53_code, 5, (some Jvm.ClassFile.FieldType.int), 9, 1, 6)
def zk_r160 : zk_Row := (⟨"TickKeeperModel", "begins", "(II)V"⟩, prog_12_method_52_code, 7, none, 9, 2, 1)
def zk_r161 : zk_Row := (⟨"TickKeeperModel", "sends", "(IIIIIIII)V"⟩, prog_12_method_49_code, 10, none, 9, 8, 0)
def zk_r162 : zk_Row := (⟨"TickKeeperModel", "deliver", "(I)I"⟩, prog_12_method_67_code, 3, (some Jvm.ClassFile.FieldType.int), 9, 1, 10)
def zk_r163 : zk_Row := (⟨"TickKeeperModel", "isLetter", "(I)Z"⟩, prog_12_method_66_code, 2, (some Jvm.ClassFile.FieldType.boolean), 9, 1, 1)
def zk_r164 : zk_Row := (⟨"TickKeeperModel", "removes", "(I)I"⟩, prog_12_method_65_code, 3, (some Jvm.ClassFile.FieldType.int), 9, 1, 0)
def zk_r165 : zk_Row := (⟨"TickKeeperModel", "delivers", "()V"⟩, prog_12_method_64_code, 3, none, 9, 0, 9)
def zk_r166 : zk_Row := (⟨"TickKeeperModel", "takes", "(II)V"⟩, prog_12_method_63_code, 3, none, 9, 2, 0)
def zk_r167 : zk_Row := (⟨"TickKeeperModel", "asked", "(IIII)V"⟩, prog_12_method_57_code, 6, none, 9, 4, 1)
def zk_r168 : zk_Row := (⟨"TickKeeperModel", "promises", "(II)V"⟩, prog_12_method_58_code, 4, none, 9, 2, 8)
def zk_r169 : zk_Row := (⟨"TickKeeperModel", "decides", "(II)V"⟩, prog_12_method_56_code, 11, none, 9, 2, 7)
def zk_r170 : zk_Row := (⟨"TickKeeperModel", "claimFor", "(II)I"⟩, prog_12_method_55_code, 4, (some Jvm.ClassFile.FieldType.int), 9, 2, 6)
def zk_r171 : zk_Row := (⟨"TickKeeperModel", "dueUpTo", "(III)I"⟩, prog_12_method_45_code, 7, (some Jvm.ClassFile.FieldType.int), 9, 3, 5)
def zk_r172 : zk_Row := (⟨"TickKeeperModel", "lastByCalendar", "(III)I"⟩, prog_12_method_42_code, 11, (some Jvm.ClassFile.FieldType.int), 9, 3, 4)
def zk_r173 : zk_Row := (⟨"TickKeeperModel", "mustWait", "(II)Z"⟩, prog_12_method_54_code, 8, (some Jvm.ClassFile.FieldType.boolean), 9, 2, 6)
def zk_r174 : zk_Row := (⟨"TickKeeperModel", "ends", "(I)V"⟩, prog_12_method_51_code, 2, none, 9, 1, 0)
def zk_r175 : zk_Row := (⟨"TickKeeperModel", "writes", "(IIII)V"⟩, prog_12_method_59_code, 6, none, 9, 4, 1)
def zk_r176 : zk_Row := (⟨"TickKeeperModel", "written", "(II)V"⟩, prog_12_method_60_code, 4, none, 9, 2, 1)
def zk_r177 : zk_Row := (⟨"TickKeeperModel", "guard1", "(I)I"⟩, prog_12_method_61_code, 2, (some Jvm.ClassFile.FieldType.int), 9, 1, 0)
def zk_r178 : zk_Row := (⟨"TickKeeperModel", "refuses", "(II)V"⟩, prog_12_method_62_code, 4, none, 9, 2, 1)
def zk_r179 : zk_Row := (⟨"TickKeeperModel", "flow", "(I)I"⟩, prog_12_method_68_code, 4, (some Jvm.ClassFile.FieldType.int), 9, 1, 10)
def zk_r180 : zk_Row := (⟨"TickKeeperModel", "lose", "(I)I"⟩, prog_12_method_69_code, 2, (some Jvm.ClassFile.FieldType.int), 9, 1, 2)
def zk_r181 : zk_Row := (⟨"TickKeeperModel", "twin", "(I)I"⟩, prog_12_method_70_code, 3, (some Jvm.ClassFile.FieldType.int), 9, 1, 2)
def zk_r182 : zk_Row := (⟨"TickKeeperModel", "letter", "(II)I"⟩, prog_12_method_71_code, 3, (some Jvm.ClassFile.FieldType.int), 9, 2, 2)
def zk_r183 : zk_Row := (⟨"TickKeeperModel", "crash", "(I)I"⟩, prog_12_method_72_code, 4, (some Jvm.ClassFile.FieldType.int), 9, 1, 1)
def zk_r184 : zk_Row := (⟨"TickKeeperModel", "restart", "(I)I"⟩, prog_12_method_73_code, 2, (some Jvm.ClassFile.FieldType.int), 9, 1, 1)
def zk_r185 : zk_Row := (⟨"TickKeeperModel", "desk", "(IZ)I"⟩, prog_12_method_74_code, 4, (some Jvm.ClassFile.FieldType.int), 9, 2, 1)
def zk_r186 : zk_Row := (⟨"TickKeeperModel", "register", "(III)I"⟩, prog_12_method_75_code, 5, (some Jvm.ClassFile.FieldType.int), 9, 3, 2)
def zk_r187 : zk_Row := (⟨"TickKeeperModel", "effects", "(I)I"⟩, prog_12_method_76_code, 2, (some Jvm.ClassFile.FieldType.int), 9, 1, 2)
def zk_r188 : zk_Row := (⟨"TickKeeperModel", "effect", "(III)I"⟩, prog_12_method_77_code, 4, (some Jvm.ClassFile.FieldType.int), 9, 3, 2)
def zk_r189 : zk_Row := (⟨"TickKeeperModel", "waiting", "(I)I"⟩, prog_12_method_78_code, 2, (some Jvm.ClassFile.FieldType.int), 9, 1, 2)
def zk_r190 : zk_Row := (⟨"TickKeeperModel", "passed", "(I)I"⟩, prog_12_method_79_code, 2, (some Jvm.ClassFile.FieldType.int), 9, 1, 2)
def zk_r191 : zk_Row := (⟨"TickKeeperModel", "count", "(I)I"⟩, prog_12_method_80_code, 4, (some Jvm.ClassFile.FieldType.int), 9, 1, 0)
def zk_r192 : zk_Row := (⟨"TickKeeper$Dates", "weekdayOf", "(I)I"⟩, prog_2_method_2_code, 1, (some Jvm.ClassFile.FieldType.int), 10, 1, 1)
def zk_r193 : zk_Row := (⟨"TickKeeper$Dates", "monthOf", "(I)I"⟩, prog_2_method_3_code, 3, (some Jvm.ClassFile.FieldType.int), 10, 1, 1)
def zk_r194 : zk_Row := (⟨"TickKeeper$Dates", "yearOf", "(I)I"⟩, prog_2_method_6_code, 1, (some Jvm.ClassFile.FieldType.int), 10, 1, 1)
def zk_r195 : zk_Row := (⟨"TickKeeper$Dates", "monthOfYear", "(I)I"⟩, prog_2_method_5_code, 1, (some Jvm.ClassFile.FieldType.int), 10, 1, 1)
def zk_r196 : zk_Row := (⟨"TickKeeper$Dates", "startOf", "(I)I"⟩, prog_2_method_4_code, 1, (some Jvm.ClassFile.FieldType.int), 10, 1, 1)
def zk_r197 : zk_Row := (⟨"java/lang/Math", "max", "(II)I"⟩, prog_16_method_65_code, 2, (some Jvm.ClassFile.FieldType.int), 12, 2, 0)
def zk_r198 : zk_Row := (⟨"java/lang/Math", "min", "(II)I"⟩, prog_16_method_69_code, 2, (some Jvm.ClassFile.FieldType.int), 12, 2, 0)
def zk_r199 : zk_Row := (⟨"java/lang/Math", "floorMod", "(II)I"⟩, prog_16_method_50_code, 3, (some Jvm.ClassFile.FieldType.int), 12, 2, 0)
def zk_r200 : zk_Row := (⟨"java/lang/Math", "max", "(JJ)J"⟩, prog_16_method_66_code, 4, (some Jvm.ClassFile.FieldType.long), 12, 2, 0)
def zk_r201 : zk_Row := (⟨"java/lang/Math", "floorDiv", "(II)I"⟩, prog_16_method_47_code, 3, (some Jvm.ClassFile.FieldType.int), 12, 2, 0)
def zk_r202 : zk_Row := (⟨"java/lang/Integer", "bitCount", "(I)I"⟩, prog_14_method_49_code, 1, (some Jvm.ClassFile.FieldType.int), 13, 1, 0)
def zk_r203 : zk_Row := (⟨"java/lang/Long", "bitCount", "(J)I"⟩, prog_15_method_50_code, 2, (some Jvm.ClassFile.FieldType.int), 14, 1, 0)
def zk_r204 : zk_Row := (⟨"java/util/Arrays", "copyOf", "([II)[I"⟩, prog_18_method_123_code, 3, (some (Jvm.ClassFile.FieldType.array Jvm.ClassFile.FieldType.int)), 15, 2, 1)
def zk_r205 : zk_Row := (x, code, maxLocals, ret, 11, 1, 11)
def zk_MT0 : List zk_Row := [zk_r0, zk_r1, zk_r2, zk_r3, zk_r4, zk_r5, zk_r6, zk_r7, zk_r8, zk_r9, zk_r10, zk_r11, zk_r12, zk_r13, zk_r14, zk_r15, zk_r16, zk_r17, zk_r18, zk_r19, zk_r20, zk_r21, zk_r22, zk_r23, zk_r24, zk_r25, zk_r26, zk_r27, zk_r28, zk_r29, zk_r30, zk_r31, zk_r32, zk_r33, zk_r34, zk_r35, zk_r36, zk_r37, zk_r38, zk_r39, zk_r40, zk_r41, zk_r42, zk_r43, zk_r44, zk_r45, zk_r46, zk_r47, zk_r48, zk_r49, zk_r50, zk_r51, zk_r52, zk_r53, zk_r54, zk_r55, zk_r56, zk_r57, zk_r58, zk_r59, zk_r60, zk_r61, zk_r62, zk_r63, zk_r64, zk_r65, zk_r66, zk_r67, zk_r68, zk_r69, zk_r70, zk_r71, zk_r72, zk_r73, zk_r74, zk_r75, zk_r76, zk_r77, zk_r78, zk_r79, zk_r80, zk_r81, zk_r82, zk_r83, zk_r84, zk_r85, zk_r86, zk_r87, zk_r88, zk_r89, zk_r90, zk_r91, zk_r92, zk_r93, zk_r94, zk_r95, zk_r96, zk_r97, zk_r98, zk_r99, zk_r100, zk_r101, zk_r102, zk_r103, zk_r104, zk_r105, zk_r106, zk_r107, zk_r108, zk_r109, zk_r110, zk_r111, zk_r112, zk_r113, zk_r114, zk_r115, zk_r116, zk_r117, zk_r118, zk_r119, zk_r120, zk_r121, zk_r122, zk_r123, zk_r124, zk_r125, zk_r126, zk_r127, zk_r128, zk_r129, zk_r130, zk_r131, zk_r132, zk_r133, zk_r134, zk_r135, zk_r136, zk_r137, zk_r138, zk_r139, zk_r140, zk_r141, zk_r142, zk_r143, zk_r144, zk_r145, zk_r146, zk_r147, zk_r148, zk_r149, zk_r150, zk_r151, zk_r152, zk_r153, zk_r154, zk_r155, zk_r156, zk_r157, zk_r158, zk_r159, zk_r160, zk_r161, zk_r162, zk_r163, zk_r164, zk_r165, zk_r166, zk_r167, zk_r168, zk_r169, zk_r170, zk_r171, zk_r172, zk_r173, zk_r174, zk_r175, zk_r176, zk_r177, zk_r178, zk_r179, zk_r180, zk_r181, zk_r182, zk_r183, zk_r184, zk_r185, zk_r186, zk_r187, zk_r188, zk_r189, zk_r190, zk_r191, zk_r192, zk_r193, zk_r194, zk_r195, zk_r196, zk_r197, zk_r198, zk_r199, zk_r200, zk_r201, zk_r202, zk_r203, zk_r204]
def zk_MT : List zk_Row := zk_MT0 ++ [zk_r205]
def zk_okM (q : zk_Row) : Prop := Cond.code q.1 q.2.1 q.2.2.1 q.2.2.2.1 ∈ lw_tbl ∧ plainFor q.1 = true ∧ q.1.cls = zk_cn q.2.2.2.2.1 ∧ Cond.initialized q.1.cls ∈ lw_tbl ∧ q.1.cls ≠ "java/lang/invoke/MethodHandle" ∧ q.1.cls ≠ "java/lang/invoke/VarHandle" ∧ (parseMethodDescriptor q.1.desc).map (fun d => d.parameters.length) = some q.2.2.2.2.2.1
theorem zk_in1 {w : Cond} (h : w ∈ tables_1_1) : w ∈ lw_tbl := by simp only [lw_tbl, tables_1, List.mem_append]; simp only [h, true_or, or_true]
theorem zk_in2 {w : Cond} (h : w ∈ tables_1_2) : w ∈ lw_tbl := by simp only [lw_tbl, tables_1, List.mem_append]; simp only [h, true_or, or_true]
theorem zk_in3 {w : Cond} (h : w ∈ tables_1_3) : w ∈ lw_tbl := by simp only [lw_tbl, tables_1, List.mem_append]; simp only [h, true_or, or_true]
theorem zk_in4 {w : Cond} (h : w ∈ tables_1_4) : w ∈ lw_tbl := by simp only [lw_tbl, tables_1, List.mem_append]; simp only [h, true_or, or_true]
theorem zk_in5 {w : Cond} (h : w ∈ tables_1_5) : w ∈ lw_tbl := by simp only [lw_tbl, tables_1, List.mem_append]; simp only [h, true_or, or_true]
theorem zk_in6 {w : Cond} (h : w ∈ tables_1_6) : w ∈ lw_tbl := by simp only [lw_tbl, tables_1, List.mem_append]; simp only [h, true_or, or_true]
set_option maxRecDepth 20000 in
theorem zk_m0 : zk_okM zk_r0 := ⟨zk_in2 (List.mem_of_getElem? (i := 182) rfl), by decide +kernel, by decide +kernel, List.mem_of_getElem? (i := 73) (by decide +kernel), by decide +kernel, by decide +kernel, by decide +kernel⟩
set_option maxRecDepth 20000 in
theorem zk_m1 : zk_okM zk_r1 := ⟨zk_in3 (List.mem_of_getElem? (i := 134) rfl), by decide +kernel, by decide +kernel, List.mem_of_getElem? (i := 73) (by decide +kernel), by decide +kernel, by decide +kernel, by decide +kernel⟩
set_option maxRecDepth 20000 in
theorem zk_m2 : zk_okM zk_r2 := ⟨zk_in3 (List.mem_of_getElem? (i := 200) rfl), by decide +kernel, by decide +kernel, List.mem_of_getElem? (i := 73) (by decide +kernel), by decide +kernel, by decide +kernel, by decide +kernel⟩
set_option maxRecDepth 20000 in
theorem zk_m3 : zk_okM zk_r3 := ⟨zk_in4 (List.mem_of_getElem? (i := 3) rfl), by decide +kernel, by decide +kernel, List.mem_of_getElem? (i := 73) (by decide +kernel), by decide +kernel, by decide +kernel, by decide +kernel⟩
set_option maxRecDepth 20000 in
theorem zk_m4 : zk_okM zk_r4 := ⟨zk_in4 (List.mem_of_getElem? (i := 21) rfl), by decide +kernel, by decide +kernel, List.mem_of_getElem? (i := 73) (by decide +kernel), by decide +kernel, by decide +kernel, by decide +kernel⟩
set_option maxRecDepth 20000 in
theorem zk_m5 : zk_okM zk_r5 := ⟨zk_in1 (List.mem_of_getElem? (i := 42) rfl), by decide +kernel, by decide +kernel, List.mem_of_getElem? (i := 63) (by decide +kernel), by decide +kernel, by decide +kernel, by decide +kernel⟩
set_option maxRecDepth 20000 in
theorem zk_m6 : zk_okM zk_r6 := ⟨zk_in3 (List.mem_of_getElem? (i := 169) rfl), by decide +kernel, by decide +kernel, List.mem_of_getElem? (i := 63) (by decide +kernel), by decide +kernel, by decide +kernel, by decide +kernel⟩
set_option maxRecDepth 20000 in
theorem zk_m7 : zk_okM zk_r7 := ⟨zk_in3 (List.mem_of_getElem? (i := 173) rfl), by decide +kernel, by decide +kernel, List.mem_of_getElem? (i := 63) (by decide +kernel), by decide +kernel, by decide +kernel, by decide +kernel⟩
set_option maxRecDepth 20000 in
theorem zk_m8 : zk_okM zk_r8 := ⟨zk_in1 (List.mem_of_getElem? (i := 35) rfl), by decide +kernel, by decide +kernel, List.mem_of_getElem? (i := 62) (by decide +kernel), by decide +kernel, by decide +kernel, by decide +kernel⟩
set_option maxRecDepth 20000 in
theorem zk_m9 : zk_okM zk_r9 := ⟨zk_in3 (List.mem_of_getElem? (i := 165) rfl), by decide +kernel, by decide +kernel, List.mem_of_getElem? (i := 62) (by decide +kernel), by decide +kernel, by decide +kernel, by decide +kernel⟩
set_option maxRecDepth 20000 in
theorem zk_m10 : zk_okM zk_r10 := ⟨zk_in3 (List.mem_of_getElem? (i := 181) rfl), by decide +kernel, by decide +kernel, List.mem_of_getElem? (i := 62) (by decide +kernel), by decide +kernel, by decide +kernel, by decide +kernel⟩
set_option maxRecDepth 20000 in
theorem zk_m11 : zk_okM zk_r11 := ⟨zk_in3 (List.mem_of_getElem? (i := 185) rfl), by decide +kernel, by decide +kernel, List.mem_of_getElem? (i := 62) (by decide +kernel), by decide +kernel, by decide +kernel, by decide +kernel⟩
set_option maxRecDepth 20000 in
theorem zk_m12 : zk_okM zk_r12 := ⟨zk_in1 (List.mem_of_getElem? (i := 105) rfl), by decide +kernel, by decide +kernel, List.mem_of_getElem? (i := 64) (by decide +kernel), by decide +kernel, by decide +kernel, by decide +kernel⟩
set_option maxRecDepth 20000 in
theorem zk_m13 : zk_okM zk_r13 := ⟨zk_in3 (List.mem_of_getElem? (i := 151) rfl), by decide +kernel, by decide +kernel, List.mem_of_getElem? (i := 64) (by decide +kernel), by decide +kernel, by decide +kernel, by decide +kernel⟩
set_option maxRecDepth 20000 in
theorem zk_m14 : zk_okM zk_r14 := ⟨zk_in3 (List.mem_of_getElem? (i := 222) rfl), by decide +kernel, by decide +kernel, List.mem_of_getElem? (i := 64) (by decide +kernel), by decide +kernel, by decide +kernel, by decide +kernel⟩
set_option maxRecDepth 20000 in
theorem zk_m15 : zk_okM zk_r15 := ⟨zk_in3 (List.mem_of_getElem? (i := 234) rfl), by decide +kernel, by decide +kernel, List.mem_of_getElem? (i := 64) (by decide +kernel), by decide +kernel, by decide +kernel, by decide +kernel⟩
set_option maxRecDepth 20000 in
theorem zk_m16 : zk_okM zk_r16 := ⟨zk_in4 (List.mem_of_getElem? (i := 63) rfl), by decide +kernel, by decide +kernel, List.mem_of_getElem? (i := 64) (by decide +kernel), by decide +kernel, by decide +kernel, by decide +kernel⟩
set_option maxRecDepth 20000 in
theorem zk_m17 : zk_okM zk_r17 := ⟨zk_in1 (List.mem_of_getElem? (i := 212) rfl), by decide +kernel, by decide +kernel, List.mem_of_getElem? (i := 68) (by decide +kernel), by decide +kernel, by decide +kernel, by decide +kernel⟩
set_option maxRecDepth 20000 in
theorem zk_m18 : zk_okM zk_r18 := ⟨zk_in1 (List.mem_of_getElem? (i := 238) rfl), by decide +kernel, by decide +kernel, List.mem_of_getElem? (i := 68) (by decide +kernel), by decide +kernel, by decide +kernel, by decide +kernel⟩
set_option maxRecDepth 20000 in
theorem zk_m19 : zk_okM zk_r19 := ⟨zk_in2 (List.mem_of_getElem? (i := 50) rfl), by decide +kernel, by decide +kernel, List.mem_of_getElem? (i := 68) (by decide +kernel), by decide +kernel, by decide +kernel, by decide +kernel⟩
set_option maxRecDepth 20000 in
theorem zk_m20 : zk_okM zk_r20 := ⟨zk_in2 (List.mem_of_getElem? (i := 67) rfl), by decide +kernel, by decide +kernel, List.mem_of_getElem? (i := 68) (by decide +kernel), by decide +kernel, by decide +kernel, by decide +kernel⟩
set_option maxRecDepth 20000 in
theorem zk_m21 : zk_okM zk_r21 := ⟨zk_in3 (List.mem_of_getElem? (i := 11) rfl), by decide +kernel, by decide +kernel, List.mem_of_getElem? (i := 68) (by decide +kernel), by decide +kernel, by decide +kernel, by decide +kernel⟩
set_option maxRecDepth 20000 in
theorem zk_m22 : zk_okM zk_r22 := ⟨zk_in2 (List.mem_of_getElem? (i := 150) rfl), by decide +kernel, by decide +kernel, List.mem_of_getElem? (i := 74) (by decide +kernel), by decide +kernel, by decide +kernel, by decide +kernel⟩
set_option maxRecDepth 20000 in
theorem zk_m23 : zk_okM zk_r23 := ⟨zk_in2 (List.mem_of_getElem? (i := 230) rfl), by decide +kernel, by decide +kernel, List.mem_of_getElem? (i := 74) (by decide +kernel), by decide +kernel, by decide +kernel, by decide +kernel⟩
set_option maxRecDepth 20000 in
theorem zk_m24 : zk_okM zk_r24 := ⟨zk_in3 (List.mem_of_getElem? (i := 6) rfl), by decide +kernel, by decide +kernel, List.mem_of_getElem? (i := 74) (by decide +kernel), by decide +kernel, by decide +kernel, by decide +kernel⟩
set_option maxRecDepth 20000 in
theorem zk_m25 : zk_okM zk_r25 := ⟨zk_in3 (List.mem_of_getElem? (i := 20) rfl), by decide +kernel, by decide +kernel, List.mem_of_getElem? (i := 74) (by decide +kernel), by decide +kernel, by decide +kernel, by decide +kernel⟩
set_option maxRecDepth 20000 in
theorem zk_m26 : zk_okM zk_r26 := ⟨zk_in3 (List.mem_of_getElem? (i := 54) rfl), by decide +kernel, by decide +kernel, List.mem_of_getElem? (i := 74) (by decide +kernel), by decide +kernel, by decide +kernel, by decide +kernel⟩
set_option maxRecDepth 20000 in
theorem zk_m27 : zk_okM zk_r27 := ⟨zk_in3 (List.mem_of_getElem? (i := 61) rfl), by decide +kernel, by decide +kernel, List.mem_of_getElem? (i := 74) (by decide +kernel), by decide +kernel, by decide +kernel, by decide +kernel⟩
set_option maxRecDepth 20000 in
theorem zk_m28 : zk_okM zk_r28 := ⟨zk_in3 (List.mem_of_getElem? (i := 71) rfl), by decide +kernel, by decide +kernel, List.mem_of_getElem? (i := 74) (by decide +kernel), by decide +kernel, by decide +kernel, by decide +kernel⟩
set_option maxRecDepth 20000 in
theorem zk_m29 : zk_okM zk_r29 := ⟨zk_in3 (List.mem_of_getElem? (i := 76) rfl), by decide +kernel, by decide +kernel, List.mem_of_getElem? (i := 74) (by decide +kernel), by decide +kernel, by decide +kernel, by decide +kernel⟩
set_option maxRecDepth 20000 in
theorem zk_m30 : zk_okM zk_r30 := ⟨zk_in3 (List.mem_of_getElem? (i := 79) rfl), by decide +kernel, by decide +kernel, List.mem_of_getElem? (i := 74) (by decide +kernel), by decide +kernel, by decide +kernel, by decide +kernel⟩
set_option maxRecDepth 20000 in
theorem zk_m31 : zk_okM zk_r31 := ⟨zk_in3 (List.mem_of_getElem? (i := 82) rfl), by decide +kernel, by decide +kernel, List.mem_of_getElem? (i := 74) (by decide +kernel), by decide +kernel, by decide +kernel, by decide +kernel⟩
set_option maxRecDepth 20000 in
theorem zk_m32 : zk_okM zk_r32 := ⟨zk_in3 (List.mem_of_getElem? (i := 86) rfl), by decide +kernel, by decide +kernel, List.mem_of_getElem? (i := 74) (by decide +kernel), by decide +kernel, by decide +kernel, by decide +kernel⟩
set_option maxRecDepth 20000 in
theorem zk_m33 : zk_okM zk_r33 := ⟨zk_in3 (List.mem_of_getElem? (i := 92) rfl), by decide +kernel, by decide +kernel, List.mem_of_getElem? (i := 74) (by decide +kernel), by decide +kernel, by decide +kernel, by decide +kernel⟩
set_option maxRecDepth 20000 in
theorem zk_m34 : zk_okM zk_r34 := ⟨zk_in3 (List.mem_of_getElem? (i := 104) rfl), by decide +kernel, by decide +kernel, List.mem_of_getElem? (i := 74) (by decide +kernel), by decide +kernel, by decide +kernel, by decide +kernel⟩
set_option maxRecDepth 20000 in
theorem zk_m35 : zk_okM zk_r35 := ⟨zk_in3 (List.mem_of_getElem? (i := 139) rfl), by decide +kernel, by decide +kernel, List.mem_of_getElem? (i := 74) (by decide +kernel), by decide +kernel, by decide +kernel, by decide +kernel⟩
set_option maxRecDepth 20000 in
theorem zk_m36 : zk_okM zk_r36 := ⟨zk_in4 (List.mem_of_getElem? (i := 7) rfl), by decide +kernel, by decide +kernel, List.mem_of_getElem? (i := 74) (by decide +kernel), by decide +kernel, by decide +kernel, by decide +kernel⟩
set_option maxRecDepth 20000 in
theorem zk_m37 : zk_okM zk_r37 := ⟨zk_in1 (List.mem_of_getElem? (i := 111) rfl), by decide +kernel, by decide +kernel, List.mem_of_getElem? (i := 65) (by decide +kernel), by decide +kernel, by decide +kernel, by decide +kernel⟩
set_option maxRecDepth 20000 in
theorem zk_m38 : zk_okM zk_r38 := ⟨zk_in3 (List.mem_of_getElem? (i := 157) rfl), by decide +kernel, by decide +kernel, List.mem_of_getElem? (i := 65) (by decide +kernel), by decide +kernel, by decide +kernel, by decide +kernel⟩
set_option maxRecDepth 20000 in
theorem zk_m39 : zk_okM zk_r39 := ⟨zk_in3 (List.mem_of_getElem? (i := 214) rfl), by decide +kernel, by decide +kernel, List.mem_of_getElem? (i := 65) (by decide +kernel), by decide +kernel, by decide +kernel, by decide +kernel⟩
set_option maxRecDepth 20000 in
theorem zk_m40 : zk_okM zk_r40 := ⟨zk_in3 (List.mem_of_getElem? (i := 230) rfl), by decide +kernel, by decide +kernel, List.mem_of_getElem? (i := 65) (by decide +kernel), by decide +kernel, by decide +kernel, by decide +kernel⟩
set_option maxRecDepth 20000 in
theorem zk_m41 : zk_okM zk_r41 := ⟨zk_in4 (List.mem_of_getElem? (i := 38) rfl), by decide +kernel, by decide +kernel, List.mem_of_getElem? (i := 65) (by decide +kernel), by decide +kernel, by decide +kernel, by decide +kernel⟩
set_option maxRecDepth 20000 in
theorem zk_m42 : zk_okM zk_r42 := ⟨zk_in1 (List.mem_of_getElem? (i := 206) rfl), by decide +kernel, by decide +kernel, List.mem_of_getElem? (i := 67) (by decide +kernel), by decide +kernel, by decide +kernel, by decide +kernel⟩
set_option maxRecDepth 20000 in
theorem zk_m43 : zk_okM zk_r43 := ⟨zk_in2 (List.mem_of_getElem? (i := 42) rfl), by decide +kernel, by decide +kernel, List.mem_of_getElem? (i := 67) (by decide +kernel), by decide +kernel, by decide +kernel, by decide +kernel⟩
set_option maxRecDepth 20000 in
theorem zk_m44 : zk_okM zk_r44 := ⟨zk_in2 (List.mem_of_getElem? (i := 46) rfl), by decide +kernel, by decide +kernel, List.mem_of_getElem? (i := 67) (by decide +kernel), by decide +kernel, by decide +kernel, by decide +kernel⟩
set_option maxRecDepth 20000 in
theorem zk_m45 : zk_okM zk_r45 := ⟨zk_in2 (List.mem_of_getElem? (i := 54) rfl), by decide +kernel, by decide +kernel, List.mem_of_getElem? (i := 67) (by decide +kernel), by decide +kernel, by decide +kernel, by decide +kernel⟩
set_option maxRecDepth 20000 in
theorem zk_m46 : zk_okM zk_r46 := ⟨zk_in2 (List.mem_of_getElem? (i := 63) rfl), by decide +kernel, by decide +kernel, List.mem_of_getElem? (i := 67) (by decide +kernel), by decide +kernel, by decide +kernel, by decide +kernel⟩
set_option maxRecDepth 20000 in
theorem zk_m47 : zk_okM zk_r47 := ⟨zk_in2 (List.mem_of_getElem? (i := 71) rfl), by decide +kernel, by decide +kernel, List.mem_of_getElem? (i := 67) (by decide +kernel), by decide +kernel, by decide +kernel, by decide +kernel⟩
set_option maxRecDepth 20000 in
theorem zk_m48 : zk_okM zk_r48 := ⟨zk_in2 (List.mem_of_getElem? (i := 75) rfl), by decide +kernel, by decide +kernel, List.mem_of_getElem? (i := 67) (by decide +kernel), by decide +kernel, by decide +kernel, by decide +kernel⟩
set_option maxRecDepth 20000 in
theorem zk_m49 : zk_okM zk_r49 := ⟨zk_in2 (List.mem_of_getElem? (i := 79) rfl), by decide +kernel, by decide +kernel, List.mem_of_getElem? (i := 67) (by decide +kernel), by decide +kernel, by decide +kernel, by decide +kernel⟩
set_option maxRecDepth 20000 in
theorem zk_m50 : zk_okM zk_r50 := ⟨zk_in2 (List.mem_of_getElem? (i := 96) rfl), by decide +kernel, by decide +kernel, List.mem_of_getElem? (i := 67) (by decide +kernel), by decide +kernel, by decide +kernel, by decide +kernel⟩
set_option maxRecDepth 20000 in
theorem zk_m51 : zk_okM zk_r51 := ⟨zk_in2 (List.mem_of_getElem? (i := 104) rfl), by decide +kernel, by decide +kernel, List.mem_of_getElem? (i := 67) (by decide +kernel), by decide +kernel, by decide +kernel, by decide +kernel⟩
set_option maxRecDepth 20000 in
theorem zk_m52 : zk_okM zk_r52 := ⟨zk_in2 (List.mem_of_getElem? (i := 112) rfl), by decide +kernel, by decide +kernel, List.mem_of_getElem? (i := 67) (by decide +kernel), by decide +kernel, by decide +kernel, by decide +kernel⟩
set_option maxRecDepth 20000 in
theorem zk_m53 : zk_okM zk_r53 := ⟨zk_in3 (List.mem_of_getElem? (i := 65) rfl), by decide +kernel, by decide +kernel, List.mem_of_getElem? (i := 67) (by decide +kernel), by decide +kernel, by decide +kernel, by decide +kernel⟩
set_option maxRecDepth 20000 in
theorem zk_m54 : zk_okM zk_r54 := ⟨zk_in3 (List.mem_of_getElem? (i := 99) rfl), by decide +kernel, by decide +kernel, List.mem_of_getElem? (i := 67) (by decide +kernel), by decide +kernel, by decide +kernel, by decide +kernel⟩
set_option maxRecDepth 20000 in
theorem zk_m55 : zk_okM zk_r55 := ⟨zk_in3 (List.mem_of_getElem? (i := 108) rfl), by decide +kernel, by decide +kernel, List.mem_of_getElem? (i := 67) (by decide +kernel), by decide +kernel, by decide +kernel, by decide +kernel⟩
set_option maxRecDepth 20000 in
theorem zk_m56 : zk_okM zk_r56 := ⟨zk_in4 (List.mem_of_getElem? (i := 16) rfl), by decide +kernel, by decide +kernel, List.mem_of_getElem? (i := 67) (by decide +kernel), by decide +kernel, by decide +kernel, by decide +kernel⟩
set_option maxRecDepth 20000 in
theorem zk_m57 : zk_okM zk_r57 := ⟨zk_in4 (List.mem_of_getElem? (i := 26) rfl), by decide +kernel, by decide +kernel, List.mem_of_getElem? (i := 67) (by decide +kernel), by decide +kernel, by decide +kernel, by decide +kernel⟩
set_option maxRecDepth 20000 in
theorem zk_m58 : zk_okM zk_r58 := ⟨zk_in4 (List.mem_of_getElem? (i := 30) rfl), by decide +kernel, by decide +kernel, List.mem_of_getElem? (i := 67) (by decide +kernel), by decide +kernel, by decide +kernel, by decide +kernel⟩
set_option maxRecDepth 20000 in
theorem zk_m59 : zk_okM zk_r59 := ⟨zk_in4 (List.mem_of_getElem? (i := 34) rfl), by decide +kernel, by decide +kernel, List.mem_of_getElem? (i := 67) (by decide +kernel), by decide +kernel, by decide +kernel, by decide +kernel⟩
set_option maxRecDepth 20000 in
theorem zk_m60 : zk_okM zk_r60 := ⟨zk_in1 (List.mem_of_getElem? (i := 21) rfl), by decide +kernel, by decide +kernel, List.mem_of_getElem? (i := 61) (by decide +kernel), by decide +kernel, by decide +kernel, by decide +kernel⟩
set_option maxRecDepth 20000 in
theorem zk_m61 : zk_okM zk_r61 := ⟨zk_in1 (List.mem_of_getElem? (i := 202) rfl), by decide +kernel, by decide +kernel, List.mem_of_getElem? (i := 61) (by decide +kernel), by decide +kernel, by decide +kernel, by decide +kernel⟩
set_option maxRecDepth 20000 in
theorem zk_m62 : zk_okM zk_r62 := ⟨zk_in2 (List.mem_of_getElem? (i := 30) rfl), by decide +kernel, by decide +kernel, List.mem_of_getElem? (i := 61) (by decide +kernel), by decide +kernel, by decide +kernel, by decide +kernel⟩
set_option maxRecDepth 20000 in
theorem zk_m63 : zk_okM zk_r63 := ⟨zk_in2 (List.mem_of_getElem? (i := 34) rfl), by decide +kernel, by decide +kernel, List.mem_of_getElem? (i := 61) (by decide +kernel), by decide +kernel, by decide +kernel, by decide +kernel⟩
set_option maxRecDepth 20000 in
theorem zk_m64 : zk_okM zk_r64 := ⟨zk_in2 (List.mem_of_getElem? (i := 37) rfl), by decide +kernel, by decide +kernel, List.mem_of_getElem? (i := 61) (by decide +kernel), by decide +kernel, by decide +kernel, by decide +kernel⟩
set_option maxRecDepth 20000 in
theorem zk_m65 : zk_okM zk_r65 := ⟨zk_in2 (List.mem_of_getElem? (i := 59) rfl), by decide +kernel, by decide +kernel, List.mem_of_getElem? (i := 61) (by decide +kernel), by decide +kernel, by decide +kernel, by decide +kernel⟩
set_option maxRecDepth 20000 in
theorem zk_m66 : zk_okM zk_r66 := ⟨zk_in2 (List.mem_of_getElem? (i := 91) rfl), by decide +kernel, by decide +kernel, List.mem_of_getElem? (i := 61) (by decide +kernel), by decide +kernel, by decide +kernel, by decide +kernel⟩
set_option maxRecDepth 20000 in
theorem zk_m67 : zk_okM zk_r67 := ⟨zk_in2 (List.mem_of_getElem? (i := 100) rfl), by decide +kernel, by decide +kernel, List.mem_of_getElem? (i := 61) (by decide +kernel), by decide +kernel, by decide +kernel, by decide +kernel⟩
set_option maxRecDepth 20000 in
theorem zk_m68 : zk_okM zk_r68 := ⟨zk_in2 (List.mem_of_getElem? (i := 116) rfl), by decide +kernel, by decide +kernel, List.mem_of_getElem? (i := 61) (by decide +kernel), by decide +kernel, by decide +kernel, by decide +kernel⟩
set_option maxRecDepth 20000 in
theorem zk_m69 : zk_okM zk_r69 := ⟨zk_in2 (List.mem_of_getElem? (i := 121) rfl), by decide +kernel, by decide +kernel, List.mem_of_getElem? (i := 61) (by decide +kernel), by decide +kernel, by decide +kernel, by decide +kernel⟩
set_option maxRecDepth 20000 in
theorem zk_m70 : zk_okM zk_r70 := ⟨zk_in2 (List.mem_of_getElem? (i := 144) rfl), by decide +kernel, by decide +kernel, List.mem_of_getElem? (i := 61) (by decide +kernel), by decide +kernel, by decide +kernel, by decide +kernel⟩
set_option maxRecDepth 20000 in
theorem zk_m71 : zk_okM zk_r71 := ⟨zk_in2 (List.mem_of_getElem? (i := 222) rfl), by decide +kernel, by decide +kernel, List.mem_of_getElem? (i := 61) (by decide +kernel), by decide +kernel, by decide +kernel, by decide +kernel⟩
set_option maxRecDepth 20000 in
theorem zk_m72 : zk_okM zk_r72 := ⟨zk_in2 (List.mem_of_getElem? (i := 226) rfl), by decide +kernel, by decide +kernel, List.mem_of_getElem? (i := 61) (by decide +kernel), by decide +kernel, by decide +kernel, by decide +kernel⟩
set_option maxRecDepth 20000 in
theorem zk_m73 : zk_okM zk_r73 := ⟨zk_in3 (List.mem_of_getElem? (i := 2) rfl), by decide +kernel, by decide +kernel, List.mem_of_getElem? (i := 61) (by decide +kernel), by decide +kernel, by decide +kernel, by decide +kernel⟩
set_option maxRecDepth 20000 in
theorem zk_m74 : zk_okM zk_r74 := ⟨zk_in3 (List.mem_of_getElem? (i := 16) rfl), by decide +kernel, by decide +kernel, List.mem_of_getElem? (i := 61) (by decide +kernel), by decide +kernel, by decide +kernel, by decide +kernel⟩
set_option maxRecDepth 20000 in
theorem zk_m75 : zk_okM zk_r75 := ⟨zk_in3 (List.mem_of_getElem? (i := 24) rfl), by decide +kernel, by decide +kernel, List.mem_of_getElem? (i := 61) (by decide +kernel), by decide +kernel, by decide +kernel, by decide +kernel⟩
set_option maxRecDepth 20000 in
theorem zk_m76 : zk_okM zk_r76 := ⟨zk_in3 (List.mem_of_getElem? (i := 28) rfl), by decide +kernel, by decide +kernel, List.mem_of_getElem? (i := 61) (by decide +kernel), by decide +kernel, by decide +kernel, by decide +kernel⟩
set_option maxRecDepth 20000 in
theorem zk_m77 : zk_okM zk_r77 := ⟨zk_in3 (List.mem_of_getElem? (i := 32) rfl), by decide +kernel, by decide +kernel, List.mem_of_getElem? (i := 61) (by decide +kernel), by decide +kernel, by decide +kernel, by decide +kernel⟩
set_option maxRecDepth 20000 in
theorem zk_m78 : zk_okM zk_r78 := ⟨zk_in3 (List.mem_of_getElem? (i := 36) rfl), by decide +kernel, by decide +kernel, List.mem_of_getElem? (i := 61) (by decide +kernel), by decide +kernel, by decide +kernel, by decide +kernel⟩
set_option maxRecDepth 20000 in
theorem zk_m79 : zk_okM zk_r79 := ⟨zk_in3 (List.mem_of_getElem? (i := 46) rfl), by decide +kernel, by decide +kernel, List.mem_of_getElem? (i := 61) (by decide +kernel), by decide +kernel, by decide +kernel, by decide +kernel⟩
set_option maxRecDepth 20000 in
theorem zk_m80 : zk_okM zk_r80 := ⟨zk_in3 (List.mem_of_getElem? (i := 50) rfl), by decide +kernel, by decide +kernel, List.mem_of_getElem? (i := 61) (by decide +kernel), by decide +kernel, by decide +kernel, by decide +kernel⟩
set_option maxRecDepth 20000 in
theorem zk_m81 : zk_okM zk_r81 := ⟨zk_in3 (List.mem_of_getElem? (i := 114) rfl), by decide +kernel, by decide +kernel, List.mem_of_getElem? (i := 61) (by decide +kernel), by decide +kernel, by decide +kernel, by decide +kernel⟩
set_option maxRecDepth 20000 in
theorem zk_m82 : zk_okM zk_r82 := ⟨zk_in3 (List.mem_of_getElem? (i := 118) rfl), by decide +kernel, by decide +kernel, List.mem_of_getElem? (i := 61) (by decide +kernel), by decide +kernel, by decide +kernel, by decide +kernel⟩
set_option maxRecDepth 20000 in
theorem zk_m83 : zk_okM zk_r83 := ⟨zk_in3 (List.mem_of_getElem? (i := 122) rfl), by decide +kernel, by decide +kernel, List.mem_of_getElem? (i := 61) (by decide +kernel), by decide +kernel, by decide +kernel, by decide +kernel⟩
set_option maxRecDepth 20000 in
theorem zk_m84 : zk_okM zk_r84 := ⟨zk_in3 (List.mem_of_getElem? (i := 126) rfl), by decide +kernel, by decide +kernel, List.mem_of_getElem? (i := 61) (by decide +kernel), by decide +kernel, by decide +kernel, by decide +kernel⟩
set_option maxRecDepth 20000 in
theorem zk_m85 : zk_okM zk_r85 := ⟨zk_in3 (List.mem_of_getElem? (i := 129) rfl), by decide +kernel, by decide +kernel, List.mem_of_getElem? (i := 61) (by decide +kernel), by decide +kernel, by decide +kernel, by decide +kernel⟩
set_option maxRecDepth 20000 in
theorem zk_m86 : zk_okM zk_r86 := ⟨zk_in3 (List.mem_of_getElem? (i := 143) rfl), by decide +kernel, by decide +kernel, List.mem_of_getElem? (i := 61) (by decide +kernel), by decide +kernel, by decide +kernel, by decide +kernel⟩
set_option maxRecDepth 20000 in
theorem zk_m87 : zk_okM zk_r87 := ⟨zk_in3 (List.mem_of_getElem? (i := 147) rfl), by decide +kernel, by decide +kernel, List.mem_of_getElem? (i := 61) (by decide +kernel), by decide +kernel, by decide +kernel, by decide +kernel⟩
set_option maxRecDepth 20000 in
theorem zk_m88 : zk_okM zk_r88 := ⟨zk_in3 (List.mem_of_getElem? (i := 161) rfl), by decide +kernel, by decide +kernel, List.mem_of_getElem? (i := 61) (by decide +kernel), by decide +kernel, by decide +kernel, by decide +kernel⟩
set_option maxRecDepth 20000 in
theorem zk_m89 : zk_okM zk_r89 := ⟨zk_in3 (List.mem_of_getElem? (i := 177) rfl), by decide +kernel, by decide +kernel, List.mem_of_getElem? (i := 61) (by decide +kernel), by decide +kernel, by decide +kernel, by decide +kernel⟩
set_option maxRecDepth 20000 in
theorem zk_m90 : zk_okM zk_r90 := ⟨zk_in3 (List.mem_of_getElem? (i := 189) rfl), by decide +kernel, by decide +kernel, List.mem_of_getElem? (i := 61) (by decide +kernel), by decide +kernel, by decide +kernel, by decide +kernel⟩
set_option maxRecDepth 20000 in
theorem zk_m91 : zk_okM zk_r91 := ⟨zk_in3 (List.mem_of_getElem? (i := 193) rfl), by decide +kernel, by decide +kernel, List.mem_of_getElem? (i := 61) (by decide +kernel), by decide +kernel, by decide +kernel, by decide +kernel⟩
set_option maxRecDepth 20000 in
theorem zk_m92 : zk_okM zk_r92 := ⟨zk_in3 (List.mem_of_getElem? (i := 196) rfl), by decide +kernel, by decide +kernel, List.mem_of_getElem? (i := 61) (by decide +kernel), by decide +kernel, by decide +kernel, by decide +kernel⟩
set_option maxRecDepth 20000 in
theorem zk_m93 : zk_okM zk_r93 := ⟨zk_in3 (List.mem_of_getElem? (i := 206) rfl), by decide +kernel, by decide +kernel, List.mem_of_getElem? (i := 61) (by decide +kernel), by decide +kernel, by decide +kernel, by decide +kernel⟩
set_option maxRecDepth 20000 in
theorem zk_m94 : zk_okM zk_r94 := ⟨zk_in3 (List.mem_of_getElem? (i := 210) rfl), by decide +kernel, by decide +kernel, List.mem_of_getElem? (i := 61) (by decide +kernel), by decide +kernel, by decide +kernel, by decide +kernel⟩
set_option maxRecDepth 20000 in
theorem zk_m95 : zk_okM zk_r95 := ⟨zk_in3 (List.mem_of_getElem? (i := 218) rfl), by decide +kernel, by decide +kernel, List.mem_of_getElem? (i := 61) (by decide +kernel), by decide +kernel, by decide +kernel, by decide +kernel⟩
set_option maxRecDepth 20000 in
theorem zk_m96 : zk_okM zk_r96 := ⟨zk_in3 (List.mem_of_getElem? (i := 226) rfl), by decide +kernel, by decide +kernel, List.mem_of_getElem? (i := 61) (by decide +kernel), by decide +kernel, by decide +kernel, by decide +kernel⟩
set_option maxRecDepth 20000 in
theorem zk_m97 : zk_okM zk_r97 := ⟨zk_in3 (List.mem_of_getElem? (i := 239) rfl), by decide +kernel, by decide +kernel, List.mem_of_getElem? (i := 61) (by decide +kernel), by decide +kernel, by decide +kernel, by decide +kernel⟩
set_option maxRecDepth 20000 in
theorem zk_m98 : zk_okM zk_r98 := ⟨zk_in4 (List.mem_of_getElem? (i := 12) rfl), by decide +kernel, by decide +kernel, List.mem_of_getElem? (i := 61) (by decide +kernel), by decide +kernel, by decide +kernel, by decide +kernel⟩
set_option maxRecDepth 20000 in
theorem zk_m99 : zk_okM zk_r99 := ⟨zk_in4 (List.mem_of_getElem? (i := 42) rfl), by decide +kernel, by decide +kernel, List.mem_of_getElem? (i := 61) (by decide +kernel), by decide +kernel, by decide +kernel, by decide +kernel⟩
set_option maxRecDepth 20000 in
theorem zk_m100 : zk_okM zk_r100 := ⟨zk_in4 (List.mem_of_getElem? (i := 46) rfl), by decide +kernel, by decide +kernel, List.mem_of_getElem? (i := 61) (by decide +kernel), by decide +kernel, by decide +kernel, by decide +kernel⟩
set_option maxRecDepth 20000 in
theorem zk_m101 : zk_okM zk_r101 := ⟨zk_in4 (List.mem_of_getElem? (i := 50) rfl), by decide +kernel, by decide +kernel, List.mem_of_getElem? (i := 61) (by decide +kernel), by decide +kernel, by decide +kernel, by decide +kernel⟩
set_option maxRecDepth 20000 in
theorem zk_m102 : zk_okM zk_r102 := ⟨zk_in4 (List.mem_of_getElem? (i := 55) rfl), by decide +kernel, by decide +kernel, List.mem_of_getElem? (i := 61) (by decide +kernel), by decide +kernel, by decide +kernel, by decide +kernel⟩
set_option maxRecDepth 20000 in
theorem zk_m103 : zk_okM zk_r103 := ⟨zk_in4 (List.mem_of_getElem? (i := 59) rfl), by decide +kernel, by decide +kernel, List.mem_of_getElem? (i := 61) (by decide +kernel), by decide +kernel, by decide +kernel, by decide +kernel⟩
set_option maxRecDepth 20000 in
theorem zk_m104 : zk_okM zk_r104 := ⟨zk_in4 (List.mem_of_getElem? (i := 67) rfl), by decide +kernel, by decide +kernel, List.mem_of_getElem? (i := 61) (by decide +kernel), by decide +kernel, by decide +kernel, by decide +kernel⟩
set_option maxRecDepth 20000 in
theorem zk_m105 : zk_okM zk_r105 := ⟨zk_in4 (List.mem_of_getElem? (i := 71) rfl), by decide +kernel, by decide +kernel, List.mem_of_getElem? (i := 61) (by decide +kernel), by decide +kernel, by decide +kernel, by decide +kernel⟩
set_option maxRecDepth 20000 in
theorem zk_m106 : zk_okM zk_r106 := ⟨zk_in4 (List.mem_of_getElem? (i := 75) rfl), by decide +kernel, by decide +kernel, List.mem_of_getElem? (i := 61) (by decide +kernel), by decide +kernel, by decide +kernel, by decide +kernel⟩
set_option maxRecDepth 20000 in
theorem zk_m107 : zk_okM zk_r107 := ⟨zk_in4 (List.mem_of_getElem? (i := 79) rfl), by decide +kernel, by decide +kernel, List.mem_of_getElem? (i := 61) (by decide +kernel), by decide +kernel, by decide +kernel, by decide +kernel⟩
set_option maxRecDepth 20000 in
theorem zk_m108 : zk_okM zk_r108 := ⟨zk_in4 (List.mem_of_getElem? (i := 83) rfl), by decide +kernel, by decide +kernel, List.mem_of_getElem? (i := 61) (by decide +kernel), by decide +kernel, by decide +kernel, by decide +kernel⟩
set_option maxRecDepth 20000 in
theorem zk_m109 : zk_okM zk_r109 := ⟨zk_in4 (List.mem_of_getElem? (i := 88) rfl), by decide +kernel, by decide +kernel, List.mem_of_getElem? (i := 61) (by decide +kernel), by decide +kernel, by decide +kernel, by decide +kernel⟩
set_option maxRecDepth 20000 in
theorem zk_m110 : zk_okM zk_r110 := ⟨zk_in4 (List.mem_of_getElem? (i := 92) rfl), by decide +kernel, by decide +kernel, List.mem_of_getElem? (i := 61) (by decide +kernel), by decide +kernel, by decide +kernel, by decide +kernel⟩
set_option maxRecDepth 20000 in
theorem zk_m111 : zk_okM zk_r111 := ⟨zk_in4 (List.mem_of_getElem? (i := 96) rfl), by decide +kernel, by decide +kernel, List.mem_of_getElem? (i := 61) (by decide +kernel), by decide +kernel, by decide +kernel, by decide +kernel⟩
set_option maxRecDepth 20000 in
theorem zk_m112 : zk_okM zk_r112 := ⟨zk_in4 (List.mem_of_getElem? (i := 100) rfl), by decide +kernel, by decide +kernel, List.mem_of_getElem? (i := 61) (by decide +kernel), by decide +kernel, by decide +kernel, by decide +kernel⟩
set_option maxRecDepth 20000 in
theorem zk_m113 : zk_okM zk_r113 := ⟨zk_in4 (List.mem_of_getElem? (i := 105) rfl), by decide +kernel, by decide +kernel, List.mem_of_getElem? (i := 66) (by decide +kernel), by decide +kernel, by decide +kernel, by decide +kernel⟩
set_option maxRecDepth 20000 in
theorem zk_m114 : zk_okM zk_r114 := ⟨zk_in5 (List.mem_of_getElem? (i := 39) rfl), by decide +kernel, by decide +kernel, List.mem_of_getElem? (i := 66) (by decide +kernel), by decide +kernel, by decide +kernel, by decide +kernel⟩
set_option maxRecDepth 20000 in
theorem zk_m115 : zk_okM zk_r115 := ⟨zk_in5 (List.mem_of_getElem? (i := 43) rfl), by decide +kernel, by decide +kernel, List.mem_of_getElem? (i := 66) (by decide +kernel), by decide +kernel, by decide +kernel, by decide +kernel⟩
set_option maxRecDepth 20000 in
theorem zk_m116 : zk_okM zk_r116 := ⟨zk_in5 (List.mem_of_getElem? (i := 47) rfl), by decide +kernel, by decide +kernel, List.mem_of_getElem? (i := 66) (by decide +kernel), by decide +kernel, by decide +kernel, by decide +kernel⟩
set_option maxRecDepth 20000 in
theorem zk_m117 : zk_okM zk_r117 := ⟨zk_in5 (List.mem_of_getElem? (i := 50) rfl), by decide +kernel, by decide +kernel, List.mem_of_getElem? (i := 66) (by decide +kernel), by decide +kernel, by decide +kernel, by decide +kernel⟩
set_option maxRecDepth 20000 in
theorem zk_m118 : zk_okM zk_r118 := ⟨zk_in5 (List.mem_of_getElem? (i := 55) rfl), by decide +kernel, by decide +kernel, List.mem_of_getElem? (i := 66) (by decide +kernel), by decide +kernel, by decide +kernel, by decide +kernel⟩
set_option maxRecDepth 20000 in
theorem zk_m119 : zk_okM zk_r119 := ⟨zk_in5 (List.mem_of_getElem? (i := 59) rfl), by decide +kernel, by decide +kernel, List.mem_of_getElem? (i := 66) (by decide +kernel), by decide +kernel, by decide +kernel, by decide +kernel⟩
set_option maxRecDepth 20000 in
theorem zk_m120 : zk_okM zk_r120 := ⟨zk_in5 (List.mem_of_getElem? (i := 63) rfl), by decide +kernel, by decide +kernel, List.mem_of_getElem? (i := 66) (by decide +kernel), by decide +kernel, by decide +kernel, by decide +kernel⟩
set_option maxRecDepth 20000 in
theorem zk_m121 : zk_okM zk_r121 := ⟨zk_in5 (List.mem_of_getElem? (i := 67) rfl), by decide +kernel, by decide +kernel, List.mem_of_getElem? (i := 66) (by decide +kernel), by decide +kernel, by decide +kernel, by decide +kernel⟩
set_option maxRecDepth 20000 in
theorem zk_m122 : zk_okM zk_r122 := ⟨zk_in5 (List.mem_of_getElem? (i := 71) rfl), by decide +kernel, by decide +kernel, List.mem_of_getElem? (i := 66) (by decide +kernel), by decide +kernel, by decide +kernel, by decide +kernel⟩
set_option maxRecDepth 20000 in
theorem zk_m123 : zk_okM zk_r123 := ⟨zk_in5 (List.mem_of_getElem? (i := 75) rfl), by decide +kernel, by decide +kernel, List.mem_of_getElem? (i := 66) (by decide +kernel), by decide +kernel, by decide +kernel, by decide +kernel⟩
set_option maxRecDepth 20000 in
theorem zk_m124 : zk_okM zk_r124 := ⟨zk_in5 (List.mem_of_getElem? (i := 80) rfl), by decide +kernel, by decide +kernel, List.mem_of_getElem? (i := 66) (by decide +kernel), by decide +kernel, by decide +kernel, by decide +kernel⟩
set_option maxRecDepth 20000 in
theorem zk_m125 : zk_okM zk_r125 := ⟨zk_in5 (List.mem_of_getElem? (i := 85) rfl), by decide +kernel, by decide +kernel, List.mem_of_getElem? (i := 66) (by decide +kernel), by decide +kernel, by decide +kernel, by decide +kernel⟩
set_option maxRecDepth 20000 in
theorem zk_m126 : zk_okM zk_r126 := ⟨zk_in5 (List.mem_of_getElem? (i := 88) rfl), by decide +kernel, by decide +kernel, List.mem_of_getElem? (i := 66) (by decide +kernel), by decide +kernel, by decide +kernel, by decide +kernel⟩
set_option maxRecDepth 20000 in
theorem zk_m127 : zk_okM zk_r127 := ⟨zk_in5 (List.mem_of_getElem? (i := 92) rfl), by decide +kernel, by decide +kernel, List.mem_of_getElem? (i := 66) (by decide +kernel), by decide +kernel, by decide +kernel, by decide +kernel⟩
set_option maxRecDepth 20000 in
theorem zk_m128 : zk_okM zk_r128 := ⟨zk_in5 (List.mem_of_getElem? (i := 96) rfl), by decide +kernel, by decide +kernel, List.mem_of_getElem? (i := 66) (by decide +kernel), by decide +kernel, by decide +kernel, by decide +kernel⟩
set_option maxRecDepth 20000 in
theorem zk_m129 : zk_okM zk_r129 := ⟨zk_in5 (List.mem_of_getElem? (i := 100) rfl), by decide +kernel, by decide +kernel, List.mem_of_getElem? (i := 66) (by decide +kernel), by decide +kernel, by decide +kernel, by decide +kernel⟩
set_option maxRecDepth 20000 in
theorem zk_m130 : zk_okM zk_r130 := ⟨zk_in5 (List.mem_of_getElem? (i := 107) rfl), by decide +kernel, by decide +kernel, List.mem_of_getElem? (i := 66) (by decide +kernel), by decide +kernel, by decide +kernel, by decide +kernel⟩
set_option maxRecDepth 20000 in
theorem zk_m131 : zk_okM zk_r131 := ⟨zk_in5 (List.mem_of_getElem? (i := 111) rfl), by decide +kernel, by decide +kernel, List.mem_of_getElem? (i := 66) (by decide +kernel), by decide +kernel, by decide +kernel, by decide +kernel⟩
set_option maxRecDepth 20000 in
theorem zk_m132 : zk_okM zk_r132 := ⟨zk_in5 (List.mem_of_getElem? (i := 115) rfl), by decide +kernel, by decide +kernel, List.mem_of_getElem? (i := 66) (by decide +kernel), by decide +kernel, by decide +kernel, by decide +kernel⟩
set_option maxRecDepth 20000 in
theorem zk_m133 : zk_okM zk_r133 := ⟨zk_in5 (List.mem_of_getElem? (i := 119) rfl), by decide +kernel, by decide +kernel, List.mem_of_getElem? (i := 66) (by decide +kernel), by decide +kernel, by decide +kernel, by decide +kernel⟩
set_option maxRecDepth 20000 in
theorem zk_m134 : zk_okM zk_r134 := ⟨zk_in5 (List.mem_of_getElem? (i := 123) rfl), by decide +kernel, by decide +kernel, List.mem_of_getElem? (i := 66) (by decide +kernel), by decide +kernel, by decide +kernel, by decide +kernel⟩
set_option maxRecDepth 20000 in
theorem zk_m135 : zk_okM zk_r135 := ⟨zk_in5 (List.mem_of_getElem? (i := 131) rfl), by decide +kernel, by decide +kernel, List.mem_of_getElem? (i := 66) (by decide +kernel), by decide +kernel, by decide +kernel, by decide +kernel⟩
set_option maxRecDepth 20000 in
theorem zk_m136 : zk_okM zk_r136 := ⟨zk_in5 (List.mem_of_getElem? (i := 135) rfl), by decide +kernel, by decide +kernel, List.mem_of_getElem? (i := 66) (by decide +kernel), by decide +kernel, by decide +kernel, by decide +kernel⟩
set_option maxRecDepth 20000 in
theorem zk_m137 : zk_okM zk_r137 := ⟨zk_in5 (List.mem_of_getElem? (i := 139) rfl), by decide +kernel, by decide +kernel, List.mem_of_getElem? (i := 66) (by decide +kernel), by decide +kernel, by decide +kernel, by decide +kernel⟩
set_option maxRecDepth 20000 in
theorem zk_m138 : zk_okM zk_r138 := ⟨zk_in5 (List.mem_of_getElem? (i := 143) rfl), by decide +kernel, by decide +kernel, List.mem_of_getElem? (i := 66) (by decide +kernel), by decide +kernel, by decide +kernel, by decide +kernel⟩
set_option maxRecDepth 20000 in
theorem zk_m139 : zk_okM zk_r139 := ⟨zk_in5 (List.mem_of_getElem? (i := 147) rfl), by decide +kernel, by decide +kernel, List.mem_of_getElem? (i := 66) (by decide +kernel), by decide +kernel, by decide +kernel, by decide +kernel⟩
set_option maxRecDepth 20000 in
theorem zk_m140 : zk_okM zk_r140 := ⟨zk_in5 (List.mem_of_getElem? (i := 151) rfl), by decide +kernel, by decide +kernel, List.mem_of_getElem? (i := 66) (by decide +kernel), by decide +kernel, by decide +kernel, by decide +kernel⟩
set_option maxRecDepth 20000 in
theorem zk_m141 : zk_okM zk_r141 := ⟨zk_in5 (List.mem_of_getElem? (i := 155) rfl), by decide +kernel, by decide +kernel, List.mem_of_getElem? (i := 66) (by decide +kernel), by decide +kernel, by decide +kernel, by decide +kernel⟩
set_option maxRecDepth 20000 in
theorem zk_m142 : zk_okM zk_r142 := ⟨zk_in5 (List.mem_of_getElem? (i := 159) rfl), by decide +kernel, by decide +kernel, List.mem_of_getElem? (i := 66) (by decide +kernel), by decide +kernel, by decide +kernel, by decide +kernel⟩
set_option maxRecDepth 20000 in
theorem zk_m143 : zk_okM zk_r143 := ⟨zk_in5 (List.mem_of_getElem? (i := 163) rfl), by decide +kernel, by decide +kernel, List.mem_of_getElem? (i := 66) (by decide +kernel), by decide +kernel, by decide +kernel, by decide +kernel⟩
set_option maxRecDepth 20000 in
theorem zk_m144 : zk_okM zk_r144 := ⟨zk_in5 (List.mem_of_getElem? (i := 167) rfl), by decide +kernel, by decide +kernel, List.mem_of_getElem? (i := 66) (by decide +kernel), by decide +kernel, by decide +kernel, by decide +kernel⟩
set_option maxRecDepth 20000 in
theorem zk_m145 : zk_okM zk_r145 := ⟨zk_in5 (List.mem_of_getElem? (i := 171) rfl), by decide +kernel, by decide +kernel, List.mem_of_getElem? (i := 66) (by decide +kernel), by decide +kernel, by decide +kernel, by decide +kernel⟩
set_option maxRecDepth 20000 in
theorem zk_m146 : zk_okM zk_r146 := ⟨zk_in5 (List.mem_of_getElem? (i := 175) rfl), by decide +kernel, by decide +kernel, List.mem_of_getElem? (i := 66) (by decide +kernel), by decide +kernel, by decide +kernel, by decide +kernel⟩
set_option maxRecDepth 20000 in
theorem zk_m147 : zk_okM zk_r147 := ⟨zk_in5 (List.mem_of_getElem? (i := 179) rfl), by decide +kernel, by decide +kernel, List.mem_of_getElem? (i := 66) (by decide +kernel), by decide +kernel, by decide +kernel, by decide +kernel⟩
set_option maxRecDepth 20000 in
theorem zk_m148 : zk_okM zk_r148 := ⟨zk_in5 (List.mem_of_getElem? (i := 182) rfl), by decide +kernel, by decide +kernel, List.mem_of_getElem? (i := 66) (by decide +kernel), by decide +kernel, by decide +kernel, by decide +kernel⟩
set_option maxRecDepth 20000 in
theorem zk_m149 : zk_okM zk_r149 := ⟨zk_in5 (List.mem_of_getElem? (i := 185) rfl), by decide +kernel, by decide +kernel, List.mem_of_getElem? (i := 66) (by decide +kernel), by decide +kernel, by decide +kernel, by decide +kernel⟩
set_option maxRecDepth 20000 in
theorem zk_m150 : zk_okM zk_r150 := ⟨zk_in5 (List.mem_of_getElem? (i := 189) rfl), by decide +kernel, by decide +kernel, List.mem_of_getElem? (i := 66) (by decide +kernel), by decide +kernel, by decide +kernel, by decide +kernel⟩
set_option maxRecDepth 20000 in
theorem zk_m151 : zk_okM zk_r151 := ⟨zk_in5 (List.mem_of_getElem? (i := 193) rfl), by decide +kernel, by decide +kernel, List.mem_of_getElem? (i := 66) (by decide +kernel), by decide +kernel, by decide +kernel, by decide +kernel⟩
set_option maxRecDepth 20000 in
theorem zk_m152 : zk_okM zk_r152 := ⟨zk_in5 (List.mem_of_getElem? (i := 196) rfl), by decide +kernel, by decide +kernel, List.mem_of_getElem? (i := 66) (by decide +kernel), by decide +kernel, by decide +kernel, by decide +kernel⟩
set_option maxRecDepth 20000 in
theorem zk_m153 : zk_okM zk_r153 := ⟨zk_in5 (List.mem_of_getElem? (i := 199) rfl), by decide +kernel, by decide +kernel, List.mem_of_getElem? (i := 66) (by decide +kernel), by decide +kernel, by decide +kernel, by decide +kernel⟩
set_option maxRecDepth 20000 in
theorem zk_m154 : zk_okM zk_r154 := ⟨zk_in5 (List.mem_of_getElem? (i := 203) rfl), by decide +kernel, by decide +kernel, List.mem_of_getElem? (i := 66) (by decide +kernel), by decide +kernel, by decide +kernel, by decide +kernel⟩
set_option maxRecDepth 20000 in
theorem zk_m155 : zk_okM zk_r155 := ⟨zk_in5 (List.mem_of_getElem? (i := 207) rfl), by decide +kernel, by decide +kernel, List.mem_of_getElem? (i := 66) (by decide +kernel), by decide +kernel, by decide +kernel, by decide +kernel⟩
set_option maxRecDepth 20000 in
theorem zk_m156 : zk_okM zk_r156 := ⟨zk_in5 (List.mem_of_getElem? (i := 211) rfl), by decide +kernel, by decide +kernel, List.mem_of_getElem? (i := 66) (by decide +kernel), by decide +kernel, by decide +kernel, by decide +kernel⟩
set_option maxRecDepth 20000 in
theorem zk_m157 : zk_okM zk_r157 := ⟨zk_in5 (List.mem_of_getElem? (i := 215) rfl), by decide +kernel, by decide +kernel, List.mem_of_getElem? (i := 66) (by decide +kernel), by decide +kernel, by decide +kernel, by decide +kernel⟩
set_option maxRecDepth 20000 in
theorem zk_m158 : zk_okM zk_r158 := ⟨zk_in5 (List.mem_of_getElem? (i := 219) rfl), by decide +kernel, by decide +kernel, List.mem_of_getElem? (i := 66) (by decide +kernel), by decide +kernel, by decide +kernel, by decide +kernel⟩
set_option maxRecDepth 20000 in
theorem zk_m159 : zk_okM zk_r159 := ⟨zk_in5 (List.mem_of_getElem? (i := 223) rfl), by decide +kernel, by decide +kernel, List.mem_of_getElem? (i := 66) (by decide +kernel), by decide +kernel, by decide +kernel, by decide +kernel⟩
set_option maxRecDepth 20000 in
theorem zk_m160 : zk_okM zk_r160 := ⟨zk_in5 (List.mem_of_getElem? (i := 227) rfl), by decide +kernel, by decide +kernel, List.mem_of_getElem? (i := 66) (by decide +kernel), by decide +kernel, by decide +kernel, by decide +kernel⟩
set_option maxRecDepth 20000 in
theorem zk_m161 : zk_okM zk_r161 := ⟨zk_in5 (List.mem_of_getElem? (i := 231) rfl), by decide +kernel, by decide +kernel, List.mem_of_getElem? (i := 66) (by decide +kernel), by decide +kernel, by decide +kernel, by decide +kernel⟩
set_option maxRecDepth 20000 in
theorem zk_m162 : zk_okM zk_r162 := ⟨zk_in5 (List.mem_of_getElem? (i := 235) rfl), by decide +kernel, by decide +kernel, List.mem_of_getElem? (i := 66) (by decide +kernel), by decide +kernel, by decide +kernel, by decide +kernel⟩
set_option maxRecDepth 20000 in
theorem zk_m163 : zk_okM zk_r163 := ⟨zk_in5 (List.mem_of_getElem? (i := 239) rfl), by decide +kernel, by decide +kernel, List.mem_of_getElem? (i := 66) (by decide +kernel), by decide +kernel, by decide +kernel, by decide +kernel⟩
set_option maxRecDepth 20000 in
theorem zk_m164 : zk_okM zk_r164 := ⟨zk_in6 (List.mem_of_getElem? (i := 3) rfl), by decide +kernel, by decide +kernel, List.mem_of_getElem? (i := 66) (by decide +kernel), by decide +kernel, by decide +kernel, by decide +kernel⟩
set_option maxRecDepth 20000 in
theorem zk_m165 : zk_okM zk_r165 := ⟨zk_in6 (List.mem_of_getElem? (i := 7) rfl), by decide +kernel, by decide +kernel, List.mem_of_getElem? (i := 66) (by decide +kernel), by decide +kernel, by decide +kernel, by decide +kernel⟩
set_option maxRecDepth 20000 in
theorem zk_m166 : zk_okM zk_r166 := ⟨zk_in6 (List.mem_of_getElem? (i := 11) rfl), by decide +kernel, by decide +kernel, List.mem_of_getElem? (i := 66) (by decide +kernel), by decide +kernel, by decide +kernel, by decide +kernel⟩
set_option maxRecDepth 20000 in
theorem zk_m167 : zk_okM zk_r167 := ⟨zk_in6 (List.mem_of_getElem? (i := 15) rfl), by decide +kernel, by decide +kernel, List.mem_of_getElem? (i := 66) (by decide +kernel), by decide +kernel, by decide +kernel, by decide +kernel⟩
set_option maxRecDepth 20000 in
theorem zk_m168 : zk_okM zk_r168 := ⟨zk_in6 (List.mem_of_getElem? (i := 19) rfl), by decide +kernel, by decide +kernel, List.mem_of_getElem? (i := 66) (by decide +kernel), by decide +kernel, by decide +kernel, by decide +kernel⟩
set_option maxRecDepth 20000 in
theorem zk_m169 : zk_okM zk_r169 := ⟨zk_in6 (List.mem_of_getElem? (i := 23) rfl), by decide +kernel, by decide +kernel, List.mem_of_getElem? (i := 66) (by decide +kernel), by decide +kernel, by decide +kernel, by decide +kernel⟩
set_option maxRecDepth 20000 in
theorem zk_m170 : zk_okM zk_r170 := ⟨zk_in6 (List.mem_of_getElem? (i := 27) rfl), by decide +kernel, by decide +kernel, List.mem_of_getElem? (i := 66) (by decide +kernel), by decide +kernel, by decide +kernel, by decide +kernel⟩
set_option maxRecDepth 20000 in
theorem zk_m171 : zk_okM zk_r171 := ⟨zk_in6 (List.mem_of_getElem? (i := 31) rfl), by decide +kernel, by decide +kernel, List.mem_of_getElem? (i := 66) (by decide +kernel), by decide +kernel, by decide +kernel, by decide +kernel⟩
set_option maxRecDepth 20000 in
theorem zk_m172 : zk_okM zk_r172 := ⟨zk_in6 (List.mem_of_getElem? (i := 35) rfl), by decide +kernel, by decide +kernel, List.mem_of_getElem? (i := 66) (by decide +kernel), by decide +kernel, by decide +kernel, by decide +kernel⟩
set_option maxRecDepth 20000 in
theorem zk_m173 : zk_okM zk_r173 := ⟨zk_in6 (List.mem_of_getElem? (i := 39) rfl), by decide +kernel, by decide +kernel, List.mem_of_getElem? (i := 66) (by decide +kernel), by decide +kernel, by decide +kernel, by decide +kernel⟩
set_option maxRecDepth 20000 in
theorem zk_m174 : zk_okM zk_r174 := ⟨zk_in6 (List.mem_of_getElem? (i := 43) rfl), by decide +kernel, by decide +kernel, List.mem_of_getElem? (i := 66) (by decide +kernel), by decide +kernel, by decide +kernel, by decide +kernel⟩
set_option maxRecDepth 20000 in
theorem zk_m175 : zk_okM zk_r175 := ⟨zk_in6 (List.mem_of_getElem? (i := 47) rfl), by decide +kernel, by decide +kernel, List.mem_of_getElem? (i := 66) (by decide +kernel), by decide +kernel, by decide +kernel, by decide +kernel⟩
set_option maxRecDepth 20000 in
theorem zk_m176 : zk_okM zk_r176 := ⟨zk_in6 (List.mem_of_getElem? (i := 51) rfl), by decide +kernel, by decide +kernel, List.mem_of_getElem? (i := 66) (by decide +kernel), by decide +kernel, by decide +kernel, by decide +kernel⟩
set_option maxRecDepth 20000 in
theorem zk_m177 : zk_okM zk_r177 := ⟨zk_in6 (List.mem_of_getElem? (i := 55) rfl), by decide +kernel, by decide +kernel, List.mem_of_getElem? (i := 66) (by decide +kernel), by decide +kernel, by decide +kernel, by decide +kernel⟩
set_option maxRecDepth 20000 in
theorem zk_m178 : zk_okM zk_r178 := ⟨zk_in6 (List.mem_of_getElem? (i := 59) rfl), by decide +kernel, by decide +kernel, List.mem_of_getElem? (i := 66) (by decide +kernel), by decide +kernel, by decide +kernel, by decide +kernel⟩
set_option maxRecDepth 20000 in
theorem zk_m179 : zk_okM zk_r179 := ⟨zk_in6 (List.mem_of_getElem? (i := 63) rfl), by decide +kernel, by decide +kernel, List.mem_of_getElem? (i := 66) (by decide +kernel), by decide +kernel, by decide +kernel, by decide +kernel⟩
set_option maxRecDepth 20000 in
theorem zk_m180 : zk_okM zk_r180 := ⟨zk_in6 (List.mem_of_getElem? (i := 67) rfl), by decide +kernel, by decide +kernel, List.mem_of_getElem? (i := 66) (by decide +kernel), by decide +kernel, by decide +kernel, by decide +kernel⟩
set_option maxRecDepth 20000 in
theorem zk_m181 : zk_okM zk_r181 := ⟨zk_in6 (List.mem_of_getElem? (i := 71) rfl), by decide +kernel, by decide +kernel, List.mem_of_getElem? (i := 66) (by decide +kernel), by decide +kernel, by decide +kernel, by decide +kernel⟩
set_option maxRecDepth 20000 in
theorem zk_m182 : zk_okM zk_r182 := ⟨zk_in6 (List.mem_of_getElem? (i := 75) rfl), by decide +kernel, by decide +kernel, List.mem_of_getElem? (i := 66) (by decide +kernel), by decide +kernel, by decide +kernel, by decide +kernel⟩
set_option maxRecDepth 20000 in
theorem zk_m183 : zk_okM zk_r183 := ⟨zk_in6 (List.mem_of_getElem? (i := 79) rfl), by decide +kernel, by decide +kernel, List.mem_of_getElem? (i := 66) (by decide +kernel), by decide +kernel, by decide +kernel, by decide +kernel⟩
set_option maxRecDepth 20000 in
theorem zk_m184 : zk_okM zk_r184 := ⟨zk_in6 (List.mem_of_getElem? (i := 83) rfl), by decide +kernel, by decide +kernel, List.mem_of_getElem? (i := 66) (by decide +kernel), by decide +kernel, by decide +kernel, by decide +kernel⟩
set_option maxRecDepth 20000 in
theorem zk_m185 : zk_okM zk_r185 := ⟨zk_in6 (List.mem_of_getElem? (i := 87) rfl), by decide +kernel, by decide +kernel, List.mem_of_getElem? (i := 66) (by decide +kernel), by decide +kernel, by decide +kernel, by decide +kernel⟩
set_option maxRecDepth 20000 in
theorem zk_m186 : zk_okM zk_r186 := ⟨zk_in6 (List.mem_of_getElem? (i := 91) rfl), by decide +kernel, by decide +kernel, List.mem_of_getElem? (i := 66) (by decide +kernel), by decide +kernel, by decide +kernel, by decide +kernel⟩
set_option maxRecDepth 20000 in
theorem zk_m187 : zk_okM zk_r187 := ⟨zk_in6 (List.mem_of_getElem? (i := 95) rfl), by decide +kernel, by decide +kernel, List.mem_of_getElem? (i := 66) (by decide +kernel), by decide +kernel, by decide +kernel, by decide +kernel⟩
set_option maxRecDepth 20000 in
theorem zk_m188 : zk_okM zk_r188 := ⟨zk_in6 (List.mem_of_getElem? (i := 99) rfl), by decide +kernel, by decide +kernel, List.mem_of_getElem? (i := 66) (by decide +kernel), by decide +kernel, by decide +kernel, by decide +kernel⟩
set_option maxRecDepth 20000 in
theorem zk_m189 : zk_okM zk_r189 := ⟨zk_in6 (List.mem_of_getElem? (i := 103) rfl), by decide +kernel, by decide +kernel, List.mem_of_getElem? (i := 66) (by decide +kernel), by decide +kernel, by decide +kernel, by decide +kernel⟩
set_option maxRecDepth 20000 in
theorem zk_m190 : zk_okM zk_r190 := ⟨zk_in6 (List.mem_of_getElem? (i := 107) rfl), by decide +kernel, by decide +kernel, List.mem_of_getElem? (i := 66) (by decide +kernel), by decide +kernel, by decide +kernel, by decide +kernel⟩
set_option maxRecDepth 20000 in
theorem zk_m191 : zk_okM zk_r191 := ⟨zk_in6 (List.mem_of_getElem? (i := 111) rfl), by decide +kernel, by decide +kernel, List.mem_of_getElem? (i := 66) (by decide +kernel), by decide +kernel, by decide +kernel, by decide +kernel⟩
set_option maxRecDepth 20000 in
theorem zk_m192 : zk_okM zk_r192 := ⟨zk_in2 (List.mem_of_getElem? (i := 82) rfl), by decide +kernel, by decide +kernel, List.mem_of_getElem? (i := 72) (by decide +kernel), by decide +kernel, by decide +kernel, by decide +kernel⟩
set_option maxRecDepth 20000 in
theorem zk_m193 : zk_okM zk_r193 := ⟨zk_in2 (List.mem_of_getElem? (i := 124) rfl), by decide +kernel, by decide +kernel, List.mem_of_getElem? (i := 72) (by decide +kernel), by decide +kernel, by decide +kernel, by decide +kernel⟩
set_option maxRecDepth 20000 in
theorem zk_m194 : zk_okM zk_r194 := ⟨zk_in2 (List.mem_of_getElem? (i := 132) rfl), by decide +kernel, by decide +kernel, List.mem_of_getElem? (i := 72) (by decide +kernel), by decide +kernel, by decide +kernel, by decide +kernel⟩
set_option maxRecDepth 20000 in
theorem zk_m195 : zk_okM zk_r195 := ⟨zk_in2 (List.mem_of_getElem? (i := 135) rfl), by decide +kernel, by decide +kernel, List.mem_of_getElem? (i := 72) (by decide +kernel), by decide +kernel, by decide +kernel, by decide +kernel⟩
set_option maxRecDepth 20000 in
theorem zk_m196 : zk_okM zk_r196 := ⟨zk_in2 (List.mem_of_getElem? (i := 138) rfl), by decide +kernel, by decide +kernel, List.mem_of_getElem? (i := 72) (by decide +kernel), by decide +kernel, by decide +kernel, by decide +kernel⟩
set_option maxRecDepth 20000 in
theorem zk_m197 : zk_okM zk_r197 := ⟨zk_in1 (List.mem_of_getElem? (i := 216) rfl), by decide +kernel, by decide +kernel, List.mem_of_getElem? (i := 69) (by decide +kernel), by decide +kernel, by decide +kernel, by decide +kernel⟩
set_option maxRecDepth 20000 in
theorem zk_m198 : zk_okM zk_r198 := ⟨zk_in1 (List.mem_of_getElem? (i := 219) rfl), by decide +kernel, by decide +kernel, List.mem_of_getElem? (i := 69) (by decide +kernel), by decide +kernel, by decide +kernel, by decide +kernel⟩
set_option maxRecDepth 20000 in
theorem zk_m199 : zk_okM zk_r199 := ⟨zk_in2 (List.mem_of_getElem? (i := 85) rfl), by decide +kernel, by decide +kernel, List.mem_of_getElem? (i := 69) (by decide +kernel), by decide +kernel, by decide +kernel, by decide +kernel⟩
set_option maxRecDepth 20000 in
theorem zk_m200 : zk_okM zk_r200 := ⟨zk_in2 (List.mem_of_getElem? (i := 108) rfl), by decide +kernel, by decide +kernel, List.mem_of_getElem? (i := 69) (by decide +kernel), by decide +kernel, by decide +kernel, by decide +kernel⟩
set_option maxRecDepth 20000 in
theorem zk_m201 : zk_okM zk_r201 := ⟨zk_in2 (List.mem_of_getElem? (i := 129) rfl), by decide +kernel, by decide +kernel, List.mem_of_getElem? (i := 69) (by decide +kernel), by decide +kernel, by decide +kernel, by decide +kernel⟩
set_option maxRecDepth 20000 in
theorem zk_m202 : zk_okM zk_r202 := ⟨zk_in3 (List.mem_of_getElem? (i := 39) rfl), by decide +kernel, by decide +kernel, List.mem_of_getElem? (i := 76) (by decide +kernel), by decide +kernel, by decide +kernel, by decide +kernel⟩
set_option maxRecDepth 20000 in
theorem zk_m203 : zk_okM zk_r203 := ⟨zk_in2 (List.mem_of_getElem? (i := 235) rfl), by decide +kernel, by decide +kernel, List.mem_of_getElem? (i := 75) (by decide +kernel), by decide +kernel, by decide +kernel, by decide +kernel⟩
set_option maxRecDepth 20000 in
theorem zk_m204 : zk_okM zk_r204 := ⟨zk_in2 (List.mem_of_getElem? (i := 1) rfl), by decide +kernel, by decide +kernel, List.mem_of_getElem? (i := 70) (by decide +kernel), by decide +kernel, by decide +kernel, by decide +kernel⟩
theorem zk_mc0 : ∀ q ∈ [zk_r0, zk_r1, zk_r2, zk_r3, zk_r4, zk_r5, zk_r6, zk_r7, zk_r8, zk_r9, zk_r10, zk_r11, zk_r12, zk_r13, zk_r14, zk_r15, zk_r16, zk_r17, zk_r18, zk_r19], zk_okM q := List.forall_mem_cons.mpr ⟨zk_m0, List.forall_mem_cons.mpr ⟨zk_m1, List.forall_mem_cons.mpr ⟨zk_m2, List.forall_mem_cons.mpr ⟨zk_m3, List.forall_mem_cons.mpr ⟨zk_m4, List.forall_mem_cons.mpr ⟨zk_m5, List.forall_mem_cons.mpr ⟨zk_m6, List.forall_mem_cons.mpr ⟨zk_m7, List.forall_mem_cons.mpr ⟨zk_m8, List.forall_mem_cons.mpr ⟨zk_m9, List.forall_mem_cons.mpr ⟨zk_m10, List.forall_mem_cons.mpr ⟨zk_m11, List.forall_mem_cons.mpr ⟨zk_m12, List.forall_mem_cons.mpr ⟨zk_m13, List.forall_mem_cons.mpr ⟨zk_m14, List.forall_mem_cons.mpr ⟨zk_m15, List.forall_mem_cons.mpr ⟨zk_m16, List.forall_mem_cons.mpr ⟨zk_m17, List.forall_mem_cons.mpr ⟨zk_m18, List.forall_mem_cons.mpr ⟨zk_m19, fun _ h => absurd h List.not_mem_nil⟩⟩⟩⟩⟩⟩⟩⟩⟩⟩⟩⟩⟩⟩⟩⟩⟩⟩⟩⟩
theorem zk_mc1 : ∀ q ∈ [zk_r20, zk_r21, zk_r22, zk_r23, zk_r24, zk_r25, zk_r26, zk_r27, zk_r28, zk_r29, zk_r30, zk_r31, zk_r32, zk_r33, zk_r34, zk_r35, zk_r36, zk_r37, zk_r38, zk_r39], zk_okM q := List.forall_mem_cons.mpr ⟨zk_m20, List.forall_mem_cons.mpr ⟨zk_m21, List.forall_mem_cons.mpr ⟨zk_m22, List.forall_mem_cons.mpr ⟨zk_m23, List.forall_mem_cons.mpr ⟨zk_m24, List.forall_mem_cons.mpr ⟨zk_m25, List.forall_mem_cons.mpr ⟨zk_m26, List.forall_mem_cons.mpr ⟨zk_m27, List.forall_mem_cons.mpr ⟨zk_m28, List.forall_mem_cons.mpr ⟨zk_m29, List.forall_mem_cons.mpr ⟨zk_m30, List.forall_mem_cons.mpr ⟨zk_m31, List.forall_mem_cons.mpr ⟨zk_m32, List.forall_mem_cons.mpr ⟨zk_m33, List.forall_mem_cons.mpr ⟨zk_m34, List.forall_mem_cons.mpr ⟨zk_m35, List.forall_mem_cons.mpr ⟨zk_m36, List.forall_mem_cons.mpr ⟨zk_m37, List.forall_mem_cons.mpr ⟨zk_m38, List.forall_mem_cons.mpr ⟨zk_m39, fun _ h => absurd h List.not_mem_nil⟩⟩⟩⟩⟩⟩⟩⟩⟩⟩⟩⟩⟩⟩⟩⟩⟩⟩⟩⟩
theorem zk_mc2 : ∀ q ∈ [zk_r40, zk_r41, zk_r42, zk_r43, zk_r44, zk_r45, zk_r46, zk_r47, zk_r48, zk_r49, zk_r50, zk_r51, zk_r52, zk_r53, zk_r54, zk_r55, zk_r56, zk_r57, zk_r58, zk_r59], zk_okM q := List.forall_mem_cons.mpr ⟨zk_m40, List.forall_mem_cons.mpr ⟨zk_m41, List.forall_mem_cons.mpr ⟨zk_m42, List.forall_mem_cons.mpr ⟨zk_m43, List.forall_mem_cons.mpr ⟨zk_m44, List.forall_mem_cons.mpr ⟨zk_m45, List.forall_mem_cons.mpr ⟨zk_m46, List.forall_mem_cons.mpr ⟨zk_m47, List.forall_mem_cons.mpr ⟨zk_m48, List.forall_mem_cons.mpr ⟨zk_m49, List.forall_mem_cons.mpr ⟨zk_m50, List.forall_mem_cons.mpr ⟨zk_m51, List.forall_mem_cons.mpr ⟨zk_m52, List.forall_mem_cons.mpr ⟨zk_m53, List.forall_mem_cons.mpr ⟨zk_m54, List.forall_mem_cons.mpr ⟨zk_m55, List.forall_mem_cons.mpr ⟨zk_m56, List.forall_mem_cons.mpr ⟨zk_m57, List.forall_mem_cons.mpr ⟨zk_m58, List.forall_mem_cons.mpr ⟨zk_m59, fun _ h => absurd h List.not_mem_nil⟩⟩⟩⟩⟩⟩⟩⟩⟩⟩⟩⟩⟩⟩⟩⟩⟩⟩⟩⟩
theorem zk_mc3 : ∀ q ∈ [zk_r60, zk_r61, zk_r62, zk_r63, zk_r64, zk_r65, zk_r66, zk_r67, zk_r68, zk_r69, zk_r70, zk_r71, zk_r72, zk_r73, zk_r74, zk_r75, zk_r76, zk_r77, zk_r78, zk_r79], zk_okM q := List.forall_mem_cons.mpr ⟨zk_m60, List.forall_mem_cons.mpr ⟨zk_m61, List.forall_mem_cons.mpr ⟨zk_m62, List.forall_mem_cons.mpr ⟨zk_m63, List.forall_mem_cons.mpr ⟨zk_m64, List.forall_mem_cons.mpr ⟨zk_m65, List.forall_mem_cons.mpr ⟨zk_m66, List.forall_mem_cons.mpr ⟨zk_m67, List.forall_mem_cons.mpr ⟨zk_m68, List.forall_mem_cons.mpr ⟨zk_m69, List.forall_mem_cons.mpr ⟨zk_m70, List.forall_mem_cons.mpr ⟨zk_m71, List.forall_mem_cons.mpr ⟨zk_m72, List.forall_mem_cons.mpr ⟨zk_m73, List.forall_mem_cons.mpr ⟨zk_m74, List.forall_mem_cons.mpr ⟨zk_m75, List.forall_mem_cons.mpr ⟨zk_m76, List.forall_mem_cons.mpr ⟨zk_m77, List.forall_mem_cons.mpr ⟨zk_m78, List.forall_mem_cons.mpr ⟨zk_m79, fun _ h => absurd h List.not_mem_nil⟩⟩⟩⟩⟩⟩⟩⟩⟩⟩⟩⟩⟩⟩⟩⟩⟩⟩⟩⟩
theorem zk_mc4 : ∀ q ∈ [zk_r80, zk_r81, zk_r82, zk_r83, zk_r84, zk_r85, zk_r86, zk_r87, zk_r88, zk_r89, zk_r90, zk_r91, zk_r92, zk_r93, zk_r94, zk_r95, zk_r96, zk_r97, zk_r98, zk_r99], zk_okM q := List.forall_mem_cons.mpr ⟨zk_m80, List.forall_mem_cons.mpr ⟨zk_m81, List.forall_mem_cons.mpr ⟨zk_m82, List.forall_mem_cons.mpr ⟨zk_m83, List.forall_mem_cons.mpr ⟨zk_m84, List.forall_mem_cons.mpr ⟨zk_m85, List.forall_mem_cons.mpr ⟨zk_m86, List.forall_mem_cons.mpr ⟨zk_m87, List.forall_mem_cons.mpr ⟨zk_m88, List.forall_mem_cons.mpr ⟨zk_m89, List.forall_mem_cons.mpr ⟨zk_m90, List.forall_mem_cons.mpr ⟨zk_m91, List.forall_mem_cons.mpr ⟨zk_m92, List.forall_mem_cons.mpr ⟨zk_m93, List.forall_mem_cons.mpr ⟨zk_m94, List.forall_mem_cons.mpr ⟨zk_m95, List.forall_mem_cons.mpr ⟨zk_m96, List.forall_mem_cons.mpr ⟨zk_m97, List.forall_mem_cons.mpr ⟨zk_m98, List.forall_mem_cons.mpr ⟨zk_m99, fun _ h => absurd h List.not_mem_nil⟩⟩⟩⟩⟩⟩⟩⟩⟩⟩⟩⟩⟩⟩⟩⟩⟩⟩⟩⟩
theorem zk_mc5 : ∀ q ∈ [zk_r100, zk_r101, zk_r102, zk_r103, zk_r104, zk_r105, zk_r106, zk_r107, zk_r108, zk_r109, zk_r110, zk_r111, zk_r112, zk_r113, zk_r114, zk_r115, zk_r116, zk_r117, zk_r118, zk_r119], zk_okM q := List.forall_mem_cons.mpr ⟨zk_m100, List.forall_mem_cons.mpr ⟨zk_m101, List.forall_mem_cons.mpr ⟨zk_m102, List.forall_mem_cons.mpr ⟨zk_m103, List.forall_mem_cons.mpr ⟨zk_m104, List.forall_mem_cons.mpr ⟨zk_m105, List.forall_mem_cons.mpr ⟨zk_m106, List.forall_mem_cons.mpr ⟨zk_m107, List.forall_mem_cons.mpr ⟨zk_m108, List.forall_mem_cons.mpr ⟨zk_m109, List.forall_mem_cons.mpr ⟨zk_m110, List.forall_mem_cons.mpr ⟨zk_m111, List.forall_mem_cons.mpr ⟨zk_m112, List.forall_mem_cons.mpr ⟨zk_m113, List.forall_mem_cons.mpr ⟨zk_m114, List.forall_mem_cons.mpr ⟨zk_m115, List.forall_mem_cons.mpr ⟨zk_m116, List.forall_mem_cons.mpr ⟨zk_m117, List.forall_mem_cons.mpr ⟨zk_m118, List.forall_mem_cons.mpr ⟨zk_m119, fun _ h => absurd h List.not_mem_nil⟩⟩⟩⟩⟩⟩⟩⟩⟩⟩⟩⟩⟩⟩⟩⟩⟩⟩⟩⟩
theorem zk_mc6 : ∀ q ∈ [zk_r120, zk_r121, zk_r122, zk_r123, zk_r124, zk_r125, zk_r126, zk_r127, zk_r128, zk_r129, zk_r130, zk_r131, zk_r132, zk_r133, zk_r134, zk_r135, zk_r136, zk_r137, zk_r138, zk_r139], zk_okM q := List.forall_mem_cons.mpr ⟨zk_m120, List.forall_mem_cons.mpr ⟨zk_m121, List.forall_mem_cons.mpr ⟨zk_m122, List.forall_mem_cons.mpr ⟨zk_m123, List.forall_mem_cons.mpr ⟨zk_m124, List.forall_mem_cons.mpr ⟨zk_m125, List.forall_mem_cons.mpr ⟨zk_m126, List.forall_mem_cons.mpr ⟨zk_m127, List.forall_mem_cons.mpr ⟨zk_m128, List.forall_mem_cons.mpr ⟨zk_m129, List.forall_mem_cons.mpr ⟨zk_m130, List.forall_mem_cons.mpr ⟨zk_m131, List.forall_mem_cons.mpr ⟨zk_m132, List.forall_mem_cons.mpr ⟨zk_m133, List.forall_mem_cons.mpr ⟨zk_m134, List.forall_mem_cons.mpr ⟨zk_m135, List.forall_mem_cons.mpr ⟨zk_m136, List.forall_mem_cons.mpr ⟨zk_m137, List.forall_mem_cons.mpr ⟨zk_m138, List.forall_mem_cons.mpr ⟨zk_m139, fun _ h => absurd h List.not_mem_nil⟩⟩⟩⟩⟩⟩⟩⟩⟩⟩⟩⟩⟩⟩⟩⟩⟩⟩⟩⟩
theorem zk_mc7 : ∀ q ∈ [zk_r140, zk_r141, zk_r142, zk_r143, zk_r144, zk_r145, zk_r146, zk_r147, zk_r148, zk_r149, zk_r150, zk_r151, zk_r152, zk_r153, zk_r154, zk_r155, zk_r156, zk_r157, zk_r158, zk_r159], zk_okM q := List.forall_mem_cons.mpr ⟨zk_m140, List.forall_mem_cons.mpr ⟨zk_m141, List.forall_mem_cons.mpr ⟨zk_m142, List.forall_mem_cons.mpr ⟨zk_m143, List.forall_mem_cons.mpr ⟨zk_m144, List.forall_mem_cons.mpr ⟨zk_m145, List.forall_mem_cons.mpr ⟨zk_m146, List.forall_mem_cons.mpr ⟨zk_m147, List.forall_mem_cons.mpr ⟨zk_m148, List.forall_mem_cons.mpr ⟨zk_m149, List.forall_mem_cons.mpr ⟨zk_m150, List.forall_mem_cons.mpr ⟨zk_m151, List.forall_mem_cons.mpr ⟨zk_m152, List.forall_mem_cons.mpr ⟨zk_m153, List.forall_mem_cons.mpr ⟨zk_m154, List.forall_mem_cons.mpr ⟨zk_m155, List.forall_mem_cons.mpr ⟨zk_m156, List.forall_mem_cons.mpr ⟨zk_m157, List.forall_mem_cons.mpr ⟨zk_m158, List.forall_mem_cons.mpr ⟨zk_m159, fun _ h => absurd h List.not_mem_nil⟩⟩⟩⟩⟩⟩⟩⟩⟩⟩⟩⟩⟩⟩⟩⟩⟩⟩⟩⟩
theorem zk_mc8 : ∀ q ∈ [zk_r160, zk_r161, zk_r162, zk_r163, zk_r164, zk_r165, zk_r166, zk_r167, zk_r168, zk_r169, zk_r170, zk_r171, zk_r172, zk_r173, zk_r174, zk_r175, zk_r176, zk_r177, zk_r178, zk_r179], zk_okM q := List.forall_mem_cons.mpr ⟨zk_m160, List.forall_mem_cons.mpr ⟨zk_m161, List.forall_mem_cons.mpr ⟨zk_m162, List.forall_mem_cons.mpr ⟨zk_m163, List.forall_mem_cons.mpr ⟨zk_m164, List.forall_mem_cons.mpr ⟨zk_m165, List.forall_mem_cons.mpr ⟨zk_m166, List.forall_mem_cons.mpr ⟨zk_m167, List.forall_mem_cons.mpr ⟨zk_m168, List.forall_mem_cons.mpr ⟨zk_m169, List.forall_mem_cons.mpr ⟨zk_m170, List.forall_mem_cons.mpr ⟨zk_m171, List.forall_mem_cons.mpr ⟨zk_m172, List.forall_mem_cons.mpr ⟨zk_m173, List.forall_mem_cons.mpr ⟨zk_m174, List.forall_mem_cons.mpr ⟨zk_m175, List.forall_mem_cons.mpr ⟨zk_m176, List.forall_mem_cons.mpr ⟨zk_m177, List.forall_mem_cons.mpr ⟨zk_m178, List.forall_mem_cons.mpr ⟨zk_m179, fun _ h => absurd h List.not_mem_nil⟩⟩⟩⟩⟩⟩⟩⟩⟩⟩⟩⟩⟩⟩⟩⟩⟩⟩⟩⟩
theorem zk_mc9 : ∀ q ∈ [zk_r180, zk_r181, zk_r182, zk_r183, zk_r184, zk_r185, zk_r186, zk_r187, zk_r188, zk_r189, zk_r190, zk_r191, zk_r192, zk_r193, zk_r194, zk_r195, zk_r196, zk_r197, zk_r198, zk_r199], zk_okM q := List.forall_mem_cons.mpr ⟨zk_m180, List.forall_mem_cons.mpr ⟨zk_m181, List.forall_mem_cons.mpr ⟨zk_m182, List.forall_mem_cons.mpr ⟨zk_m183, List.forall_mem_cons.mpr ⟨zk_m184, List.forall_mem_cons.mpr ⟨zk_m185, List.forall_mem_cons.mpr ⟨zk_m186, List.forall_mem_cons.mpr ⟨zk_m187, List.forall_mem_cons.mpr ⟨zk_m188, List.forall_mem_cons.mpr ⟨zk_m189, List.forall_mem_cons.mpr ⟨zk_m190, List.forall_mem_cons.mpr ⟨zk_m191, List.forall_mem_cons.mpr ⟨zk_m192, List.forall_mem_cons.mpr ⟨zk_m193, List.forall_mem_cons.mpr ⟨zk_m194, List.forall_mem_cons.mpr ⟨zk_m195, List.forall_mem_cons.mpr ⟨zk_m196, List.forall_mem_cons.mpr ⟨zk_m197, List.forall_mem_cons.mpr ⟨zk_m198, List.forall_mem_cons.mpr ⟨zk_m199, fun _ h => absurd h List.not_mem_nil⟩⟩⟩⟩⟩⟩⟩⟩⟩⟩⟩⟩⟩⟩⟩⟩⟩⟩⟩⟩
theorem zk_mc10 : ∀ q ∈ [zk_r200, zk_r201, zk_r202, zk_r203, zk_r204], zk_okM q := List.forall_mem_cons.mpr ⟨zk_m200, List.forall_mem_cons.mpr ⟨zk_m201, List.forall_mem_cons.mpr ⟨zk_m202, List.forall_mem_cons.mpr ⟨zk_m203, List.forall_mem_cons.mpr ⟨zk_m204, fun _ h => absurd h List.not_mem_nil⟩⟩⟩⟩⟩
theorem zk_MT0_ok : ∀ q ∈ zk_MT0, zk_okM q := by
  intro q hq
  have h : q ∈ [zk_r0, zk_r1, zk_r2, zk_r3, zk_r4, zk_r5, zk_r6, zk_r7, zk_r8, zk_r9, zk_r10, zk_r11, zk_r12, zk_r13, zk_r14, zk_r15, zk_r16, zk_r17, zk_r18, zk_r19] ++ [zk_r20, zk_r21, zk_r22, zk_r23, zk_r24, zk_r25, zk_r26, zk_r27, zk_r28, zk_r29, zk_r30, zk_r31, zk_r32, zk_r33, zk_r34, zk_r35, zk_r36, zk_r37, zk_r38, zk_r39] ++ [zk_r40, zk_r41, zk_r42, zk_r43, zk_r44, zk_r45, zk_r46, zk_r47, zk_r48, zk_r49, zk_r50, zk_r51, zk_r52, zk_r53, zk_r54, zk_r55, zk_r56, zk_r57, zk_r58, zk_r59] ++ [zk_r60, zk_r61, zk_r62, zk_r63, zk_r64, zk_r65, zk_r66, zk_r67, zk_r68, zk_r69, zk_r70, zk_r71, zk_r72, zk_r73, zk_r74, zk_r75, zk_r76, zk_r77, zk_r78, zk_r79] ++ [zk_r80, zk_r81, zk_r82, zk_r83, zk_r84, zk_r85, zk_r86, zk_r87, zk_r88, zk_r89, zk_r90, zk_r91, zk_r92, zk_r93, zk_r94, zk_r95, zk_r96, zk_r97, zk_r98, zk_r99] ++ [zk_r100, zk_r101, zk_r102, zk_r103, zk_r104, zk_r105, zk_r106, zk_r107, zk_r108, zk_r109, zk_r110, zk_r111, zk_r112, zk_r113, zk_r114, zk_r115, zk_r116, zk_r117, zk_r118, zk_r119] ++ [zk_r120, zk_r121, zk_r122, zk_r123, zk_r124, zk_r125, zk_r126, zk_r127, zk_r128, zk_r129, zk_r130, zk_r131, zk_r132, zk_r133, zk_r134, zk_r135, zk_r136, zk_r137, zk_r138, zk_r139] ++ [zk_r140, zk_r141, zk_r142, zk_r143, zk_r144, zk_r145, zk_r146, zk_r147, zk_r148, zk_r149, zk_r150, zk_r151, zk_r152, zk_r153, zk_r154, zk_r155, zk_r156, zk_r157, zk_r158, zk_r159] ++ [zk_r160, zk_r161, zk_r162, zk_r163, zk_r164, zk_r165, zk_r166, zk_r167, zk_r168, zk_r169, zk_r170, zk_r171, zk_r172, zk_r173, zk_r174, zk_r175, zk_r176, zk_r177, zk_r178, zk_r179] ++ [zk_r180, zk_r181, zk_r182, zk_r183, zk_r184, zk_r185, zk_r186, zk_r187, zk_r188, zk_r189, zk_r190, zk_r191, zk_r192, zk_r193, zk_r194, zk_r195, zk_r196, zk_r197, zk_r198, zk_r199] ++ [zk_r200, zk_r201, zk_r202, zk_r203, zk_r204] := hq
  simp only [List.mem_append] at h
  rcases h with (((((((((h | h) | h) | h) | h) | h) | h) | h) | h) | h) | h
  · exact zk_mc0 q h
  · exact zk_mc1 q h
  · exact zk_mc2 q h
  · exact zk_mc3 q h
  · exact zk_mc4 q h
  · exact zk_mc5 q h
  · exact zk_mc6 q h
  · exact zk_mc7 q h
  · exact zk_mc8 q h
  · exact zk_mc9 q h
  · exact zk_mc10 q h
/-- (class, entry, nest mate, class of the field, its place, place of the word) -/
def zk_FL : List (Nat × Nat × Bool × Nat × Nat × Nat) := [(1, 7, false, 1, 0, 104), (8, 220, true, 1, 0, 105), (1, 13, false, 1, 1, 106), (8, 229, true, 1, 1, 107), (1, 16, false, 1, 2, 108), (8, 208, true, 1, 2, 109), (1, 19, false, 1, 3, 110), (8, 213, true, 1, 3, 111), (1, 22, false, 1, 4, 112), (6, 31, true, 1, 4, 113), (3, 58, true, 1, 4, 114), (8, 236, true, 1, 4, 115), (1, 25, false, 1, 5, 116), (6, 34, true, 1, 5, 117), (3, 47, true, 1, 5, 118), (8, 239, true, 1, 5, 119), (1, 28, false, 1, 6, 120), (6, 37, true, 1, 6, 121), (8, 242, true, 1, 6, 122), (1, 31, false, 1, 7, 123), (6, 38, true, 1, 7, 124), (8, 243, true, 1, 7, 125), (2, 11, false, 2, 0, 144), (2, 18, false, 2, 1, 145), (2, 22, false, 2, 2, 146), (2, 25, false, 2, 3, 147), (8, 226, true, 2, 3, 148), (2, 29, false, 2, 4, 149), (8, 288, true, 2, 4, 150), (6, 9, false, 6, 0, 174), (3, 52, true, 6, 0, 175), (8, 185, true, 6, 0, 176), (6, 19, false, 6, 1, 177), (3, 55, true, 6, 1, 178), (8, 263, true, 6, 1, 179), (6, 22, false, 6, 2, 180), (6, 25, false, 6, 3, 181), (8, 339, true, 6, 3, 182), (6, 28, false, 6, 4, 183), (8, 335, true, 6, 4, 184), (6, 16, false, 6, 5, 185), (8, 264, true, 6, 5, 186), (6, 39, false, 6, 6, 187), (8, 332, true, 6, 6, 188), (3, 12, false, 3, 0, 204), (8, 181, true, 3, 0, 205), (3, 22, false, 3, 1, 206), (8, 256, true, 3, 1, 207), (3, 37, false, 3, 2, 208), (8, 259, true, 3, 2, 209), (3, 18, false, 3, 3, 210), (8, 190, true, 3, 3, 211), (3, 40, false, 3, 4, 212), (8, 262, true, 3, 4, 213), (3, 25, false, 3, 5, 214), (8, 13, false, 8, 0, 228), (8, 19, false, 8, 1, 229), (8, 25, false, 8, 2, 230), (8, 29, false, 8, 3, 231), (8, 33, false, 8, 4, 232), (8, 39, false, 8, 5, 233), (8, 44, false, 8, 6, 234), (8, 105, false, 8, 7, 235), (8, 165, false, 8, 8, 236), (8, 291, false, 8, 9, 237), (4, 15, false, 4, 0, 280), (4, 24, false, 4, 1, 281), (7, 34, true, 4, 2, 282), (4, 28, false, 4, 2, 283), (0, 34, true, 4, 2, 284), (5, 59, true, 4, 2, 285), (8, 271, true, 4, 2, 286), (7, 14, false, 7, 0, 313), (7, 20, false, 7, 1, 314), (7, 23, false, 7, 2, 315), (5, 129, true, 7, 2, 316), (7, 26, false, 7, 3, 317), (5, 37, false, 5, 0, 454), (0, 49, true, 5, 0, 455), (8, 354, true, 5, 0, 456), (5, 9, false, 5, 1, 457), (5, 20, false, 5, 2, 458), (5, 24, false, 5, 3, 459), (5, 27, false, 5, 4, 460), (5, 30, false, 5, 5, 461), (5, 33, false, 5, 6, 462), (8, 135, true, 5, 6, 463), (0, 23, false, 0, 0, 486), (8, 120, true, 0, 0, 487), (0, 14, false, 0, 1, 488), (8, 267, true, 0, 1, 489), (0, 20, false, 0, 2, 490), (8, 276, true, 0, 2, 491), (0, 27, false, 0, 3, 492), (8, 138, true, 0, 3, 493), (0, 31, false, 0, 4, 494), (8, 141, true, 0, 4, 495), (8, 153, true, 0, 5, 496), (8, 147, true, 0, 6, 497), (8, 279, true, 0, 7, 498), (8, 282, true, 0, 8, 499), (9, 279, false, 9, 0, 887), (9, 153, false, 9, 1, 888), (9, 7, false, 9, 2, 889), (9, 13, false, 9, 3, 890), (9, 16, false, 9, 4, 891), (9, 19, false, 9, 5, 892), (9, 22, false, 9, 6, 893), (9, 207, false, 9, 7, 894), (9, 204, false, 9, 8, 895), (9, 201, false, 9, 9, 896), (9, 221, false, 9, 10, 897), (9, 25, false, 9, 11, 898), (9, 28, false, 9, 12, 899), (9, 32, false, 9, 13, 900), (9, 35, false, 9, 14, 901), (9, 38, false, 9, 15, 902), (9, 41, false, 9, 16, 903), (9, 44, false, 9, 17, 904), (9, 47, false, 9, 18, 905), (9, 50, false, 9, 19, 906), (9, 53, false, 9, 20, 907), (9, 56, false, 9, 21, 908), (9, 59, false, 9, 22, 909), (9, 62, false, 9, 23, 910), (9, 65, false, 9, 24, 911), (9, 68, false, 9, 25, 912), (9, 72, false, 9, 26, 913), (9, 75, false, 9, 27, 914), (9, 78, false, 9, 28, 915), (9, 81, false, 9, 29, 916), (9, 84, false, 9, 30, 917), (9, 87, false, 9, 31, 918), (9, 90, false, 9, 32, 919), (9, 93, false, 9, 33, 920), (9, 96, false, 9, 34, 921), (9, 99, false, 9, 35, 922), (9, 102, false, 9, 36, 923), (9, 105, false, 9, 37, 924), (9, 108, false, 9, 38, 925), (9, 111, false, 9, 39, 926), (9, 114, false, 9, 40, 927), (9, 117, false, 9, 41, 928), (9, 120, false, 9, 42, 929), (9, 123, false, 9, 43, 930), (9, 126, false, 9, 44, 931), (9, 129, false, 9, 45, 932), (9, 132, false, 9, 46, 933), (9, 135, false, 9, 47, 934), (9, 138, false, 9, 48, 935), (9, 141, false, 9, 49, 936), (9, 144, false, 9, 50, 937), (9, 285, false, 9, 51, 938), (9, 314, false, 9, 52, 939), (9, 282, false, 9, 53, 940), (9, 147, false, 9, 54, 941), (9, 150, false, 9, 55, 942)]
def zk_fw (q : Nat × Nat × Bool × Nat × Nat × Nat) : Cond := if q.2.2.1 then .fieldLinkNest (zk_cn q.1) q.2.1 (zk_T q.2.2.2.1 q.2.2.2.2.1).1 (zk_T q.2.2.2.1 q.2.2.2.2.1).2.1 (zk_T q.2.2.2.1 q.2.2.2.2.1).2.2.1 "TickKeeper" else .fieldLink (zk_cn q.1) q.2.1 (zk_T q.2.2.2.1 q.2.2.2.2.1).1 (zk_T q.2.2.2.1 q.2.2.2.2.1).2.1 (zk_T q.2.2.2.1 q.2.2.2.2.1).2.2.1
theorem zk_FL_ok : zk_FL.all (fun q => decide (lw_tbl[q.2.2.2.2.2]? = some (zk_fw q)) && decide (q.2.2.2.1 < 10) && decide (q.2.2.2.2.1 < zk_N q.2.2.2.1)) = true := by decide +kernel
/-- (class, entry, kind: 0 virtual, 1 static, 2 constructor, 3 a nest mate's constructor; the method; places of words) -/
def zk_ML : List (Nat × Nat × Nat × Nat × Nat × Nat × Nat) := [(11, 9, 2, 60, 79, 80, 0), (8, 38, 2, 8, 93, 94, 0), (2, 17, 3, 5, 100, 101, 0), (8, 43, 3, 12, 163, 164, 0), (3, 11, 3, 37, 169, 170, 0), (11, 13, 0, 61, 259, 260, 261), (8, 48, 2, 42, 264, 265, 0), (7, 11, 2, 17, 270, 271, 0), (4, 9, 1, 197, 274, 275, 0), (4, 21, 1, 198, 277, 278, 0), (7, 30, 0, 18, 295, 296, 297), (4, 31, 1, 204, 299, 300, 0), (15, 304, 1, 198, 309, 278, 0), (11, 18, 0, 62, 327, 328, 329), (8, 49, 0, 63, 331, 333, 0), (8, 53, 1, 64, 335, 336, 0), (8, 57, 0, 43, 339, 340, 341), (7, 38, 0, 44, 343, 344, 345), (7, 42, 0, 19, 347, 348, 349), (8, 61, 0, 45, 351, 352, 353), (8, 65, 0, 44, 355, 344, 345), (11, 23, 0, 65, 356, 357, 358), (8, 68, 0, 46, 360, 361, 362), (7, 69, 0, 20, 364, 365, 366), (8, 71, 0, 47, 368, 369, 370), (7, 80, 0, 48, 372, 374, 1), (7, 83, 0, 49, 376, 377, 378), (7, 72, 1, 192, 380, 381, 0), (10, 9, 1, 199, 383, 384, 0), (7, 77, 0, 46, 386, 361, 362), (11, 28, 0, 66, 388, 389, 390), (8, 75, 0, 50, 393, 394, 395), (11, 32, 0, 67, 397, 398, 399), (8, 79, 0, 51, 401, 402, 403), (7, 47, 0, 50, 405, 394, 395), (7, 57, 1, 200, 406, 407, 0), (7, 61, 0, 52, 409, 411, 2), (8, 82, 1, 68, 414, 415, 0), (11, 36, 0, 69, 418, 419, 420), (8, 85, 1, 193, 422, 423, 0), (10, 19, 1, 201, 427, 428, 0), (8, 90, 1, 194, 430, 431, 0), (8, 93, 1, 195, 433, 434, 0), (8, 96, 1, 196, 436, 437, 0), (8, 99, 1, 192, 439, 381, 0), (8, 102, 0, 49, 440, 377, 378), (11, 40, 0, 70, 441, 442, 443), (8, 110, 2, 22, 448, 449, 0), (5, 17, 2, 17, 453, 271, 0), (8, 113, 2, 0, 480, 481, 0), (0, 11, 2, 17, 485, 271, 0), (11, 47, 0, 71, 519, 520, 521), (8, 116, 0, 72, 523, 525, 3), (8, 124, 0, 23, 527, 528, 529), (5, 44, 1, 203, 533, 534, 0), (11, 52, 0, 73, 539, 540, 541), (8, 128, 0, 24, 543, 544, 545), (5, 50, 0, 18, 547, 296, 297), (5, 54, 0, 21, 548, 549, 550), (4, 37, 0, 18, 552, 296, 297), (11, 56, 0, 74, 553, 554, 555), (8, 132, 0, 25, 557, 558, 559), (11, 60, 0, 75, 561, 562, 563), (11, 64, 0, 76, 565, 566, 567), (11, 68, 0, 77, 569, 570, 571), (8, 144, 0, 78, 573, 575, 4), (8, 150, 1, 202, 577, 578, 0), (11, 72, 0, 79, 583, 584, 585), (11, 77, 0, 80, 587, 588, 589), (8, 158, 0, 26, 591, 592, 593), (5, 62, 0, 19, 596, 348, 349), (5, 65, 1, 198, 597, 278, 0), (5, 71, 0, 27, 598, 600, 5), (5, 75, 0, 53, 602, 603, 604), (7, 64, 1, 198, 606, 278, 0), (7, 67, 1, 197, 607, 275, 0), (5, 80, 0, 28, 608, 610, 6), (5, 92, 1, 201, 612, 428, 0), (5, 95, 0, 29, 613, 615, 7), (5, 104, 1, 30, 617, 618, 0), (5, 108, 1, 31, 620, 621, 0), (5, 98, 0, 32, 623, 625, 8), (5, 111, 1, 193, 627, 423, 0), (5, 116, 1, 196, 628, 437, 0), (5, 119, 0, 33, 629, 631, 9), (5, 135, 1, 199, 633, 384, 0), (5, 123, 0, 54, 636, 637, 638), (5, 101, 0, 34, 641, 643, 10), (5, 132, 0, 55, 645, 646, 647), (5, 83, 0, 51, 649, 402, 403), (5, 86, 0, 20, 650, 365, 366), (11, 81, 0, 81, 651, 652, 653), (11, 86, 0, 82, 655, 656, 657), (8, 162, 0, 83, 659, 661, 11), (8, 177, 0, 84, 663, 665, 12), (8, 174, 1, 85, 667, 668, 0), (8, 294, 1, 197, 670, 275, 0), (8, 168, 0, 1, 671, 672, 673), (0, 37, 0, 19, 675, 348, 349), (8, 171, 0, 35, 676, 677, 678), (11, 90, 0, 86, 680, 681, 682), (11, 94, 0, 87, 684, 685, 686), (8, 193, 0, 13, 688, 689, 690), (3, 28, 1, 197, 692, 275, 0), (3, 34, 1, 201, 693, 428, 0), (3, 43, 0, 38, 694, 695, 696), (8, 196, 0, 88, 698, 700, 13), (8, 232, 0, 9, 702, 703, 704), (2, 32, 0, 6, 706, 707, 708), (8, 246, 0, 7, 710, 711, 712), (11, 98, 0, 89, 714, 715, 716), (8, 200, 0, 10, 718, 719, 720), (2, 36, 0, 11, 722, 723, 724), (8, 204, 0, 90, 726, 728, 14), (8, 299, 0, 91, 730, 732, 15), (8, 253, 1, 92, 734, 735, 0), (8, 321, 0, 2, 737, 738, 739), (0, 41, 0, 1, 741, 672, 673), (0, 45, 0, 18, 742, 296, 297), (8, 303, 0, 93, 743, 745, 16), (8, 324, 0, 94, 747, 749, 17), (8, 307, 0, 39, 751, 752, 753), (8, 310, 0, 95, 755, 757, 18), (8, 328, 0, 14, 759, 760, 761), (8, 313, 0, 96, 763, 765, 19), (8, 336, 0, 40, 767, 768, 769), (8, 317, 0, 15, 771, 772, 773), (3, 59, 0, 40, 775, 768, 769), (8, 216, 0, 97, 776, 778, 20), (8, 340, 0, 3, 780, 781, 782), (8, 343, 0, 36, 784, 785, 786), (5, 89, 0, 26, 788, 592, 593), (8, 346, 0, 98, 789, 791, 21), (8, 358, 0, 56, 793, 794, 795), (7, 50, 1, 201, 797, 428, 0), (8, 361, 0, 4, 798, 799, 800), (0, 55, 0, 56, 802, 794, 795), (8, 364, 0, 57, 803, 804, 805), (8, 367, 0, 58, 807, 808, 809), (8, 370, 0, 59, 811, 812, 813), (8, 350, 0, 41, 815, 816, 817), (11, 102, 0, 99, 819, 820, 821), (11, 106, 0, 100, 823, 824, 825), (11, 110, 0, 101, 827, 828, 829), (8, 223, 0, 11, 831, 723, 724), (11, 114, 0, 102, 832, 833, 834), (11, 118, 0, 103, 836, 837, 838), (8, 250, 0, 16, 840, 841, 842), (11, 122, 0, 104, 844, 845, 846), (11, 126, 0, 105, 848, 849, 850), (11, 130, 0, 106, 852, 853, 854), (11, 134, 0, 107, 856, 857, 858), (11, 138, 0, 108, 860, 861, 862), (8, 274, 0, 19, 864, 348, 349), (11, 142, 0, 109, 865, 866, 867), (11, 146, 0, 110, 869, 870, 871), (11, 150, 0, 111, 873, 874, 875), (8, 285, 0, 112, 877, 879, 22), (11, 12, 2, 113, 883, 884, 0), (11, 17, 0, 114, 1056, 1057, 1058), (11, 22, 0, 115, 1060, 1061, 1062), (9, 161, 0, 116, 1064, 1066, 23), (9, 157, 1, 117, 1068, 1069, 0), (11, 27, 0, 118, 1072, 1073, 1074), (9, 166, 0, 119, 1076, 1078, 24), (11, 31, 0, 120, 1080, 1081, 1082), (9, 177, 0, 121, 1084, 1086, 25), (9, 170, 0, 122, 1088, 1090, 26), (9, 174, 0, 123, 1092, 1094, 27), (11, 35, 0, 124, 1097, 1098, 1099), (9, 188, 0, 125, 1102, 1104, 28), (9, 181, 1, 126, 1106, 1107, 0), (9, 184, 0, 127, 1109, 1111, 29), (11, 39, 0, 128, 1113, 1114, 1115), (9, 214, 0, 129, 1117, 1119, 30), (9, 210, 1, 130, 1125, 1126, 0), (9, 218, 0, 131, 1128, 1130, 31), (11, 44, 0, 132, 1132, 1133, 1134), (11, 51, 0, 133, 1136, 1137, 1138), (9, 224, 0, 134, 1140, 1142, 32), (9, 237, 1, 135, 1149, 1150, 0), (11, 55, 0, 136, 1152, 1153, 1154), (11, 59, 0, 137, 1156, 1157, 1158), (11, 63, 0, 138, 1160, 1161, 1162), (11, 67, 0, 139, 1164, 1165, 1166), (11, 71, 0, 140, 1168, 1169, 1170), (9, 241, 0, 141, 1172, 1174, 33), (11, 76, 0, 142, 1176, 1177, 1178), (11, 80, 0, 143, 1180, 1181, 1182), (9, 276, 0, 144, 1184, 1186, 34), (9, 269, 0, 145, 1188, 1190, 35), (9, 250, 0, 146, 1192, 1194, 36), (9, 253, 0, 147, 1196, 1198, 37), (9, 191, 1, 148, 1200, 1201, 0), (9, 256, 1, 149, 1203, 1204, 0), (9, 259, 0, 150, 1206, 1208, 38), (9, 247, 0, 151, 1210, 1212, 39), (9, 244, 1, 152, 1214, 1215, 0), (9, 194, 1, 153, 1217, 1218, 0), (9, 262, 0, 154, 1220, 1222, 40), (9, 266, 0, 155, 1224, 1226, 41), (11, 85, 0, 156, 1228, 1229, 1230), (11, 89, 0, 157, 1232, 1233, 1234), (11, 93, 0, 158, 1236, 1237, 1238), (11, 97, 0, 159, 1240, 1241, 1242), (9, 292, 0, 160, 1244, 1246, 42), (9, 288, 0, 161, 1248, 1250, 43), (11, 101, 0, 162, 1252, 1253, 1254), (9, 336, 0, 163, 1256, 1258, 44), (9, 339, 0, 164, 1260, 1262, 45), (9, 342, 0, 165, 1264, 1266, 46), (9, 317, 0, 166, 1268, 1270, 47), (9, 320, 0, 167, 1272, 1274, 48), (9, 324, 0, 168, 1276, 1278, 49), (9, 308, 0, 169, 1280, 1282, 50), (9, 299, 0, 170, 1284, 1286, 51), (9, 296, 0, 171, 1288, 1290, 52), (9, 273, 0, 172, 1292, 1294, 53), (9, 302, 0, 173, 1296, 1298, 54), (9, 305, 0, 174, 1300, 1302, 55), (9, 327, 0, 175, 1304, 1306, 56), (9, 330, 0, 176, 1308, 1310, 57), (9, 311, 0, 177, 1312, 1314, 58), (9, 333, 0, 178, 1316, 1318, 59), (11, 105, 0, 179, 1320, 1321, 1322), (11, 109, 0, 180, 1324, 1325, 1326), (11, 113, 0, 181, 1328, 1329, 1330), (11, 117, 0, 182, 1332, 1333, 1334), (11, 121, 0, 183, 1336, 1337, 1338), (11, 125, 0, 184, 1340, 1341, 1342), (11, 129, 0, 185, 1344, 1345, 1346), (11, 133, 0, 186, 1348, 1349, 1350), (11, 137, 0, 187, 1352, 1353, 1354), (11, 141, 0, 188, 1356, 1357, 1358), (11, 145, 0, 189, 1360, 1361, 1362), (11, 149, 0, 190, 1364, 1365, 1366), (11, 153, 0, 191, 1368, 1369, 1370)]
def zk_mw (q : Nat × Nat × Nat × Nat × Nat × Nat × Nat) : Bool := match zk_MT0[q.2.2.2.1]? with
  | none => false
  | some r => match q.2.2.1 with
    | 0 => decide (lw_tbl[q.2.2.2.2.1]? = some (.methodLink (zk_cn q.1) q.2.1 r.1)) && decide (lw_tbl[q.2.2.2.2.2.1]? = some (.instanceMethod r.1)) && decide (lw_tbl[q.2.2.2.2.2.2]? = some (.selects r.1.cls r.1 r.1)) && decide (r.2.2.2.2.1 < 10)
    | 1 => decide (lw_tbl[q.2.2.2.2.1]? = some (.methodLink (zk_cn q.1) q.2.1 r.1)) && decide (lw_tbl[q.2.2.2.2.2.1]? = some (.static r.1))
    | 2 => decide (lw_tbl[q.2.2.2.2.1]? = some (.methodLink (zk_cn q.1) q.2.1 r.1)) && decide (lw_tbl[q.2.2.2.2.2.1]? = some (.instanceMethod r.1)) && decide (r.1.name = "<init>") && decide (r.2.2.2.1 = none)
    | _ => decide (lw_tbl[q.2.2.2.2.1]? = some (.methodLinkNest (zk_cn q.1) q.2.1 r.1 "TickKeeper")) && decide (lw_tbl[q.2.2.2.2.2.1]? = some (.instanceMethod r.1)) && decide (r.1.name = "<init>") && decide (r.2.2.2.1 = none)
theorem zk_ML_ok : zk_ML.all zk_mw = true := by decide +kernel
def zk_OL : List (Nat × Nat × Nat) := [(8, 3, 82), (2, 3, 96), (1, 1, 103), (3, 3, 166), (6, 3, 172), (7, 3, 267), (4, 3, 273), (5, 3, 451), (0, 3, 483), (9, 1, 886)]
theorem zk_OL_ok : zk_OL.all (fun q => decide (lw_tbl[q.2.2]? = some (.methodLink (zk_cn q.1) q.2.1 Lib.objectInit))) = true := by decide +kernel
def zk_KI : List (Nat × Nat × Int32 × Nat) := [(6, 15, 2147483647, 173), (8, 157, 21038399, 338), (7, 56, 2147483647, 387), (8, 74, (-1000000), 392), (7, 46, 21038399, 413), (8, 161, 2147483647, 417), (13, 265, 1431655765, 580), (13, 266, 858993459, 581), (13, 267, 252645135, 582), (5, 58, 2147483647, 595), (9, 165, 21038399, 1071), (9, 180, (-1000000), 1096), (9, 187, 21040399, 1101), (9, 197, 730425, 1121), (9, 198, 146097, 1122), (9, 199, 36524, 1123), (9, 200, 146096, 1124)]
theorem zk_KI_ok : zk_KI.all (fun q => decide (lw_tbl[q.2.2.2]? = some (.constant (zk_cn q.1) q.2.1 q.2.2.1))) = true := by decide +kernel
def zk_KL : List (Nat × Nat × Int64 × Nat) := [(14, 314, 6148914691236517205, 536), (14, 316, 3689348814741910323, 537), (14, 318, 1085102592571150095, 538), (5, 138, 541098242, 634), (5, 140, 2, 635), (5, 127, (-1), 640), (9, 227, 1152921504606846975, 1144), (9, 229, 16777215, 1145), (9, 231, 4294967294, 1146), (9, 233, 8190, 1147), (9, 235, 127, 1148), (11, 45, 4294967295, 1372)]
theorem zk_KL_ok : zk_KL.all (fun q => decide (lw_tbl[q.2.2.2]? = some (.constantLong (zk_cn q.1) q.2.1 q.2.2.1))) = true := by decide +kernel
def zk_KC : List (Nat × Nat × Nat × Nat) := [(11, 7, 8, 77), (8, 11, 7, 85), (8, 17, 0, 87), (8, 23, 3, 89), (8, 36, 2, 91), (2, 9, 1, 97), (3, 9, 6, 167), (7, 9, 4, 268), (8, 108, 5, 446), (5, 15, 4, 452), (0, 9, 4, 484), (11, 10, 9, 881)]
theorem zk_KC_ok : zk_KC.all (fun q => decide (lw_tbl[q.2.2.2]? = some (.classLink (zk_cn q.1) q.2.1 (zk_cn q.2.2.1))) && decide (q.2.2.1 < 10)) = true := by decide +kernel
theorem zk_ws_ok : (List.range 10).all (fun ci => (u_ws (zk_cn ci) (zk_T ci) (zk_N ci)).all (fun w => decide (w ∈ lw_tbl)) && decide (Cond.instantiable (zk_cn ci) (zk_N ci) ∈ lw_tbl) && decide (Cond.initialized (zk_cn ci) ∈ lw_tbl)) = true := by decide +kernel
theorem zk_ty_ok : (List.range 10).all (fun ci => (List.range (zk_N ci)).all (fun k => decide (parseFieldDescriptor (zk_T ci k).2.2.1 = some (zk_ty ci k)) && decide ((zk_T ci k).1 = zk_cn ci))) = true := by decide +kernel
theorem zk_nm_ok : (List.range 10).all (fun ci => (List.range (zk_N ci)).all (fun a => (List.range (zk_N ci)).all (fun b => decide (a = b) || decide ((zk_T ci a).2.1 ≠ (zk_T ci b).2.1)))) = true := by decide +kernel
end
section
/-! A SMALL MACHINE over the claim's own tables: a function of fuel. Its runs are runs of the JVM (part 04). -/
abbrev zk_E : Type := (Nat × vp_A) ⊕ (Nat × List Value)
abbrev zk_H : Type := List zk_E × Nat
/-- the ground: the first own address; arrays that are only read; where the arrays of the statics lie -/
abbrev zk_G : Type := Nat × (Nat → Option (Nat × vp_A)) × (Nat → Nat)
abbrev zk_L : Type := List (Option Value)
def zk_rd (G : zk_G) (h : zk_H) (a : Nat) : Option zk_E := if a < G.1 then none else h.1[a - G.1]?
def zk_wr (G : zk_G) (h : zk_H) (a : Nat) (e : zk_E) : zk_H := (h.1.set (a - G.1) e, h.2)
def zk_nx (G : zk_G) (h : zk_H) : Nat := G.1 + h.1.length
def zk_al (h : zk_H) (e : zk_E) (n : Nat) : zk_H := (h.1 ++ [e], h.2 + n)
def zk_ar (G : zk_G) (h : zk_H) (a : Nat) : Option (Nat × vp_A) := if a < G.1 then G.2.1 a else match h.1[a - G.1]? with
  | some (.inl x) => some x
  | _ => none
-- methods
def zk_row (y : Nat) : zk_Row := zk_MT.getD y zk_r0
def zk_bc (y : Nat) : ByteArray := (zk_row y).2.1
def zk_ml (y : Nat) : Nat := (zk_row y).2.2.1
def zk_rt (y : Nat) : Option FieldType := (zk_row y).2.2.2.1
def zk_c (y : Nat) : Nat := (zk_row y).2.2.2.2.1
def zk_na (y : Nat) : Nat := (zk_row y).2.2.2.2.2.1
def zk_lev (y : Nat) : Nat := (zk_row y).2.2.2.2.2.2
def zk_ini (y : Nat) : Bool := (zk_row y).1.name == "<init>"
def zk_ft (y pc : Nat) : Option (Instr × Nat) := match decode (zk_bc y) pc with
  | .ok q => some q
  | .error _ => none
def zk_fl (c i : Nat) : Option (Bool × Nat × Nat) := (zk_FL.find? (fun q => q.1 == c && q.2.1 == i)).map (fun q => (q.2.2.1, q.2.2.2.1, q.2.2.2.2.1))
def zk_mk (c i : Nat) : Option (Nat × Nat) := (zk_ML.find? (fun q => q.1 == c && q.2.1 == i)).map (fun q => (q.2.2.1, q.2.2.2.1))
def zk_ob (c i : Nat) : Bool := (zk_OL.find? (fun q => q.1 == c && q.2.1 == i)).isSome
def zk_ki (c i : Nat) : Option Int32 := (zk_KI.find? (fun q => q.1 == c && q.2.1 == i)).map (fun q => q.2.2.1)
def zk_kl (c i : Nat) : Option Int64 := (zk_KL.find? (fun q => q.1 == c && q.2.1 == i)).map (fun q => q.2.2.1)
def zk_kc (c i : Nat) : Option Nat := (zk_KC.find? (fun q => q.1 == c && q.2.1 == i)).map (fun q => q.2.2.1)
-- arrays: 0 int, 1 long, 2 boolean, 3 Job, 4 Letter, 5 Register, 6 Zone
def zk_ac (t : Nat) : Nat := match t with
  | 3 => 0
  | 4 => 1
  | 5 => 3
  | _ => 7
def zk_at (ci : Nat) : Option Nat := match ci with
  | 0 => some 3
  | 1 => some 4
  | 3 => some 5
  | 7 => some 6
  | _ => none
-- locals
def zk_lget (L : zk_L) (i : Nat) : Option Value := match L[i]? with
  | some (some v) => some v
  | _ => none
def zk_cl (L : zk_L) (i : Nat) : zk_L := match i with
  | 0 => L
  | j + 1 => match zk_lget L j with
    | some v => if v.category = 2 then L.set j none else L
    | none => L
def zk_l1 (L : zk_L) (i : Nat) (v : Value) : zk_L := (zk_cl L i).set i (some v)
def zk_l2 (L : zk_L) (i : Nat) (v : Value) : zk_L := ((zk_cl L i).set i (some v)).set (i + 1) none
def zk_ldi (L : zk_L) (st : List Value) (i : Nat) : Option (zk_L × List Value) := match zk_lget L i with
  | some (.int x) => some (L, .int x :: st)
  | _ => none
def zk_ldl (L : zk_L) (st : List Value) (i : Nat) : Option (zk_L × List Value) := match zk_lget L i with
  | some (.long x) => some (L, .long x :: st)
  | _ => none
def zk_lda (L : zk_L) (st : List Value) (i : Nat) : Option (zk_L × List Value) := match zk_lget L i with
  | some (.ref x) => some (L, .ref x :: st)
  | some .null => some (L, .null :: st)
  | _ => none
def zk_sti (L : zk_L) (st : List Value) (i : Nat) : Option (zk_L × List Value) := match st with
  | .int x :: r => if i < L.length then some (zk_l1 L i (.int x), r) else none
  | _ => none
def zk_stl (L : zk_L) (st : List Value) (i : Nat) : Option (zk_L × List Value) := match st with
  | .long x :: r => if i + 1 < L.length then some (zk_l2 L i (.long x), r) else none
  | _ => none
def zk_sta (L : zk_L) (st : List Value) (i : Nat) : Option (zk_L × List Value) := match st with
  | .ref x :: r => if i < L.length then some (zk_l1 L i (.ref x), r) else none
  | .null :: r => if i < L.length then some (zk_l1 L i .null, r) else none
  | _ => none
def zk_ii (f : Int32 → Int32 → Int32) (L : zk_L) (st : List Value) : Option (zk_L × List Value) := match st with
  | .int y :: .int x :: r => some (L, .int (f x y) :: r)
  | _ => none
def zk_id (f : Int32 → Int32 → Int32) (L : zk_L) (st : List Value) : Option (zk_L × List Value) := match st with
  | .int y :: .int x :: r => if y = 0 then none else some (L, .int (f x y) :: r)
  | _ => none
def zk_ll (f : Int64 → Int64 → Int64) (L : zk_L) (st : List Value) : Option (zk_L × List Value) := match st with
  | .long y :: .long x :: r => some (L, .long (f x y) :: r)
  | _ => none
def zk_li (f : Int64 → Int32 → Int64) (L : zk_L) (st : List Value) : Option (zk_L × List Value) := match st with
  | .int y :: .long x :: r => some (L, .long (f x y) :: r)
  | _ => none
def zk_len (ins : Instr) : Nat := match ins with
  | .bipush _ | .iload _ | .lload _ | .aload _ | .istore _ | .lstore _ | .astore _ | .newarray _ | .ldc _ => 2
  | .sipush _ | .iinc _ _ | .getfield _ | .putfield _ | .getstatic _ | .new _ | .anewarray _ | .ldc_w _ | .ldc2_w _ | .invokespecial _ | .invokestatic _ | .invokevirtual _ => 3
  | _ => 1
def zk_pure (ins : Instr) (L : zk_L) (st : List Value) : Option (zk_L × List Value) := match ins with
  | .aconst_null => some (L, .null :: st)
  | .iconst n => some (L, .int (Int32.ofInt n) :: st)
  | .bipush n => some (L, .int (Int8.ofInt n).toInt32 :: st)
  | .sipush n => some (L, .int (Int16.ofInt n).toInt32 :: st)
  | .lconst n => some (L, .long (Int64.ofNat (n : Nat)) :: st)
  | .iload i => zk_ldi L st i
  | .iload_n k => zk_ldi L st (k : Nat)
  | .lload i => zk_ldl L st i
  | .lload_n k => zk_ldl L st (k : Nat)
  | .aload i => zk_lda L st i
  | .aload_n k => zk_lda L st (k : Nat)
  | .istore i => zk_sti L st i
  | .istore_n k => zk_sti L st (k : Nat)
  | .lstore i => zk_stl L st i
  | .lstore_n k => zk_stl L st (k : Nat)
  | .astore i => zk_sta L st i
  | .astore_n k => zk_sta L st (k : Nat)
  | .iinc i n => match zk_lget L i with
    | some (.int x) => some (zk_l1 L i (.int (x + Int32.ofInt n)), st)
    | _ => none
  | .pop => match st with
    | v :: r => if v.category = 1 then some (L, r) else none
    | _ => none
  | .dup => match st with
    | v :: r => if v.category = 1 then some (L, v :: v :: r) else none
    | _ => none
  | .dup2 => match st with
    | v :: w :: r => if v.category = 1 then (if w.category = 1 then some (L, v :: w :: v :: w :: r) else none) else none
    | _ => none
  | .iadd => zk_ii (fun x y => x + y) L st
  | .isub => zk_ii (fun x y => x - y) L st
  | .imul => zk_ii (fun x y => x * y) L st
  | .iand => zk_ii (fun x y => x &&& y) L st
  | .ior => zk_ii (fun x y => x ||| y) L st
  | .ixor => zk_ii (fun x y => x ^^^ y) L st
  | .idiv => zk_id (fun x y => x / y) L st
  | .irem => zk_id (fun x y => x - x / y * y) L st
  | .ishl => zk_ii (fun x y => x <<< (y &&& 31)) L st
  | .ishr => zk_ii (fun x y => x >>> (y &&& 31)) L st
  | .iushr => zk_ii (fun x y => (x.toUInt32 >>> (y.toUInt32 &&& Int32.toUInt32 31)).toInt32) L st
  | .ladd => zk_ll (fun x y => x + y) L st
  | .lsub => zk_ll (fun x y => x - y) L st
  | .land => zk_ll (fun x y => x &&& y) L st
  | .lor => zk_ll (fun x y => x ||| y) L st
  | .lxor => zk_ll (fun x y => x ^^^ y) L st
  | .lneg => match st with
    | .long x :: r => some (L, .long (-x) :: r)
    | _ => none
  | .lshl => zk_li (fun x y => x <<< (y.toInt64 &&& 63)) L st
  | .lshr => zk_li (fun x y => x >>> (y.toInt64 &&& 63)) L st
  | .lushr => zk_li (fun x y => (x.toUInt64 >>> (y.toInt64.toUInt64 &&& Int64.toUInt64 63)).toInt64) L st
  | .lcmp => match st with
    | .long y :: .long x :: r => some (L, .int (lg_cmp x y) :: r)
    | _ => none
  | .i2l => match st with
    | .int x :: r => some (L, .long x.toInt64 :: r)
    | _ => none
  | .l2i => match st with
    | .long x :: r => some (L, .int x.toInt32 :: r)
    | _ => none
  | _ => none
-- jumps
def zk_c2 (c : ClassFile.Cond) (x y : Int32) : Prop := match c with
  | .eq => x = y
  | .ne => ¬ x = y
  | .lt => x < y
  | .ge => y ≤ x
  | .gt => y < x
  | .le => x ≤ y
def zk_c2b (c : ClassFile.Cond) (x y : Int32) : Bool := match c with
  | .eq => decide (x = y)
  | .ne => !decide (x = y)
  | .lt => decide (x < y)
  | .ge => decide (y ≤ x)
  | .gt => decide (y < x)
  | .le => decide (x ≤ y)
def zk_tg (pc : Nat) (off : Int) : Option Nat := if 0 ≤ (pc : Int) + off then some ((pc : Int) + off).toNat else none
def zk_jump (ins : Instr) (len pc : Nat) (st : List Value) : Option (Nat × List Value) := match ins with
  | .goto off => if len = 3 then (zk_tg pc off).map (fun t => (t, st)) else none
  | .ifCond c off => if len = 3 then (match st with
    | .int x :: r => (zk_tg pc off).map (fun t => if zk_c2b c x 0 then (t, r) else (pc + 3, r))
    | _ => none) else none
  | .if_icmp c off => if len = 3 then (match st with
    | .int y :: .int x :: r => (zk_tg pc off).map (fun t => if zk_c2b c x y then (t, r) else (pc + 3, r))
    | _ => none) else none
  | .ifnull off => if len = 3 then (match st with
    | .ref _ :: r => some (pc + 3, r)
    | .null :: r => (zk_tg pc off).map (fun t => (t, r))
    | _ => none) else none
  | .ifnonnull off => if len = 3 then (match st with
    | .ref _ :: r => (zk_tg pc off).map (fun t => (t, r))
    | .null :: r => some (pc + 3, r)
    | _ => none) else none
  | .tableswitch dflt lo hi offs => match st with
    | .int x :: r => if x.toInt < lo ∨ hi < x.toInt then (zk_tg pc dflt).map (fun t => (t, r)) else (match offs[(x.toInt - lo).toNat]? with
      | some off => (zk_tg pc off).map (fun t => (t, r))
      | none => none)
    | _ => none
  | .lookupswitch dflt ps => match st with
    | .int x :: r => if (ps.toList.zip (ps.toList.drop 1)).all (fun (a, next) => a.1 < next.1) = true then (zk_tg pc (Op.lookupswitch.offset ps.toList dflt x.toInt)).map (fun t => (t, r)) else none
    | _ => none
  | _ => none
-- ends
def zk_ret (rt : Option FieldType) (ins : Instr) (len : Nat) (st : List Value) : Option (Option Value) := match ins with
  | .ireturn => match rt, st with
    | some .int, [.int v] => if len = 1 then some (some (.int v)) else none
    | some .boolean, [.int v] => if len = 1 then (if v = 0 ∨ v = 1 then some (some (.int v)) else none) else none
    | _, _ => none
  | .lreturn => match rt, st with
    | some .long, [.long v] => if len = 1 then some (some (.long v)) else none
    | _, _ => none
  | .areturn => match rt, st with
    | some (.object _), [.ref a] => if len = 1 then some (some (.ref a)) else none
    | some (.object _), [.null] => if len = 1 then some (some .null) else none
    | some (.array _), [.ref a] => if len = 1 then some (some (.ref a)) else none
    | _, _ => none
  | .return_ => match rt, st with
    | none, [] => if len = 1 then some none else none
    | _, _ => none
  | _ => none
-- the heap
def zk_in (i : Int32) (n : Nat) : Prop := 0 ≤ i.toInt ∧ i.toInt < n
def zk_inb (i : Int32) (n : Nat) : Bool := decide (0 ≤ i.toInt) && decide (i.toInt < n)
def zk_fit (ty : FieldType) (v : Value) : Bool := match ty, v with
  | .int, .int _ => true
  | .boolean, .int x => decide (x = 0 ∨ x = 1)
  | .object _, .ref _ => true
  | .object _, .null => true
  | .array _, .ref _ => true
  | _, _ => false
def zk_pm (c : Nat) (ini : Bool) (nest : Bool) (ci k : Nat) : Bool := if (zk_T ci k).2.2.2 then ini && decide (c = ci) && !nest else true
def zk_df (ci : Nat) : List Value := (zk_tyl.getD ci []).map defaultValue
def zk_sum (st : List Value) : Nat := (st.map fun v => v.category).sum
def zk_heap (G : zk_G) (c : Nat) (ini : Bool) (lv : Nat) (ins : Instr) (st : List Value) (h : zk_H) : Option (List Value × zk_H) := match ins with
  | .getfield i => match zk_fl c i, st with
    | some (_, ci, k), .ref a :: r => match zk_rd G h a with
      | some (.inr (cj, fs)) => if cj = ci then (fs[k]?).map (fun v => (v :: r, h)) else none
      | _ => none
    | _, _ => none
  | .putfield i => match zk_fl c i, st with
    | some (nest, ci, k), v :: .ref a :: r => match zk_rd G h a with
      | some (.inr (cj, fs)) => if cj = ci then (if k < fs.length then (if zk_pm c ini nest ci k then (if zk_fit (zk_ty ci k) v then some (r, zk_wr G h a (.inr (ci, fs.set k v))) else none) else none) else none) else none
      | _ => none
    | _, _ => none
  | .getstatic i => if c = 10 ∧ i = 15 then some (.ref (G.2.2 0) :: st, h) else if c = 5 ∧ i = 41 then some (.ref (G.2.2 1) :: st, h) else none
  | .ldc i => (zk_ki c i).map (fun v => (.int v :: st, h))
  | .ldc_w i => (zk_ki c i).map (fun v => (.int v :: st, h))
  | .ldc2_w i => (zk_kl c i).map (fun v => (.long v :: st, h))
  | .iaload => match st with
    | .int i :: .ref a :: r => match zk_ar G h a with
      | some (0, n, .inl f) => if zk_inb i n then some (.int (f i.toNatClampNeg) :: r, h) else none
      | _ => none
    | _ => none
  | .baload => match st with
    | .int i :: .ref a :: r => match zk_rd G h a with
      | some (.inl (2, n, .inl f)) => if zk_inb i n then some (.int (f i.toNatClampNeg) :: r, h) else none
      | _ => none
    | _ => none
  | .laload => match st with
    | .int i :: .ref a :: r => match zk_ar G h a with
      | some (1, n, .inr (.inl f)) => if zk_inb i n then some (.long (f i.toNatClampNeg) :: r, h) else none
      | _ => none
    | _ => none
  | .aaload => match st with
    | .int i :: .ref a :: r => match zk_rd G h a with
      | some (.inl (t, n, .inr (.inr (.inr (.inr f))))) => if zk_inb i n then (if 3 ≤ t ∧ t ≤ 6 then some (va_rf (f i.toNatClampNeg) :: r, h) else none) else none
      | _ => none
    | _ => none
  | .arraylength => match st with
    | .ref a :: r => match zk_ar G h a with
      | some (t, x) => if t ≤ 6 then some (.int (Int32.ofNat x.1) :: r, h) else none
      | _ => none
    | _ => none
  | .iastore => match st with
    | .int x :: .int i :: .ref a :: r => match zk_rd G h a with
      | some (.inl (0, n, .inl f)) => if zk_inb i n then some (r, zk_wr G h a (.inl (0, n, .inl (upd f i.toNatClampNeg x)))) else none
      | _ => none
    | _ => none
  | .bastore => match st with
    | .int x :: .int i :: .ref a :: r => match zk_rd G h a with
      | some (.inl (2, n, .inl f)) => if zk_inb i n then (if x = 0 ∨ x = 1 then some (r, zk_wr G h a (.inl (2, n, .inl (upd f i.toNatClampNeg x)))) else none) else none
      | _ => none
    | _ => none
  | .lastore => match st with
    | .long x :: .int i :: .ref a :: r => match zk_rd G h a with
      | some (.inl (1, n, .inr (.inl f))) => if zk_inb i n then some (r, zk_wr G h a (.inl (1, n, .inr (.inl (vp_updL f i.toNatClampNeg x))))) else none
      | _ => none
    | _ => none
  | .aastore => match st with
    | .ref v :: .int i :: .ref a :: r => match zk_rd G h a, zk_rd G h v with
      | some (.inl (t, n, .inr (.inr (.inr (.inr f))))), some (.inr (ci, _)) => if zk_inb i n then (if 3 ≤ t ∧ t ≤ 6 ∧ ci = zk_ac t then some (r, zk_wr G h a (.inl (t, n, .inr (.inr (.inr (.inr (va_up f i.toNatClampNeg (some v)))))))) else none) else none
      | _, _ => none
    | _ => none
  | .new i => match zk_kc c i with
    | some ci => some (.ref (zk_nx G h) :: st, zk_al h (.inr (ci, zk_df ci)) (zk_N ci))
    | none => none
  | .newarray t => match t, st with
    | .int, .int n :: r => if 0 ≤ n.toInt ∧ n.toInt ≤ 65536 then some (.ref (zk_nx G h) :: r, zk_al h (.inl (0, n.toNatClampNeg, .inl (fun _ => 0))) n.toNatClampNeg) else none
    | .long, .int n :: r => if 0 ≤ n.toInt ∧ n.toInt ≤ 65536 then some (.ref (zk_nx G h) :: r, zk_al h (.inl (1, n.toNatClampNeg, .inr (.inl (fun _ => 0)))) n.toNatClampNeg) else none
    | .boolean, .int n :: r => if 0 ≤ n.toInt ∧ n.toInt ≤ 65536 then some (.ref (zk_nx G h) :: r, zk_al h (.inl (2, n.toNatClampNeg, .inl (fun _ => 0))) n.toNatClampNeg) else none
    | _, _ => none
  | .anewarray i => match zk_kc c i, st with
    | some ci, .int n :: r => match zk_at ci with
      | some t => if 0 ≤ n.toInt ∧ n.toInt ≤ 65536 then some (.ref (zk_nx G h) :: r, zk_al h (.inl (t, n.toNatClampNeg, .inr (.inr (.inr (.inr (fun _ => none)))))) n.toNatClampNeg) else none
      | none => none
    | _, _ => none
  | .invokespecial i => match st with
    | .ref _ :: r => if zk_ob c i ∧ zk_sum r ≤ 8 ∧ 1 ≤ lv then some (r, h) else none
    | _ => none
  | .invokestatic i => if c = 15 ∧ i = 150 then (match st with
    | .int n :: .int dp :: .ref a :: .int sp :: .ref b :: r => match zk_rd G h b, zk_rd G h a with
      | some (.inl (0, n0, .inl f)), some (.inl (0, n1, .inl g)) => if 0 ≤ sp.toInt ∧ 0 ≤ dp.toInt ∧ 0 ≤ n.toInt ∧ sp.toInt + n.toInt ≤ n0 ∧ dp.toInt + n.toInt ≤ n1 ∧ zk_sum r ≤ 8 ∧ 1 ≤ lv then some (r, zk_wr G h a (.inl (0, n1, .inl (va_cpy f g sp.toNatClampNeg dp.toNatClampNeg n.toNatClampNeg)))) else none
      | _, _ => none
    | _ => none) else none
  | _ => none
-- calls
def zk_sl (vs : List Value) : zk_L := match vs with
  | [] => []
  | v :: vs => if v.category = 2 then some v :: none :: zk_sl vs else some v :: zk_sl vs
def zk_ent (ml : Nat) (vs : List Value) : zk_L := zk_sl vs ++ List.replicate (ml - (zk_sl vs).length) none
def zk_fr (y yc : Nat) (As rest : List Value) : Bool := decide (zk_lev yc < zk_lev y) && decide ((lg_sl As).length ≤ zk_ml yc) && decide (zk_sum rest ≤ 8)
def zk_inv (G : zk_G) (y : Nat) (ins : Instr) (st : List Value) (h : zk_H) : Option (Nat × List Value × List Value) := match ins with
  | .invokevirtual i => match zk_mk (zk_c y) i with
    | some (0, yc) => match st.drop (zk_na yc) with
      | .ref b :: rest => match zk_rd G h b with
        | some (.inr (ci, _)) => if ci = zk_c yc ∧ zk_fr y yc (.ref b :: (st.take (zk_na yc)).reverse) rest then some (yc, .ref b :: (st.take (zk_na yc)).reverse, rest) else none
        | _ => none
      | _ => none
    | _ => none
  | .invokestatic i => match zk_mk (zk_c y) i with
    | some (1, yc) => if zk_na yc ≤ st.length ∧ zk_fr y yc ((st.take (zk_na yc)).reverse) (st.drop (zk_na yc)) then some (yc, (st.take (zk_na yc)).reverse, st.drop (zk_na yc)) else none
    | _ => none
  | .invokespecial i => match zk_mk (zk_c y) i with
    | some (k, yc) => match st.drop (zk_na yc) with
      | .ref b :: rest => if 2 ≤ k ∧ zk_fr y yc (.ref b :: (st.take (zk_na yc)).reverse) rest then some (yc, .ref b :: (st.take (zk_na yc)).reverse, rest) else none
      | _ => none
    | _ => none
  | _ => none
def zk_ex : Nat → zk_G → Nat → Nat → zk_L → List Value → zk_H → Option (Option Value × zk_H)
  | 0, _, _, _, _, _, _ => none
  | n + 1, G, y, pc, L, st, h => match zk_ft y pc with
    | none => none
    | some (ins, len) => match zk_inv G y ins st h with
      | some (yc, As, rest) => if len = 3 then (match zk_ex n G yc 0 (zk_ent (zk_ml yc) As) [] h with
        | some (r, h') => zk_ex n G y (pc + 3) L (r.toList ++ rest) h'
        | none => none) else none
      | none => match zk_ret (zk_rt y) ins len st with
        | some r => some (r, h)
        | none => match zk_jump ins len pc st with
          | some (pc', st') => zk_ex n G y pc' L st' h
          | none => match zk_heap G (zk_c y) (zk_ini y) (zk_lev y) ins st h with
            | some (st', h') => if len = zk_len ins then zk_ex n G y (pc + len) L st' h' else none
            | none => match zk_pure ins L st with
              | some (L', st') => if len = zk_len ins then zk_ex n G y (pc + len) L' st' h else none
              | none => none
end
section
/-! the small machine's locals and its instructions without heap are the JVM's -/
def zk_lv (L : zk_L) : List (Nat × Value) := (List.range L.length).filterMap fun i => (zk_lget L i).map (fun v => (i, v))
theorem zk_lget_lt {L : zk_L} {i : Nat} {v : Value} (h : zk_lget L i = some v) : i < L.length := by
  unfold zk_lget at h
  rcases Nat.lt_or_ge i L.length with h1 | h1
  · exact h1
  · rw [List.getElem?_eq_none h1] at h
    cases h
theorem zk_lv_mem {L : zk_L} {i : Nat} {v : Value} : (i, v) ∈ zk_lv L ↔ zk_lget L i = some v := by
  unfold zk_lv
  rw [List.mem_filterMap]
  constructor
  · rintro ⟨j, -, hj⟩
    cases hg : zk_lget L j with
    | none => rw [hg] at hj; cases hj
    | some w => rw [hg] at hj; cases hj; exact hg
  · intro h
    exact ⟨i, List.mem_range.mpr (zk_lget_lt h), by rw [h]; rfl⟩
theorem zk_has_at {ls : Array Slot} {nL : Nat} {L : zk_L} (hl : lv_has ls nL (zk_lv L)) {i : Nat} {v : Value} (hg : zk_lget L i = some v) : ls[i]? = some (.val v) := hl.2.2 (i, v) (zk_lv_mem.mpr hg)
theorem zk_has_sub {ls : Array Slot} {nL : Nat} {l l' : List (Nat × Value)} (h : lv_has ls nL l) (hs : ∀ q ∈ l', q ∈ l) : lv_has ls nL l' := ⟨h.1, h.2.1, fun q hq => h.2.2 q (hs q hq)⟩
theorem zk_lget_set {L : zk_L} {i j : Nat} {o : Option Value} {v : Value} (h : zk_lget (L.set i o) j = some v) : (j = i ∧ o = some v) ∨ (j ≠ i ∧ zk_lget L j = some v) := by
  by_cases hj : j = i
  · subst hj
    left
    refine ⟨rfl, ?_⟩
    have hlt := zk_lget_lt h
    rw [List.length_set] at hlt
    unfold zk_lget at h
    rw [List.getElem?_set_self hlt] at h
    cases o with
    | none => cases h
    | some w => cases h; rfl
  · right
    refine ⟨hj, ?_⟩
    unfold zk_lget at h ⊢
    rw [List.getElem?_set_ne (Ne.symm hj)] at h
    exact h
theorem zk_cl_get {L : zk_L} {i j : Nat} {v : Value} (h : zk_lget (zk_cl L i) j = some v) : zk_lget L j = some v ∧ ¬ (j + 1 = i ∧ v.category = 2) := by
  unfold zk_cl at h
  cases i with
  | zero => exact ⟨h, fun q => by omega⟩
  | succ n =>
    dsimp only at h
    cases hg : zk_lget L n with
    | none =>
      rw [hg] at h
      refine ⟨h, fun q => ?_⟩
      have : j = n := by omega
      subst this
      rw [hg] at h; cases h
    | some w =>
      rw [hg] at h
      dsimp only at h
      by_cases hc : w.category = 2
      · rw [if_pos hc] at h
        rcases zk_lget_set h with ⟨-, h2⟩ | ⟨h1, h2⟩
        · cases h2
        · exact ⟨h2, fun q => h1 (by omega)⟩
      · rw [if_neg hc] at h
        refine ⟨h, fun q => ?_⟩
        have : j = n := by omega
        subst this
        rw [hg] at h
        cases h
        exact hc q.2
theorem zk_cl_len {L : zk_L} {i : Nat} : (zk_cl L i).length = L.length := by
  unfold zk_cl
  cases i with
  | zero => rfl
  | succ n =>
    dsimp only
    cases zk_lget L n with
    | none => rfl
    | some w =>
      dsimp only
      split
      · rw [List.length_set]
      · rfl
theorem zk_l1_len {L : zk_L} {i : Nat} {x : Value} : (zk_l1 L i x).length = L.length := by unfold zk_l1; rw [List.length_set, zk_cl_len]
theorem zk_l2_len {L : zk_L} {i : Nat} {x : Value} : (zk_l2 L i x).length = L.length := by unfold zk_l2; rw [List.length_set, List.length_set, zk_cl_len]
theorem zk_l1_sub {L : zk_L} {i : Nat} {x : Value} : ∀ q ∈ zk_lv (zk_l1 L i x), q ∈ (i, x) :: (zk_lv L).filter (fun q => !(q.1 == i) && !(q.1 + 1 == i && q.2.category == 2)) := by
  rintro ⟨j, v⟩ hq
  rw [zk_lv_mem] at hq
  rcases zk_lget_set hq with ⟨h1, h2⟩ | ⟨h1, h2⟩
  · cases h2; subst h1; exact List.mem_cons_self
  · obtain ⟨h3, h4⟩ := zk_cl_get h2
    refine List.mem_cons_of_mem _ (List.mem_filter.mpr ⟨zk_lv_mem.mpr h3, ?_⟩)
    simp only [Bool.and_eq_true, Bool.not_eq_true', beq_eq_false_iff_ne, ne_eq, Bool.and_eq_false_imp, beq_iff_eq]
    exact ⟨h1, fun a b => h4 ⟨a, b⟩⟩
theorem zk_l2_sub {L : zk_L} {i : Nat} {x : Value} : ∀ q ∈ zk_lv (zk_l2 L i x), q ∈ (i, x) :: (zk_lv L).filter (fun q => !(q.1 == i) && (!(q.1 == i + 1) && !(q.1 + 1 == i && q.2.category == 2))) := by
  rintro ⟨j, v⟩ hq
  rw [zk_lv_mem] at hq
  rcases zk_lget_set hq with ⟨-, h2⟩ | ⟨h0, hq⟩
  · cases h2
  rcases zk_lget_set hq with ⟨h1, h2⟩ | ⟨h1, h2⟩
  · cases h2; subst h1; exact List.mem_cons_self
  · obtain ⟨h3, h4⟩ := zk_cl_get h2
    refine List.mem_cons_of_mem _ (List.mem_filter.mpr ⟨zk_lv_mem.mpr h3, ?_⟩)
    simp only [Bool.and_eq_true, Bool.not_eq_true', beq_eq_false_iff_ne, ne_eq, Bool.and_eq_false_imp, beq_iff_eq]
    exact ⟨h1, h0, fun a b => h4 ⟨a, b⟩⟩
-- what the helpers say
theorem zk_ldi_sp {L L' : zk_L} {st st' : List Value} {i : Nat} (h : zk_ldi L st i = some (L', st')) : ∃ x, zk_lget L i = some (.int x) ∧ L' = L ∧ st' = .int x :: st := by
  unfold zk_ldi at h
  split at h
  next x hg => cases h; exact ⟨x, hg, rfl, rfl⟩
  next => cases h
theorem zk_ldl_sp {L L' : zk_L} {st st' : List Value} {i : Nat} (h : zk_ldl L st i = some (L', st')) : ∃ x, zk_lget L i = some (.long x) ∧ L' = L ∧ st' = .long x :: st := by
  unfold zk_ldl at h
  split at h
  next x hg => cases h; exact ⟨x, hg, rfl, rfl⟩
  next => cases h
theorem zk_lda_sp {L L' : zk_L} {st st' : List Value} {i : Nat} (h : zk_lda L st i = some (L', st')) : (∃ x, zk_lget L i = some (.ref x) ∧ L' = L ∧ st' = .ref x :: st) ∨ (zk_lget L i = some .null ∧ L' = L ∧ st' = .null :: st) := by
  unfold zk_lda at h
  split at h
  next x hg => cases h; exact Or.inl ⟨x, hg, rfl, rfl⟩
  next hg => cases h; exact Or.inr ⟨hg, rfl, rfl⟩
  next => cases h
theorem zk_sti_sp {L L' : zk_L} {st st' : List Value} {i : Nat} (h : zk_sti L st i = some (L', st')) : ∃ x r, st = .int x :: r ∧ i < L.length ∧ L' = zk_l1 L i (.int x) ∧ st' = r := by
  unfold zk_sti at h
  split at h
  next x r =>
    split at h
    next hi => cases h; exact ⟨x, _, rfl, hi, rfl, rfl⟩
    next => cases h
  next => cases h
theorem zk_stl_sp {L L' : zk_L} {st st' : List Value} {i : Nat} (h : zk_stl L st i = some (L', st')) : ∃ x r, st = .long x :: r ∧ i + 1 < L.length ∧ L' = zk_l2 L i (.long x) ∧ st' = r := by
  unfold zk_stl at h
  split at h
  next x r =>
    split at h
    next hi => cases h; exact ⟨x, _, rfl, hi, rfl, rfl⟩
    next => cases h
  next => cases h
theorem zk_sta_sp {L L' : zk_L} {st st' : List Value} {i : Nat} (h : zk_sta L st i = some (L', st')) : (∃ x r, st = .ref x :: r ∧ i < L.length ∧ L' = zk_l1 L i (.ref x) ∧ st' = r) ∨ (∃ r, st = .null :: r ∧ i < L.length ∧ L' = zk_l1 L i .null ∧ st' = r) := by
  unfold zk_sta at h
  split at h
  next x r =>
    split at h
    next hi => cases h; exact Or.inl ⟨x, _, rfl, hi, rfl, rfl⟩
    next => cases h
  next r =>
    split at h
    next hi => cases h; exact Or.inr ⟨_, rfl, hi, rfl, rfl⟩
    next => cases h
  next => cases h
theorem zk_ii_sp {f : Int32 → Int32 → Int32} {L L' : zk_L} {st st' : List Value} (h : zk_ii f L st = some (L', st')) : ∃ x y r, st = .int y :: .int x :: r ∧ L' = L ∧ st' = .int (f x y) :: r := by
  unfold zk_ii at h
  split at h
  next y x r => cases h; exact ⟨x, y, _, rfl, rfl, rfl⟩
  next => cases h
theorem zk_id_sp {f : Int32 → Int32 → Int32} {L L' : zk_L} {st st' : List Value} (h : zk_id f L st = some (L', st')) : ∃ x y r, st = .int y :: .int x :: r ∧ ¬ y = 0 ∧ L' = L ∧ st' = .int (f x y) :: r := by
  unfold zk_id at h
  split at h
  next y x r =>
    split at h
    next => cases h
    next hy => cases h; exact ⟨x, y, _, rfl, hy, rfl, rfl⟩
  next => cases h
theorem zk_ll_sp {f : Int64 → Int64 → Int64} {L L' : zk_L} {st st' : List Value} (h : zk_ll f L st = some (L', st')) : ∃ x y r, st = .long y :: .long x :: r ∧ L' = L ∧ st' = .long (f x y) :: r := by
  unfold zk_ll at h
  split at h
  next y x r => cases h; exact ⟨x, y, _, rfl, rfl, rfl⟩
  next => cases h
theorem zk_li_sp {f : Int64 → Int32 → Int64} {L L' : zk_L} {st st' : List Value} (h : zk_li f L st = some (L', st')) : ∃ x y r, st = .int y :: .long x :: r ∧ L' = L ∧ st' = .long (f x y) :: r := by
  unfold zk_li at h
  split at h
  next y x r => cases h; exact ⟨x, y, _, rfl, rfl, rfl⟩
  next => cases h
section ZKP
variable {p : Program} {l : Launch} {e : Env} {R : Room} {s : State} {m : MethodId} {args : Array Value} {below : List Frame} {meth : Method} {c : Code} {H : Heap} {locs : List Loc} {cells slots : Nat} {Q : State → Prop} {cc : ByteArray} {pc nL : Nat} {ls : Array Slot} {L L' : zk_L} {st st' : List Value}
theorem zk_pure_ok (hx : p.tables.exec = Jvm.exec) (hb : c.code = cc) {ins : Instr} (hd : decode cc pc = .ok (ins, zk_len ins)) (h : zk_pure ins L st = some (L', st')) (hl : lv_has ls nL (zk_lv L)) (hL : L.length = nL)
    (k : ∀ ls' : Array Slot, lv_has ls' nL (zk_lv L') → L'.length = nL → W p l e R s m args below meth c H locs cells slots Q (F0 m (pc + zk_len ins) ls' st')) : W p l e R s m args below meth c H locs cells slots Q (F0 m pc ls st) := by
  cases ins
  case aconst_null => cases h; exact lv_null hx hb hd (k ls hl hL)
  case iconst n => cases h; exact lv_iconst hx hb hd rfl (k ls hl hL)
  case bipush n => cases h; exact lv_bipush hx hb hd rfl (k ls hl hL)
  case sipush n => cases h; exact lv_sipush hx hb hd rfl (k ls hl hL)
  case lconst n => cases h; exact lv_lconst hx hb hd rfl (k ls hl hL)
  case iload i => obtain ⟨x, hg, rfl, rfl⟩ := zk_ldi_sp h; exact lv_iload hx hb hd (zk_has_at hl hg) (k ls hl hL)
  case iload_n i => obtain ⟨x, hg, rfl, rfl⟩ := zk_ldi_sp h; exact lv_iload_n hx hb hd rfl (zk_has_at hl hg) (k ls hl hL)
  case lload i => obtain ⟨x, hg, rfl, rfl⟩ := zk_ldl_sp h; exact lv_lload hx hb hd (zk_has_at hl hg) (k ls hl hL)
  case lload_n i => obtain ⟨x, hg, rfl, rfl⟩ := zk_ldl_sp h; exact lv_lload_n hx hb hd rfl (zk_has_at hl hg) (k ls hl hL)
  case aload i =>
    rcases zk_lda_sp h with ⟨x, hg, rfl, rfl⟩ | ⟨hg, rfl, rfl⟩
    · exact lv_aload hx hb hd (zk_has_at hl hg) (k ls hl hL)
    · exact lv_aloadN hx hb hd (zk_has_at hl hg) (k ls hl hL)
  case aload_n i =>
    rcases zk_lda_sp h with ⟨x, hg, rfl, rfl⟩ | ⟨hg, rfl, rfl⟩
    · exact lv_aload_n hx hb hd rfl (zk_has_at hl hg) (k ls hl hL)
    · exact lv_aload_nN hx hb hd rfl (zk_has_at hl hg) (k ls hl hL)
  case istore i => obtain ⟨x, r, rfl, hi, rfl, rfl⟩ := zk_sti_sp h; exact lv_istore hx hb hd hl (by rw [← hL]; exact hi) rfl (fun ls' hl' => k ls' (zk_has_sub hl' zk_l1_sub) (zk_l1_len.trans hL))
  case istore_n i => obtain ⟨x, r, rfl, hi, rfl, rfl⟩ := zk_sti_sp h; exact lv_istore_n hx hb hd rfl hl (by rw [← hL]; exact hi) rfl (fun ls' hl' => k ls' (zk_has_sub hl' zk_l1_sub) (zk_l1_len.trans hL))
  case lstore i => obtain ⟨x, r, rfl, hi, rfl, rfl⟩ := zk_stl_sp h; exact lv_lstore hx hb hd hl (by rw [← hL]; exact hi) rfl (fun ls' hl' => k ls' (zk_has_sub hl' zk_l2_sub) (zk_l2_len.trans hL))
  case lstore_n i => obtain ⟨x, r, rfl, hi, rfl, rfl⟩ := zk_stl_sp h; exact lv_lstore_n hx hb hd rfl hl (by rw [← hL]; exact hi) rfl (fun ls' hl' => k ls' (zk_has_sub hl' zk_l2_sub) (zk_l2_len.trans hL))
  case astore i =>
    rcases zk_sta_sp h with ⟨x, r, rfl, hi, rfl, rfl⟩ | ⟨r, rfl, hi, rfl, rfl⟩
    · exact lv_astore hx hb hd hl (by rw [← hL]; exact hi) rfl (fun ls' hl' => k ls' (zk_has_sub hl' zk_l1_sub) (zk_l1_len.trans hL))
    · exact lv_astoreN hx hb hd hl (by rw [← hL]; exact hi) rfl (fun ls' hl' => k ls' (zk_has_sub hl' zk_l1_sub) (zk_l1_len.trans hL))
  case astore_n i =>
    rcases zk_sta_sp h with ⟨x, r, rfl, hi, rfl, rfl⟩ | ⟨r, rfl, hi, rfl, rfl⟩
    · exact lv_astore_n hx hb hd rfl hl (by rw [← hL]; exact hi) rfl (fun ls' hl' => k ls' (zk_has_sub hl' zk_l1_sub) (zk_l1_len.trans hL))
    · exact lv_astore_nN hx hb hd rfl hl (by rw [← hL]; exact hi) rfl (fun ls' hl' => k ls' (zk_has_sub hl' zk_l1_sub) (zk_l1_len.trans hL))
  case iinc i n =>
    dsimp only [zk_pure] at h
    split at h
    next x hg =>
      cases h
      obtain ⟨j, hj⟩ := List.getElem?_of_mem (zk_lv_mem.mpr hg)
      exact lv_iinc hx hb hd hl hj rfl (by rw [← hL]; exact zk_lget_lt hg) rfl (fun ls' hl' => k ls' (zk_has_sub hl' zk_l1_sub) (zk_l1_len.trans hL))
    next => cases h
  case pop =>
    dsimp only [zk_pure] at h
    split at h
    next v r =>
      split at h
      next hc => cases h; exact lv_pop hx hb hd hc (k ls hl hL)
      next => cases h
    next => cases h
  case dup =>
    dsimp only [zk_pure] at h
    split at h
    next v r =>
      split at h
      next hc => cases h; exact lv_dup hx hb hd hc (k ls hl hL)
      next => cases h
    next => cases h
  case dup2 =>
    dsimp only [zk_pure] at h
    split at h
    next v w r =>
      split at h
      next hc =>
        split at h
        next hd2 => cases h; exact lv_dup2_11 hx hb hd hc hd2 (k ls hl hL)
        next => cases h
      next => cases h
    next => cases h
  case iadd => obtain ⟨x, y, r, rfl, rfl, rfl⟩ := zk_ii_sp h; exact lv_iadd hx hb hd (k ls hl hL)
  case isub => obtain ⟨x, y, r, rfl, rfl, rfl⟩ := zk_ii_sp h; exact lv_isub hx hb hd (k ls hl hL)
  case imul => obtain ⟨x, y, r, rfl, rfl, rfl⟩ := zk_ii_sp h; exact lv_imul hx hb hd (k ls hl hL)
  case iand => obtain ⟨x, y, r, rfl, rfl, rfl⟩ := zk_ii_sp h; exact lv_iand hx hb hd (k ls hl hL)
  case ior => obtain ⟨x, y, r, rfl, rfl, rfl⟩ := zk_ii_sp h; exact lv_ior hx hb hd (k ls hl hL)
  case ixor => obtain ⟨x, y, r, rfl, rfl, rfl⟩ := zk_ii_sp h; exact lv_ixor hx hb hd (k ls hl hL)
  case idiv => obtain ⟨x, y, r, rfl, hy, rfl, rfl⟩ := zk_id_sp h; exact lv_idiv hx hb hd hy (k ls hl hL)
  case irem => obtain ⟨x, y, r, rfl, hy, rfl, rfl⟩ := zk_id_sp h; exact lv_irem hx hb hd hy (k ls hl hL)
  case ishl => obtain ⟨x, y, r, rfl, rfl, rfl⟩ := zk_ii_sp h; exact lv_ishl hx hb hd (k ls hl hL)
  case ishr => obtain ⟨x, y, r, rfl, rfl, rfl⟩ := zk_ii_sp h; exact lv_ishr hx hb hd (k ls hl hL)
  case iushr => obtain ⟨x, y, r, rfl, rfl, rfl⟩ := zk_ii_sp h; exact lv_iushr hx hb hd rfl (k ls hl hL)
  case ladd => obtain ⟨x, y, r, rfl, rfl, rfl⟩ := zk_ll_sp h; exact lv_ladd hx hb hd (k ls hl hL)
  case lsub => obtain ⟨x, y, r, rfl, rfl, rfl⟩ := zk_ll_sp h; exact lv_lsub hx hb hd (k ls hl hL)
  case land => obtain ⟨x, y, r, rfl, rfl, rfl⟩ := zk_ll_sp h; exact lv_land hx hb hd (k ls hl hL)
  case lor => obtain ⟨x, y, r, rfl, rfl, rfl⟩ := zk_ll_sp h; exact lv_lor hx hb hd (k ls hl hL)
  case lxor => obtain ⟨x, y, r, rfl, rfl, rfl⟩ := zk_ll_sp h; exact lv_lxor hx hb hd (k ls hl hL)
  case lneg =>
    dsimp only [zk_pure] at h
    split at h
    next x r => cases h; exact lv_lneg hx hb hd (k ls hl hL)
    next => cases h
  case lshl => obtain ⟨x, y, r, rfl, rfl, rfl⟩ := zk_li_sp h; exact lv_lshl hx hb hd rfl (k ls hl hL)
  case lshr => obtain ⟨x, y, r, rfl, rfl, rfl⟩ := zk_li_sp h; exact lv_lshr hx hb hd rfl (k ls hl hL)
  case lushr => obtain ⟨x, y, r, rfl, rfl, rfl⟩ := zk_li_sp h; exact lv_lushr hx hb hd rfl (k ls hl hL)
  case lcmp =>
    dsimp only [zk_pure] at h
    split at h
    next y x r => cases h; exact W.lcmp hx hb hd (k ls hl hL)
    next => cases h
  case i2l =>
    dsimp only [zk_pure] at h
    split at h
    next x r => cases h; exact lv_i2l hx hb hd rfl (k ls hl hL)
    next => cases h
  case l2i =>
    dsimp only [zk_pure] at h
    split at h
    next x r => cases h; exact lv_l2i hx hb hd rfl (k ls hl hL)
    next => cases h
  all_goals (exact nomatch h)
end ZKP
end
section
/-! the small machine's jumps are the JVM's -/
theorem zk_tg_sp {α : Type} {pc : Nat} {off : Int} {f : Nat → α} {q : α} (h : (zk_tg pc off).map f = some q) : ∃ t : Nat, (pc : Int) + off = (t : Int) ∧ q = f t := by
  unfold zk_tg at h
  split at h
  next h0 =>
    cases h
    exact ⟨_, (Int.toNat_of_nonneg h0).symm, rfl⟩
  next => cases h
section ZKJ
variable {p : Program} {l : Launch} {e : Env} {R : Room} {s : State} {m : MethodId} {args : Array Value} {below : List Frame} {meth : Method} {c : Code} {H : Heap} {locs : List Loc} {cells slots : Nat} {Q : State → Prop} {cc : ByteArray} {pc len pc' : Nat} {ls : Array Slot} {st st' : List Value}
theorem zk_if1 (hx : p.tables.exec = Jvm.exec) (hb : c.code = cc) {k : ClassFile.Cond} {off : Int} {x : Int32} {r : List Value} (hd : decode cc pc = .ok (.ifCond k off, 3)) (h : (zk_tg pc off).map (fun t => if zk_c2b k x 0 then (t, r) else (pc + 3, r)) = some (pc', st'))
    (kk : W p l e R s m args below meth c H locs cells slots Q (F0 m pc' ls st')) : W p l e R s m args below meth c H locs cells slots Q (F0 m pc ls (.int x :: r)) := by
  obtain ⟨t, ht, hq⟩ := zk_tg_sp h
  by_cases hc : zk_c2b k x 0 = true
  · rw [if_pos hc] at hq
    cases hq
    cases k
    · exact lv_if_eq hx hb hd ht (fun _ => kk) (fun z => absurd (by simpa [zk_c2b] using hc) z)
    · exact lv_if_ne hx hb hd ht (fun _ => kk) (fun z => absurd z (by simpa [zk_c2b] using hc))
    · exact lv_if_lt hx hb hd ht (fun _ => kk) (fun z => absurd (by simpa [zk_c2b] using hc) z)
    · exact lv_if_ge hx hb hd ht (fun _ => kk) (fun z => absurd (by simpa [zk_c2b] using hc) z)
    · exact lv_if_gt hx hb hd ht (fun _ => kk) (fun z => absurd (by simpa [zk_c2b] using hc) z)
    · exact lv_if_le hx hb hd ht (fun _ => kk) (fun z => absurd (by simpa [zk_c2b] using hc) z)
  · rw [if_neg hc] at hq
    cases hq
    have hc' : zk_c2b k x 0 = false := by simpa using hc
    cases k
    · exact lv_if_eq hx hb hd ht (fun z => absurd z (by simpa [zk_c2b] using hc')) (fun _ => kk)
    · exact lv_if_ne hx hb hd ht (fun z => absurd (by simpa [zk_c2b] using hc') z) (fun _ => kk)
    · exact lv_if_lt hx hb hd ht (fun z => absurd z (by simpa [zk_c2b] using hc')) (fun _ => kk)
    · exact lv_if_ge hx hb hd ht (fun z => absurd z (by simpa [zk_c2b] using hc')) (fun _ => kk)
    · exact lv_if_gt hx hb hd ht (fun z => absurd z (by simpa [zk_c2b] using hc')) (fun _ => kk)
    · exact lv_if_le hx hb hd ht (fun z => absurd z (by simpa [zk_c2b] using hc')) (fun _ => kk)
theorem zk_if2 (hx : p.tables.exec = Jvm.exec) (hb : c.code = cc) {k : ClassFile.Cond} {off : Int} {x y : Int32} {r : List Value} (hd : decode cc pc = .ok (.if_icmp k off, 3)) (h : (zk_tg pc off).map (fun t => if zk_c2b k x y then (t, r) else (pc + 3, r)) = some (pc', st'))
    (kk : W p l e R s m args below meth c H locs cells slots Q (F0 m pc' ls st')) : W p l e R s m args below meth c H locs cells slots Q (F0 m pc ls (.int y :: .int x :: r)) := by
  obtain ⟨t, ht, hq⟩ := zk_tg_sp h
  by_cases hc : zk_c2b k x y = true
  · rw [if_pos hc] at hq
    cases hq
    cases k
    · exact lv_icmp_eq hx hb hd ht (fun _ => kk) (fun z => absurd (by simpa [zk_c2b] using hc) z)
    · exact lv_icmp_ne hx hb hd ht (fun _ => kk) (fun z => absurd z (by simpa [zk_c2b] using hc))
    · exact lv_icmp_lt hx hb hd ht (fun _ => kk) (fun z => absurd (by simpa [zk_c2b] using hc) z)
    · exact lv_icmp_ge hx hb hd ht (fun _ => kk) (fun z => absurd (by simpa [zk_c2b] using hc) z)
    · exact lv_icmp_gt hx hb hd ht (fun _ => kk) (fun z => absurd (by simpa [zk_c2b] using hc) z)
    · exact lv_icmp_le hx hb hd ht (fun _ => kk) (fun z => absurd (by simpa [zk_c2b] using hc) z)
  · rw [if_neg hc] at hq
    cases hq
    have hc' : zk_c2b k x y = false := by simpa using hc
    cases k
    · exact lv_icmp_eq hx hb hd ht (fun z => absurd z (by simpa [zk_c2b] using hc')) (fun _ => kk)
    · exact lv_icmp_ne hx hb hd ht (fun z => absurd (by simpa [zk_c2b] using hc') z) (fun _ => kk)
    · exact lv_icmp_lt hx hb hd ht (fun z => absurd z (by simpa [zk_c2b] using hc')) (fun _ => kk)
    · exact lv_icmp_ge hx hb hd ht (fun z => absurd z (by simpa [zk_c2b] using hc')) (fun _ => kk)
    · exact lv_icmp_gt hx hb hd ht (fun z => absurd z (by simpa [zk_c2b] using hc')) (fun _ => kk)
    · exact lv_icmp_le hx hb hd ht (fun z => absurd z (by simpa [zk_c2b] using hc')) (fun _ => kk)
theorem zk_jump_ok (hx : p.tables.exec = Jvm.exec) (hb : c.code = cc) {ins : Instr} (hd : decode cc pc = .ok (ins, len)) (h : zk_jump ins len pc st = some (pc', st'))
    (kk : W p l e R s m args below meth c H locs cells slots Q (F0 m pc' ls st')) : W p l e R s m args below meth c H locs cells slots Q (F0 m pc ls st) := by
  cases ins
  case goto off =>
    dsimp only [zk_jump] at h
    split at h
    next hl => subst hl; obtain ⟨t, ht, hq⟩ := zk_tg_sp h; cases hq; exact lv_goto hx hb hd ht kk
    next => cases h
  case ifCond k off =>
    dsimp only [zk_jump] at h
    split at h
    next hl =>
      subst hl
      split at h
      next x r => exact zk_if1 hx hb hd h kk
      next => cases h
    next => cases h
  case if_icmp k off =>
    dsimp only [zk_jump] at h
    split at h
    next hl =>
      subst hl
      split at h
      next x r => exact zk_if2 hx hb hd h kk
      next => cases h
    next => cases h
  case ifnull off =>
    dsimp only [zk_jump] at h
    split at h
    next hl =>
      subst hl
      split at h
      next a r => cases h; exact lv_ifnull hx hb hd kk
      next r => obtain ⟨t, ht, hq⟩ := zk_tg_sp h; cases hq; exact lv_ifnullN hx hb hd ht kk
      next => cases h
    next => cases h
  case ifnonnull off =>
    dsimp only [zk_jump] at h
    split at h
    next hl =>
      subst hl
      split at h
      next a r => obtain ⟨t, ht, hq⟩ := zk_tg_sp h; cases hq; exact lv_ifnonnull hx hb hd ht kk
      next r => cases h; exact lv_ifnonnullN hx hb hd kk
      next => cases h
    next => cases h
  case tableswitch dflt lo hi offs =>
    dsimp only [zk_jump] at h
    split at h
    next x r =>
      split at h
      next hc => obtain ⟨t, ht, hq⟩ := zk_tg_sp h; cases hq; exact lv_tableOut hx hb hd hc ht kk
      next hc =>
        split at h
        next off ho => obtain ⟨t, ht, hq⟩ := zk_tg_sp h; cases hq; exact lv_tableIn hx hb hd (fun z => hc (Or.inl z)) (fun z => hc (Or.inr z)) ho ht kk
        next => cases h
    next => cases h
  case lookupswitch dflt ps =>
    dsimp only [zk_jump] at h
    split at h
    next x r =>
      split at h
      next hc => obtain ⟨t, ht, hq⟩ := zk_tg_sp h; cases hq; exact lv_lookup hx hb hd hc rfl ht kk
      next => cases h
    next => cases h
  all_goals (exact nomatch h)
end ZKJ
end
section
/-! the small machine's heap in the JVM's -/
def zk_tr (dA : Nat → Nat) (e : zk_E) : va_E := match e with
  | .inl x => .inl (dA x.1, x.2)
  | .inr o => .inr o
def zk_wl (b0 : Nat) (dA : Nat → Nat) (cs : List zk_E) : va_W := cs.mapIdx (fun k e => (b0 + k, zk_tr dA e))
theorem zk_wl_at {b0 : Nat} {dA : Nat → Nat} {cs : List zk_E} {k : Nat} : (zk_wl b0 dA cs)[k]? = (cs[k]?).map (fun e => (b0 + k, zk_tr dA e)) := by
  unfold zk_wl
  rw [List.getElem?_mapIdx]
theorem zk_wl_set {b0 : Nat} {dA : Nat → Nat} {cs : List zk_E} {k : Nat} {e : zk_E} : (zk_wl b0 dA cs).set k (b0 + k, zk_tr dA e) = zk_wl b0 dA (cs.set k e) := by
  apply List.ext_getElem?
  intro j
  rw [zk_wl_at, List.getElem?_set, List.getElem?_set]
  have hlen : (zk_wl b0 dA cs).length = cs.length := by unfold zk_wl; rw [List.length_mapIdx]
  rw [hlen, zk_wl_at]
  by_cases hk : k = j
  · subst hk
    simp only [if_true]
    by_cases hl : k < cs.length
    · simp [hl]
    · simp [hl]
  · simp [hk]
theorem zk_wl_len {b0 : Nat} {dA : Nat → Nat} {cs : List zk_E} : (zk_wl b0 dA cs).length = cs.length := by unfold zk_wl; rw [List.length_mapIdx]
theorem zk_wl_app {b0 : Nat} {dA : Nat → Nat} {cs : List zk_E} {e : zk_E} : zk_wl b0 dA (cs ++ [e]) = zk_wl b0 dA cs ++ [(b0 + cs.length, zk_tr dA e)] := by
  unfold zk_wl
  rw [List.mapIdx_append]
  simp
theorem zk_wl_D {b0 : Nat} {dA : Nat → Nat} {cs : List zk_E} : va_D (fun q => b0 ≤ q) (zk_wl b0 dA cs) := by
  constructor
  · intro i j x y hi hj hxy
    rw [zk_wl_at] at hi hj
    cases h1 : cs[i]? with
    | none => rw [h1] at hi; cases hi
    | some e1 =>
      cases h2 : cs[j]? with
      | none => rw [h2] at hj; cases hj
      | some e2 =>
        rw [h1] at hi; rw [h2] at hj
        cases hi; cases hj
        dsimp only at hxy
        omega
  · intro k q hk
    rw [zk_wl_at] at hk
    cases h1 : cs[k]? with
    | none => rw [h1] at hk; cases hk
    | some e1 =>
      rw [h1] at hk
      cases hk
      exact Nat.le_add_right _ _
def zk_tys (dA : Nat → Nat) : List (ClassId × FieldType) := [(dA 0, .int), (dA 1, .long), (dA 2, .boolean), (dA 3, .object (zk_cn 0)), (dA 4, .object (zk_cn 1)), (dA 5, .object (zk_cn 3)), (dA 6, .object (zk_cn 7))]
def zk_tbl : List Cond := lw_tbl.filter goodWord
theorem zk_tb {w : Cond} (h : w ∈ lw_tbl) (hg : goodWord w = true) : w ∈ zk_tbl := List.mem_filter.mpr ⟨h, hg⟩
def zk_isN (w : Cond) : Bool := match w with
  | .fieldLinkNest .. => true
  | .methodLinkNest .. => true
  | _ => false
def zk_AOok (U : State) : Prop := va_AO (zk_cn 0) U ∧ va_AO (zk_cn 1) U ∧ va_AO (zk_cn 3) U ∧ va_AO (zk_cn 7) U
/-- what holds of a state's tables and of what it never changes -/
def zk_S (G : zk_G) (D : va_G) (dA : Nat → Nat) (U : State) : Prop :=
  va_K D zk_CL (zk_tys dA) U ∧ (∀ w ∈ lw_tbl, zk_isN w = true → va_Nw w U) ∧ zk_AOok U ∧
  va_Z "TickKeeper$Dates" "STARTS" "[I" (.ref (G.2.2 0)) (fun q => G.1 ≤ q) U U.heap ∧ va_Z "TickKeeper$Rule" "ALL_BITS" "[J" (.ref (G.2.2 1)) (fun q => G.1 ≤ q) U U.heap ∧
  (∀ a t x, G.2.1 a = some (t, x) → (∃ n f, t = 0 ∧ x = (n, .inl f) ∧ va_T .int a n (fun j => .int (f j)) (fun q => G.1 ≤ q) U U.heap) ∨ (∃ n f, t = 1 ∧ x = (n, .inr (.inl f)) ∧ va_T .long a n (fun j => .long (f j)) (fun q => G.1 ≤ q) U U.heap))
theorem zk_Nw_moved {w : Cond} (hw : zk_isN w = true) {u U : State} (hW : u.WarmedH U.vm) (h : va_Nw w u) : va_Nw w U := by
  cases w
  case fieldLinkNest => exact va_Nw.warmF hW h
  case methodLinkNest => exact va_Nw.warmM hW h
  all_goals (exact nomatch hw)
theorem zk_Nw_same {w : Cond} (hw : zk_isN w = true) {u U : State} (he : u.vm = U.vm) (h : va_Nw w u) : va_Nw w U := by
  cases w
  case fieldLinkNest => exact va_Nw.same rfl he h
  case methodLinkNest => exact va_Nw.same rfl he h
  all_goals (exact nomatch hw)
theorem zk_S_moved {G : zk_G} {D : va_G} {dA : Nat → Nat} {u U : State} (hW : u.WarmedH U.vm) (hq : ∀ a : Nat, a < u.heap.size → ¬ G.1 ≤ a → U.heap[a]? = u.heap[a]?) (h : zk_S G D dA u) : zk_S G D dA U := by
  obtain ⟨h1, h2, ⟨h3, h4, h5, h6⟩, h7, h8, h9⟩ := h
  refine ⟨va_K.moved hW.alike h1, fun w hw hn => zk_Nw_moved hn hW (h2 w hw hn), ⟨va_AO.moved hW.alike h3, va_AO.moved hW.alike h4, va_AO.moved hW.alike h5, va_AO.moved hW.alike h6⟩, va_Z.kept (va_Z.moved hW.alike h7) hq, va_Z.kept (va_Z.moved hW.alike h8) hq, fun a t x hx => ?_⟩
  rcases h9 a t x hx with ⟨n, f, e1, e2, e3⟩ | ⟨n, f, e1, e2, e3⟩
  · exact Or.inl ⟨n, f, e1, e2, va_T.kept (va_T.moved hW.alike e3) hq⟩
  · exact Or.inr ⟨n, f, e1, e2, va_T.kept (va_T.moved hW.alike e3) hq⟩
theorem zk_S_calling {G : zk_G} {D : va_G} {dA : Nat → Nat} {U : State} {g : JFrame} {mk : MethodId} {a : Array Value} (h : zk_S G D dA U) : zk_S G D dA (U.calling g mk a) := by
  obtain ⟨h1, h2, ⟨h3, h4, h5, h6⟩, h7, h8, h9⟩ := h
  have hv : U.vm.Alike (U.calling g mk a).vm := Vm.Alike.refl U.vm
  refine ⟨va_K.moved hv h1, fun w hw hn => zk_Nw_same (u := U) (U := U.calling g mk a) hn rfl (h2 w hw hn), ⟨va_AO.moved hv h3, va_AO.moved hv h4, va_AO.moved hv h5, va_AO.moved hv h6⟩, va_Z.moved hv h7, va_Z.moved hv h8, fun b t x hx => ?_⟩
  rcases h9 b t x hx with ⟨n, f, e1, e2, e3⟩ | ⟨n, f, e1, e2, e3⟩
  · exact Or.inl ⟨n, f, e1, e2, va_T.moved hv e3⟩
  · exact Or.inr ⟨n, f, e1, e2, va_T.moved hv e3⟩
def zk_P (G : zk_G) (D : va_G) (dA : Nat → Nat) (h : zk_H) (H : Heap) : Prop := va_P D zk_CL (zk_wl G.1 dA h.1) H ∧ H.size = G.1 + h.1.length
theorem zk_rd_at {G : zk_G} {dA : Nat → Nat} {h : zk_H} {a : Nat} {e : zk_E} (hr : zk_rd G h a = some e) : (zk_wl G.1 dA h.1)[a - G.1]? = some (a, zk_tr dA e) ∧ G.1 ≤ a ∧ G.1 + (a - G.1) = a := by
  unfold zk_rd at hr
  split at hr
  next => cases hr
  next hlt =>
    have hle : G.1 ≤ a := Nat.not_lt.mp hlt
    have e1 : G.1 + (a - G.1) = a := by omega
    refine ⟨?_, hle, e1⟩
    rw [zk_wl_at, hr, Option.map_some, e1]
theorem zk_wr_wl {G : zk_G} {dA : Nat → Nat} {h : zk_H} {a : Nat} {e : zk_E} (ha : G.1 + (a - G.1) = a) : (zk_wl G.1 dA h.1).set (a - G.1) (a, zk_tr dA e) = zk_wl G.1 dA (zk_wr G h a e).1 := by
  unfold zk_wr
  rw [← zk_wl_set, ha]
theorem zk_CL_at {ci : Nat} (h : ci < 10) : zk_CL[ci]? = some (zk_cn ci, zk_T ci, zk_N ci) := by
  unfold zk_CL
  rw [List.getElem?_map, List.getElem?_range h, Option.map_some]
theorem zk_ws_in {ci : Nat} (h : ci < 10) : (∀ w ∈ u_ws (zk_cn ci) (zk_T ci) (zk_N ci), w ∈ zk_tbl) ∧ Cond.instantiable (zk_cn ci) (zk_N ci) ∈ zk_tbl ∧ Cond.initialized (zk_cn ci) ∈ zk_tbl := by
  have h1 := List.all_eq_true.mp zk_ws_ok ci (List.mem_range.mpr h)
  simp only [Bool.and_eq_true, decide_eq_true_eq] at h1
  obtain ⟨⟨h2, h3⟩, h4⟩ := h1
  refine ⟨fun w hw => zk_tb (by have := List.all_eq_true.mp h2 w hw; simpa using this) ?_, zk_tb h3 rfl, zk_tb h4 rfl⟩
  unfold u_ws at hw
  obtain ⟨k, -, rfl⟩ := List.mem_map.mp hw
  unfold u_lay
  split <;> rfl
theorem zk_ty_at {ci k : Nat} (h : ci < 10) (hk : k < zk_N ci) : parseFieldDescriptor (zk_T ci k).2.2.1 = some (zk_ty ci k) ∧ (zk_T ci k).1 = zk_cn ci := by
  have h1 := List.all_eq_true.mp (List.all_eq_true.mp zk_ty_ok ci (List.mem_range.mpr h)) k (List.mem_range.mpr hk)
  simp only [Bool.and_eq_true, decide_eq_true_eq] at h1
  exact h1
theorem zk_nm_at {ci : Nat} (h : ci < 10) : ∀ a, a < zk_N ci → ∀ b, b < zk_N ci → a ≠ b → (zk_T ci a).2.1 ≠ (zk_T ci b).2.1 := by
  intro a ha b hb hne
  have h1 := List.all_eq_true.mp (List.all_eq_true.mp (List.all_eq_true.mp zk_nm_ok ci (List.mem_range.mpr h)) a (List.mem_range.mpr ha)) b (List.mem_range.mpr hb)
  simp only [Bool.or_eq_true, decide_eq_true_eq] at h1
  rcases h1 with h1 | h1
  · exact absurd h1 hne
  · exact h1
theorem zk_fl_sp {c i : Nat} {nest : Bool} {ci k : Nat} (h : zk_fl c i = some (nest, ci, k)) : (if nest then Cond.fieldLinkNest (zk_cn c) i (zk_T ci k).1 (zk_T ci k).2.1 (zk_T ci k).2.2.1 "TickKeeper" else Cond.fieldLink (zk_cn c) i (zk_T ci k).1 (zk_T ci k).2.1 (zk_T ci k).2.2.1) ∈ lw_tbl ∧ ci < 10 ∧ k < zk_N ci := by
  unfold zk_fl at h
  cases hf : zk_FL.find? (fun q => q.1 == c && q.2.1 == i) with
  | none => rw [hf] at h; cases h
  | some q =>
    rw [hf] at h
    have hp := List.find?_some hf
    have hm := List.mem_of_find?_eq_some hf
    have h1 := List.all_eq_true.mp zk_FL_ok q hm
    obtain ⟨q1, q2, q3, q4, q5, q6⟩ := q
    cases h
    simp only [Bool.and_eq_true, decide_eq_true_eq, beq_iff_eq] at hp h1
    obtain ⟨rfl, rfl⟩ := hp
    exact ⟨List.mem_of_getElem? h1.1.1, h1.1.2, h1.2⟩
theorem zk_kc_sp {c i ci : Nat} (h : zk_kc c i = some ci) : Cond.classLink (zk_cn c) i (zk_cn ci) ∈ zk_tbl ∧ ci < 10 := by
  unfold zk_kc at h
  cases hf : zk_KC.find? (fun q => q.1 == c && q.2.1 == i) with
  | none => rw [hf] at h; cases h
  | some q =>
    rw [hf] at h
    have hp := List.find?_some hf
    have hm := List.mem_of_find?_eq_some hf
    have h1 := List.all_eq_true.mp zk_KC_ok q hm
    obtain ⟨q1, q2, q3, q4⟩ := q
    cases h
    simp only [Bool.and_eq_true, decide_eq_true_eq, beq_iff_eq] at hp h1
    obtain ⟨rfl, rfl⟩ := hp
    exact ⟨zk_tb (List.mem_of_getElem? h1.1) rfl, h1.2⟩
theorem zk_ki_sp {c i : Nat} {v : Int32} (h : zk_ki c i = some v) : Cond.constant (zk_cn c) i v ∈ zk_tbl := by
  unfold zk_ki at h
  cases hf : zk_KI.find? (fun q => q.1 == c && q.2.1 == i) with
  | none => rw [hf] at h; cases h
  | some q =>
    rw [hf] at h
    have hp := List.find?_some hf
    have hm := List.mem_of_find?_eq_some hf
    have h1 := List.all_eq_true.mp zk_KI_ok q hm
    obtain ⟨q1, q2, q3, q4⟩ := q
    cases h
    simp only [Bool.and_eq_true, decide_eq_true_eq, beq_iff_eq] at hp h1
    obtain ⟨rfl, rfl⟩ := hp
    exact zk_tb (List.mem_of_getElem? h1) rfl
theorem zk_kl_sp {c i : Nat} {v : Int64} (h : zk_kl c i = some v) : Cond.constantLong (zk_cn c) i v ∈ zk_tbl := by
  unfold zk_kl at h
  cases hf : zk_KL.find? (fun q => q.1 == c && q.2.1 == i) with
  | none => rw [hf] at h; cases h
  | some q =>
    rw [hf] at h
    have hp := List.find?_some hf
    have hm := List.mem_of_find?_eq_some hf
    have h1 := List.all_eq_true.mp zk_KL_ok q hm
    obtain ⟨q1, q2, q3, q4⟩ := q
    cases h
    simp only [Bool.and_eq_true, decide_eq_true_eq, beq_iff_eq] at hp h1
    obtain ⟨rfl, rfl⟩ := hp
    exact zk_tb (List.mem_of_getElem? h1) rfl
theorem zk_ob_sp {c i : Nat} (h : zk_ob c i = true) : Cond.methodLink (zk_cn c) i Lib.objectInit ∈ zk_tbl := by
  unfold zk_ob at h
  cases hf : zk_OL.find? (fun q => q.1 == c && q.2.1 == i) with
  | none => rw [hf] at h; cases h
  | some q =>
    have hp := List.find?_some hf
    have hm := List.mem_of_find?_eq_some hf
    have h1 := List.all_eq_true.mp zk_OL_ok q hm
    obtain ⟨q1, q2, q3⟩ := q
    simp only [Bool.and_eq_true, decide_eq_true_eq, beq_iff_eq] at hp h1
    obtain ⟨rfl, rfl⟩ := hp
    exact zk_tb (List.mem_of_getElem? h1) rfl
theorem zk_fit_sp {ty : FieldType} {v : Value} (h : zk_fit ty v = true) : narrow ty v = v ∧ fits ty v = true := by
  unfold zk_fit at h
  split at h
  next => exact ⟨rfl, rfl⟩
  next x =>
    have h1 := of_decide_eq_true h
    rcases h1 with rfl | rfl <;> exact ⟨by decide, by decide⟩
  next => exact ⟨rfl, rfl⟩
  next => exact ⟨rfl, rfl⟩
  next => exact ⟨rfl, rfl⟩
  next => cases h
theorem zk_in_vp {i : Int32} {n : Nat} (h : zk_inb i n = true) : vp_in i n := by
  unfold zk_inb at h
  simp only [Bool.and_eq_true, decide_eq_true_eq] at h
  exact vp_in_iff.mpr h
end
section
/-! the small machine's instructions on the heap are the JVM's -/
section ZKH
variable {p : Program} {l : Launch} {e : Env} {R : Room} {s : State} {m : MethodId} {args : Array Value} {below : List Frame} {meth : Method} {c : Code} {H : Heap} {locs : List Loc} {cells slots : Nat} {Q : State → Prop} {cc : ByteArray} {pc : Nat} {ls : Array Slot} {rest st' : List Value} {G : zk_G} {D : va_G} {dA : Nat → Nat} {h h' : zk_H} {cy : Nat} {a : Nat} {i : Int32}
/-- the rest of a run, behind an instruction that ends with h' -/
def zk_K (p : Program) (l : Launch) (e : Env) (R : Room) (s : State) (m : MethodId) (args : Array Value) (below : List Frame) (meth : Method) (c : Code) (Q : State → Prop) (G : zk_G) (D : va_G) (dA : Nat → Nat) (h' : zk_H) (cells slots : Nat) (g : JFrame) : Prop :=
  ∀ (H' : Heap) (locs' : List Loc), zk_P G D dA h' H' → va_S (fun q => G.1 ≤ q) s.heap H' locs' → W p l e R s m args below meth c H' locs' cells slots Q g
theorem zk_get_ok (hx : p.tables.exec = Jvm.exec) (hb : c.code = cc) (hown : s.vm.findClass (zk_cn cy) = some m.cls) (hts : ∀ w ∈ zk_tbl, w.before args s = true) (hS : zk_S G D dA s) (hP : zk_P G D dA h H) {ix : Nat} {nest : Bool} {ci k : Nat} (hf : zk_fl cy ix = some (nest, ci, k)) {fs : List Value} (hr : zk_rd G h a = some (.inr (ci, fs))) {v : Value} (hv : fs[k]? = some v) (hd : decode cc pc = .ok (.getfield ix, 3))
    (kk : W p l e R s m args below meth c H locs cells slots Q (F0 m (pc + 3) ls (v :: rest))) : W p l e R s m args below meth c H locs cells slots Q (F0 m pc ls (.ref a :: rest)) := by
  obtain ⟨h1, h2, h3⟩ := zk_fl_sp hf
  obtain ⟨q1, q2, q3⟩ := zk_rd_at (dA := dA) hr
  cases nest with
  | true => exact va_getN hx hb hts (zk_ws_in h2).1 hown hS.1 hP.1 _ q1 (zk_CL_at h2) k h3 (va_Nw.use rfl (hS.2.1 _ h1 rfl)) (fun _ z => z) hv hd kk
  | false => exact va_get hx hb hts (zk_ws_in h2).1 hown hS.1 hP.1 _ q1 (zk_CL_at h2) k h3 (hts _ (zk_tb h1 rfl)) (fun _ z => z) hv hd kk
theorem zk_wr_len {x : zk_E} : (zk_wr G h a x).1.length = h.1.length := by unfold zk_wr; rw [List.length_set]
theorem zk_wr_P (hP : zk_P G D dA h H) {x0 x : zk_E} (hr : zk_rd G h a = some x0) {H1 : Heap} (he : va_at D zk_CL (a, zk_tr dA x) H1) (z : H1.size = H.size) (oq : ∀ q : Nat, q ≠ a → H1[q]? = H[q]?) : zk_P G D dA (zk_wr G h a x) H1 := by
  obtain ⟨q1, q2, q3⟩ := zk_rd_at (dA := dA) hr
  refine ⟨?_, by rw [z, hP.2, zk_wr_len]⟩
  rw [← zk_wr_wl q3]
  exact hP.1.set zk_wl_D q1 he oq
theorem zk_wr_F (hF : va_S (fun q => G.1 ≤ q) s.heap H locs) {x0 : zk_E} (hr : zk_rd G h a = some x0) {H1 : Heap} {k : Nat} (z : H1.size = H.size) (oq : ∀ q : Nat, q ≠ a → H1[q]? = H[q]?) : va_S (fun q => G.1 ≤ q) s.heap H1 (locs ++ [⟨a, k⟩]) := hF.put z oq (zk_rd_at (dA := fun _ => 0) hr).2.1
theorem zk_put_ok (hx : p.tables.exec = Jvm.exec) (hb : c.code = cc) (hown : s.vm.findClass (zk_cn cy) = some m.cls) (hts : ∀ w ∈ zk_tbl, w.before args s = true) (hS : zk_S G D dA s) (hP : zk_P G D dA h H) (hF : va_S (fun q => G.1 ≤ q) s.heap H locs) {ini : Bool} (hini : ini = true → meth.name = "<init>") {ix : Nat} {nest : Bool} {ci k : Nat} (hf : zk_fl cy ix = some (nest, ci, k)) {fs : List Value} (hr : zk_rd G h a = some (.inr (ci, fs))) {v : Value} (hl : k < fs.length) (hpm : zk_pm cy ini nest ci k = true) (hfit : zk_fit (zk_ty ci k) v = true) (hd : decode cc pc = .ok (.putfield ix, 3))
    (kk : zk_K p l e R s m args below meth c Q G D dA (zk_wr G h a (.inr (ci, fs.set k v))) cells slots (F0 m (pc + 3) ls rest)) : W p l e R s m args below meth c H locs cells slots Q (F0 m pc ls (v :: .ref a :: rest)) := by
  obtain ⟨h1, h2, h3⟩ := zk_fl_sp hf
  obtain ⟨q1, q2, q3⟩ := zk_rd_at (dA := dA) hr
  obtain ⟨f1, f2⟩ := zk_fit_sp hfit
  obtain ⟨t1, t2⟩ := zk_ty_at h2 h3
  have hty : ∀ k, k < zk_N ci → parseFieldDescriptor (zk_T ci k).2.2.1 = some (zk_ty ci k) := fun k hk => (zk_ty_at h2 hk).1
  have hin := (zk_ws_in h2).1
  have hap := va_apart (own := zk_cn cy) hts hin (zk_ty ci) hty (zk_nm_at h2) hS.1 (zk_CL_at h2)
  obtain ⟨r, g1, cell, c1, c2, c3, c4⟩ := hP.1 _ _ q1
  have hr2 : r = (zk_cn ci, zk_T ci, zk_N ci) := Option.some.inj (g1.symm.trans (zk_CL_at h2))
  subst hr2
  obtain ⟨hSl, hfc, kC, hkC, hkind⟩ := hS.1.1 ci _ (zk_CL_at h2)
  obtain ⟨cf, kf, fi, f, hi, hsl⟩ := hSl k h3
  have hst := (u_facts hfc hkC (u_lays hts hin h3) hi).1
  have hlay := hts _ (hin _ (u_in_lay h3))
  have hlt : f.slot < cell.slots.size := by rw [hsl]; exact k2_hasslot (c4 k h3)
  have fin : ∀ H' : Heap, H'[a]? = some (cell.setSlot f.slot v) → H'.size = H.size → (∀ q, q ≠ a → H'[q]? = H[q]?) → W p l e R s m args below meth c H' (locs ++ [⟨a, f.slot⟩]) cells slots Q (F0 m (pc + 3) ls rest) := by
    intro H' e1 e2 e3
    rw [hsl] at e1
    exact kk H' _ (zk_wr_P hP hr ⟨_, zk_CL_at h2, t_OB.to (V := updV (vp_V fs) k v) ⟨_, e1, c2, c3, t_set c4 hap h3 v⟩ (fun j _ => vp_updV_set hl v j)⟩ e2 e3) (zk_wr_F hF hr e2 e3)
  unfold u_lay at hlay
  unfold zk_pm at hpm
  by_cases hfin : (zk_T ci k).2.2.2 = true
  · rw [if_pos hfin] at hlay hpm
    simp only [Bool.and_eq_true, decide_eq_true_eq, Bool.not_eq_true'] at hpm
    obtain ⟨⟨p1, p2⟩, p3⟩ := hpm
    subst p2
    subst p3
    have hcf : m.cls = cf := by
      obtain ⟨_, _, c', _, _, _, -, -, hf', -, -, -, hown2, -⟩ := Cond.laysFinal_spec hlay
      have e1 : c' = cf := by have := hi.symm.trans hf'; simp at this; exact this.1.symm
      rw [t2] at hown2
      rw [← e1]; exact Option.some.inj (hown.symm.trans hown2)
    exact W.putFinK hx hb hown (hts _ (zk_tb h1 rfl)) hi hst hcf (hini p1) (by rw [c2]; exact u_fits hfc hkC hkind (Or.inr hlay) hi t1 f1 f2) c1 c3 hlt rfl rfl hd fin
  · rw [if_neg hfin] at hlay
    have h6 := u_store hfc hkC hkind hlay hi t1 f1 f2
    cases nest with
    | true => exact va_WputK hx hb (f := f) hown (va_Nw.use rfl (hS.2.1 _ h1 rfl)) hi hst (by rw [c2]; exact h6) c1 c3 hlt rfl rfl hd fin
    | false => exact W.putK hx hb (f := f) ⟨hown, hts _ (zk_tb h1 rfl), ⟨_, _, _, hi⟩, hst⟩ (by rw [c2]; exact h6) c1 c3 hlt rfl rfl hd fin
theorem zk_sz {cA n : Nat} {f : Nat → Value} (hin : vp_in i n) : ¬ (i < 0 ∨ (arrV cA n f).slots.size ≤ i.toNatClampNeg) := by rw [arrV_size]; exact hin
theorem zk_iast_ok (hx : p.tables.exec = Jvm.exec) (hb : c.code = cc) (hS : zk_S G D dA s) (hP : zk_P G D dA h H) (hF : va_S (fun q => G.1 ≤ q) s.heap H locs) {n : Nat} {f : Nat → Int32} {x : Int32} (hr : zk_rd G h a = some (.inl (0, n, .inl f))) (hi : zk_inb i n = true) (hd : decode cc pc = .ok (.iastore, 1))
    (kk : zk_K p l e R s m args below meth c Q G D dA (zk_wr G h a (.inl (0, n, .inl (upd f i.toNatClampNeg x)))) cells slots (F0 m (pc + 1) ls rest)) : W p l e R s m args below meth c H locs cells slots Q (F0 m pc ls (.int x :: .int i :: .ref a :: rest)) := by
  obtain ⟨q1, q2, q3⟩ := zk_rd_at (dA := dA) hr
  refine W.iast hx hb (hP.1 _ _ q1) ((hS.1.2 0 _ rfl).1 n (fun j => .int (f j))) (fun q => by cases q) (zk_sz (zk_in_vp hi)) rfl rfl hd fun H1 e z oq => ?_
  refine kk H1 _ (zk_wr_P hP hr ?_ z oq) (zk_wr_F hF hr z oq)
  show H1[a]? = some (vp_cell (dA 0) (n, .inl (upd f i.toNatClampNeg x)))
  rw [e]
  show some ((vp_cell (dA 0) (n, .inl f)).setSlot _ _) = _
  rw [vp_cell_i, vp_cell_i, arrV_store]
  congr 2
  funext q
  by_cases hq : q = i.toNatClampNeg
  · subst hq; simp [updV, upd]
  · simp [updV, upd, hq]
theorem zk_zast_ok (hx : p.tables.exec = Jvm.exec) (hb : c.code = cc) (hS : zk_S G D dA s) (hP : zk_P G D dA h H) (hF : va_S (fun q => G.1 ≤ q) s.heap H locs) {n : Nat} {f : Nat → Int32} {x : Int32} (hx1 : x = 0 ∨ x = 1) (hr : zk_rd G h a = some (.inl (2, n, .inl f))) (hi : zk_inb i n = true) (hd : decode cc pc = .ok (.bastore, 1))
    (kk : zk_K p l e R s m args below meth c Q G D dA (zk_wr G h a (.inl (2, n, .inl (upd f i.toNatClampNeg x)))) cells slots (F0 m (pc + 1) ls rest)) : W p l e R s m args below meth c H locs cells slots Q (F0 m pc ls (.int x :: .int i :: .ref a :: rest)) := by
  obtain ⟨q1, q2, q3⟩ := zk_rd_at (dA := dA) hr
  have hn : narrow .boolean (.int x) = .int x := by rcases hx1 with rfl | rfl <;> decide
  refine W.zast hx hb (hP.1 _ _ q1) ((hS.1.2 2 _ rfl).1 n (fun j => .int (f j))) (fun q => by cases q) (zk_sz (zk_in_vp hi)) rfl rfl hd fun H1 e z oq => ?_
  refine kk H1 _ (zk_wr_P hP hr ?_ z oq) (zk_wr_F hF hr z oq)
  show H1[a]? = some (vp_cell (dA 2) (n, .inl (upd f i.toNatClampNeg x)))
  rw [e, hn]
  show some ((vp_cell (dA 2) (n, .inl f)).setSlot _ _) = _
  rw [vp_cell_i, vp_cell_i, arrV_store]
  congr 2
  funext q
  by_cases hq : q = i.toNatClampNeg
  · subst hq; simp [updV, upd]
  · simp [updV, upd, hq]
theorem zk_last_ok (hx : p.tables.exec = Jvm.exec) (hb : c.code = cc) (hS : zk_S G D dA s) (hP : zk_P G D dA h H) (hF : va_S (fun q => G.1 ≤ q) s.heap H locs) {n : Nat} {f : Nat → Int64} {x : Int64} (hr : zk_rd G h a = some (.inl (1, n, .inr (.inl f)))) (hi : zk_inb i n = true) (hd : decode cc pc = .ok (.lastore, 1))
    (kk : zk_K p l e R s m args below meth c Q G D dA (zk_wr G h a (.inl (1, n, .inr (.inl (vp_updL f i.toNatClampNeg x))))) cells slots (F0 m (pc + 1) ls rest)) : W p l e R s m args below meth c H locs cells slots Q (F0 m pc ls (.long x :: .int i :: .ref a :: rest)) := by
  obtain ⟨q1, q2, q3⟩ := zk_rd_at (dA := dA) hr
  refine W.last hx hb (hP.1 _ _ q1) ((hS.1.2 1 _ rfl).1 n (fun j => .long (f j))) (fun q => by cases q) (zk_sz (zk_in_vp hi)) rfl rfl hd fun H1 e z oq => ?_
  refine kk H1 _ (zk_wr_P hP hr ?_ z oq) (zk_wr_F hF hr z oq)
  show H1[a]? = some (vp_cell (dA 1) (n, .inr (.inl (vp_updL f i.toNatClampNeg x))))
  rw [e]
  show some ((vp_cell (dA 1) (n, .inr (.inl f))).setSlot _ _) = _
  rw [vp_cell_l, vp_cell_l, arrV_store]
  congr 2
  funext q
  by_cases hq : q = i.toNatClampNeg
  · subst hq; simp [updV, vp_updL]
  · simp [updV, vp_updL, hq]
theorem zk_tys_at {t : Nat} (h3 : 3 ≤ t) (h6 : t ≤ 6) : (zk_tys dA)[t]? = some (dA t, .object (zk_cn (zk_ac t))) ∧ zk_ac t < 10 := by
  rcases (show t = 3 ∨ t = 4 ∨ t = 5 ∨ t = 6 by omega) with rfl | rfl | rfl | rfl <;> exact ⟨rfl, by decide⟩
theorem zk_aast_ok (hx : p.tables.exec = Jvm.exec) (hb : c.code = cc) (hS : zk_S G D dA s) (hP : zk_P G D dA h H) (hF : va_S (fun q => G.1 ≤ q) s.heap H locs) {t n v : Nat} {f : Nat → Option Nat} {vs : List Value} (h3 : 3 ≤ t) (h6 : t ≤ 6) (hr : zk_rd G h a = some (.inl (t, n, .inr (.inr (.inr (.inr f)))))) (hv : zk_rd G h v = some (.inr (zk_ac t, vs))) (hi : zk_inb i n = true) (hd : decode cc pc = .ok (.aastore, 1))
    (kk : zk_K p l e R s m args below meth c Q G D dA (zk_wr G h a (.inl (t, n, .inr (.inr (.inr (.inr (va_up f i.toNatClampNeg (some v)))))))) cells slots (F0 m (pc + 1) ls rest)) : W p l e R s m args below meth c H locs cells slots Q (F0 m pc ls (.ref v :: .int i :: .ref a :: rest)) := by
  obtain ⟨q1, q2, q3⟩ := zk_rd_at (dA := dA) hr
  obtain ⟨v1, v2, v3⟩ := zk_rd_at (dA := dA) hv
  obtain ⟨t1, t2⟩ := zk_tys_at (dA := dA) h3 h6
  have hin := zk_in_vp hi
  have hlt : i.toNatClampNeg < n := Nat.not_le.mp fun q => hin (Or.inr q)
  have h0 : ¬ i < 0 := fun q => hin (Or.inl q)
  obtain ⟨r', hr', cellV, g1, g2, g3, -⟩ := hP.1 _ _ v1
  have hcls := (hS.1.1 _ _ (zk_CL_at t2)).2
  obtain ⟨kA, comp, k1, k2, k3, -⟩ := (hS.1.2 _ _ t1).2
  have hcomp : comp = D.1 (zk_ac t) := Option.some.inj (k3.symm.trans hcls.1)
  subst hcomp
  obtain ⟨kC, hkC, -⟩ := hcls.2
  refine W.aast hx hb (hP.1 _ _ q1) (fun q h => by cases h) (fun h => by cases h) k1 k2 rfl hkC ⟨h0, by show _ < (arrV _ _ _).slots.size; rw [arrV_size]; exact hlt⟩ g1 (fun q h => by rw [g3] at h; cases h) (by rw [g2]; exact hkC) (by rw [g2]; exact va_assign hcls) rfl rfl hd fun H1 e z oq => ?_
  refine kk H1 _ (zk_wr_P hP hr ?_ z oq) (zk_wr_F hF hr z oq)
  show H1[a]? = some (vp_cell (dA t) (n, .inr (.inr (.inr (.inr (va_up f i.toNatClampNeg (some v)))))))
  rw [e]
  show some ((vp_cell (dA t) (n, .inr (.inr (.inr (.inr f))))).setSlot _ _) = _
  rw [vp_cell_q, vp_cell_q, arrV_store]
  congr 2
  funext q
  by_cases hq : q = i.toNatClampNeg
  · subst hq; simp [updV, va_up, va_rf]
  · simp [updV, va_up, hq]
theorem zk_al_P (hP : zk_P G D dA h H) {x : zk_E} {n : Nat} {H1 : Heap} (he : va_at D zk_CL (zk_nx G h, zk_tr dA x) H1) (z : H1.size = H.size + 1) (oq : ∀ q : Nat, q < H.size → H1[q]? = H[q]?) : zk_P G D dA (zk_al h x n) H1 := by
  refine ⟨?_, by rw [z, hP.2]; unfold zk_al; simp; omega⟩
  show va_P D zk_CL (zk_wl G.1 dA (h.1 ++ [x])) H1
  rw [zk_wl_app]
  refine (hP.1.kept (fun k q hk => oq q.1 ((hP.1 k q hk).lt))).app (fun k q hk => ?_)
  have hz : k < 1 := (List.getElem?_eq_some_iff.mp hk).1
  rw [show k = 0 by omega] at hk
  cases hk
  exact he
theorem zk_al_F (hF : va_S (fun q => G.1 ≤ q) s.heap H locs) {H1 : Heap} (z : H1.size = H.size + 1) (oq : ∀ q : Nat, q < H.size → H1[q]? = H[q]?) : va_S (fun q => G.1 ≤ q) s.heap H1 locs := ⟨Nat.le_trans hF.1 (by omega), fun q h1 h2 => (oq q (Nat.lt_of_lt_of_le h1 hF.1)).trans (hF.2.1 q h1 h2), hF.2.2⟩
theorem zk_df_at {ci j : Nat} (h : ci < 10) (hj : j < zk_N ci) : defaultValue (zk_ty ci j) = vp_V (zk_df ci) j := by
  have hl : (zk_tyl.getD ci []).length = zk_N ci := by
    have : (List.range 10).all (fun ci => decide ((zk_tyl.getD ci []).length = zk_N ci)) = true := by decide +kernel
    have h1 := List.all_eq_true.mp this ci (List.mem_range.mpr h)
    simpa using h1
  rw [← hl] at hj
  unfold zk_ty vp_V zk_df
  generalize zk_tyl.getD ci [] = tl at hj
  simp [List.getD, List.getElem?_eq_getElem hj]
theorem zk_new_ok (hx : p.tables.exec = Jvm.exec) (hb : c.code = cc) (hown : s.vm.findClass (zk_cn cy) = some m.cls) (hts : ∀ w ∈ zk_tbl, w.before args s = true) (hS : zk_S G D dA s) (hP : zk_P G D dA h H) (hF : va_S (fun q => G.1 ≤ q) s.heap H locs) {ix ci : Nat} (hk : zk_kc cy ix = some ci) (hRc : cells + 1 ≤ R.cells) (hRs : slots + zk_N ci ≤ R.slots) (hd : decode cc pc = .ok (.new ix, 3))
    (kk : zk_K p l e R s m args below meth c Q G D dA (zk_al h (.inr (ci, zk_df ci)) (zk_N ci)) (cells + 1) (slots + zk_N ci) (F0 m (pc + 3) ls (.ref (zk_nx G h) :: rest))) : W p l e R s m args below meth c H locs cells slots Q (F0 m pc ls rest) := by
  obtain ⟨h1, h2⟩ := zk_kc_sp hk
  obtain ⟨w1, w2, w3⟩ := zk_ws_in h2
  have hKn := hS.1.1 ci _ (zk_CL_at h2)
  refine W.newcK hx hb hown (hts _ h1) (hts _ w2) (hts _ w3) rfl hd hRc hRs hKn.2.1 hP.2 fun H1 kC hkC e1 z1 o1 => ?_
  have hty : ∀ k, k < zk_N ci → parseFieldDescriptor (zk_T ci k).2.2.1 = some (zk_ty ci k) := fun k hk => (zk_ty_at h2 hk).1
  refine kk H1 locs (zk_al_P hP ⟨_, zk_CL_at h2, (u_born (zk_ty ci) hts w1 hKn hkC e1 hty).to (fun j hj => ?_)⟩ (by rw [z1, hP.2]) (fun q hq => o1 q (by rw [← hP.2]; exact hq))) (zk_al_F hF (by rw [z1, hP.2]) (fun q hq => o1 q (by rw [← hP.2]; exact hq)))
  exact zk_df_at h2 hj
theorem zk_nn {n : Int32} (h : 0 ≤ n.toInt) : ¬ n < 0 := by
  intro q
  have := Int32.lt_iff_toInt_lt.mp q
  simp at this
  omega
theorem zk_cn1 {n : Int32} (h : n.toInt ≤ 65536) : n.toNatClampNeg ≤ 65536 := by
  show n.toInt.toNat ≤ 65536
  omega
theorem zk_newa_ok (hx : p.tables.exec = Jvm.exec) (hb : c.code = cc) (hts : ∀ w ∈ zk_tbl, w.before args s = true) (hS : zk_S G D dA s) (hP : zk_P G D dA h H) (hF : va_S (fun q => G.1 ≤ q) s.heap H locs) {n : Int32} (hn : 0 ≤ n.toInt) (hn2 : n.toInt ≤ 65536) {aty : ArrayType} {ty : FieldType} {t : Nat} {x : vp_A} (hty : newarray.typeOf aty = ty) (hw : Cond.arrayClass ty ∈ zk_tbl) (ht : (zk_tys dA)[t]? = some (dA t, ty)) (hra : ∀ cA : ClassId, va_RA s (dA t) ty → s.vm.findClass ("[" ++ ty.toString) = some cA → cA = dA t) (hbt : componentBytes ty ≤ 8) (hcell : vp_cell (dA t) x = arrV (dA t) n.toNatClampNeg (fun _ => defaultValue ty)) (hRc : cells + 1 ≤ R.cells) (hRs : slots + n.toNatClampNeg ≤ R.slots) (hd : decode cc pc = .ok (.newarray aty, 2))
    (kk : zk_K p l e R s m args below meth c Q G D dA (zk_al h (.inl (t, x)) n.toNatClampNeg) (cells + 1) (slots + n.toNatClampNeg) (F0 m (pc + 2) ls (.ref (zk_nx G h) :: rest))) : W p l e R s m args below meth c H locs cells slots Q (F0 m pc ls (.int n :: rest)) := by
  subst hty
  have hb2 : n.toNatClampNeg * componentBytes (newarray.typeOf aty) ≤ 536870912 := by
    have h1 := zk_cn1 hn2
    have h2 := Nat.mul_le_mul h1 hbt
    omega
  refine va_newaK hx hb (hts _ hw) rfl hd rfl (zk_nn hn) rfl hb2 hRc hRs hP.2 fun H1 cA e1 z1 o1 hAr hNm => ?_
  have hcA : cA = dA t := hra cA (hS.1.2 _ _ ht).2 hNm
  subst hcA
  refine kk H1 locs (zk_al_P hP ?_ (by rw [z1, hP.2]) (fun q hq => o1 q (by rw [← hP.2]; exact hq))) (zk_al_F hF (by rw [z1, hP.2]) (fun q hq => o1 q (by rw [← hP.2]; exact hq)))
  show H1[zk_nx G h]? = some (vp_cell (dA t) x)
  rw [hcell]
  exact e1
theorem zk_anew_ok (hx : p.tables.exec = Jvm.exec) (hb : c.code = cc) (hown : s.vm.findClass (zk_cn cy) = some m.cls) (hts : ∀ w ∈ zk_tbl, w.before args s = true) (hS : zk_S G D dA s) (hP : zk_P G D dA h H) (hF : va_S (fun q => G.1 ≤ q) s.heap H locs) {n : Int32} (hn : 0 ≤ n.toInt) (hn2 : n.toInt ≤ 65536) {ix ci t : Nat} (hk : zk_kc cy ix = some ci) (ht : zk_at ci = some t) (hRc : cells + 1 ≤ R.cells) (hRs : slots + n.toNatClampNeg ≤ R.slots) (hd : decode cc pc = .ok (.anewarray ix, 3))
    (kk : zk_K p l e R s m args below meth c Q G D dA (zk_al h (.inl (t, n.toNatClampNeg, .inr (.inr (.inr (.inr (fun _ => none)))))) n.toNatClampNeg) (cells + 1) (slots + n.toNatClampNeg) (F0 m (pc + 3) ls (.ref (zk_nx G h) :: rest))) : W p l e R s m args below meth c H locs cells slots Q (F0 m pc ls (.int n :: rest)) := by
  obtain ⟨h1, h2⟩ := zk_kc_sp hk
  obtain ⟨hao, htt⟩ : va_AO (zk_cn ci) s ∧ (zk_tys dA)[t]? = some (dA t, .object (zk_cn ci)) := by
    obtain ⟨a0, a1, a3, a7⟩ := hS.2.2.1
    unfold zk_at at ht
    split at ht
    next => cases ht; exact ⟨a0, rfl⟩
    next => cases ht; exact ⟨a1, rfl⟩
    next => cases ht; exact ⟨a3, rfl⟩
    next => cases ht; exact ⟨a7, rfl⟩
    next => cases ht
  have hb2 : n.toNatClampNeg * 4 ≤ 536870912 := by
    have h1 := zk_cn1 hn2
    omega
  refine W.anew hx hb hown (hts _ h1) (va_AO.use hao) rfl hd rfl (zk_nn hn) hb2 hRc hRs fun cA kA comp f1 f2 f3 f4 => ?_
  generalize hH1 : H.push ({ cls := cA, slots := Array.replicate n.toNatClampNeg .null, vm := .none } : Cell) = H1
  have z1 : H1.size = H.size + 1 := by rw [← hH1, Array.size_push]
  have e1 : H1[H.size]? = some (arrV cA n.toNatClampNeg (fun _ => .null)) := by rw [← hH1, Array.getElem?_push_size, ← arrV_new]
  have o1 : ∀ q : Nat, q < H.size → H1[q]? = H[q]? := fun q hq => by rw [← hH1, Array.getElem?_push, if_neg (Nat.ne_of_lt hq)]
  obtain ⟨kA', comp', k1, k2, k3, k4⟩ := (hS.1.2 _ _ htt).2
  have hcA : cA = dA t := Option.some.inj (f1.symm.trans k4)
  subst hcA
  have hnx : zk_nx G h = H.size := hP.2.symm
  rw [← hnx]
  refine kk H1 locs (zk_al_P hP ?_ z1 o1) (zk_al_F hF z1 o1)
  show H1[zk_nx G h]? = some (vp_cell (dA t) (n.toNatClampNeg, .inr (.inr (.inr (.inr (fun _ => none))))))
  rw [vp_cell_q, hnx]
  exact e1
theorem zk_copy_ok (hx : p.tables.exec = Jvm.exec) (hb : c.code = cc) (hml : c.maxLocals = ls.size) (hown : s.vm.findClass "java/util/Arrays" = some m.cls) (hts : ∀ w ∈ zk_tbl, w.before args s = true) (hS : zk_S G D dA s) (hP : zk_P G D dA h H) (hF : va_S (fun q => G.1 ≤ q) s.heap H locs) {b n0 n1 : Nat} {f g : Nat → Int32} {sp dp n : Int32} (hr0 : zk_rd G h b = some (.inl (0, n0, .inl f))) (hr1 : zk_rd G h a = some (.inl (0, n1, .inl g))) (h1 : 0 ≤ sp.toInt) (h2 : 0 ≤ dp.toInt) (h3 : 0 ≤ n.toInt) (h4 : sp.toInt + n.toInt ≤ n0) (h5 : dp.toInt + n.toInt ≤ n1) (hfr : 1 ≤ R.frames) (hlo : zk_sum rest + 18 ≤ R.locals) (hd : decode cc pc = .ok (.invokestatic 150, 3))
    (kk : zk_K p l e R s m args below meth c Q G D dA (zk_wr G h a (.inl (0, n1, .inl (va_cpy f g sp.toNatClampNeg dp.toNatClampNeg n.toNatClampNeg)))) cells slots (F0 m (pc + 3) ls rest)) : W p l e R s m args below meth c H locs cells slots Q (F0 m pc ls (.int n :: .int dp :: .ref a :: .int sp :: .ref b :: rest)) := by
  obtain ⟨q1, q2, q3⟩ := zk_rd_at (dA := dA) hr0
  obtain ⟨p1, p2, p3⟩ := zk_rd_at (dA := dA) hr1
  have nn : ∀ z : Int32, 0 ≤ z.toInt → z.toInt = (z.toNatClampNeg : Int) := fun z hz => by
    show z.toInt = ((z.toInt.toNat : Nat) : Int)
    omega
  have hc0 : H[b]? = some (vp_cell (dA 0) (n0, .inl f)) := hP.1 _ _ q1
  have hc1 : H[a]? = some (vp_cell (dA 0) (n1, .inl g)) := hP.1 _ _ p1
  have hw1 : (Cond.methodLink "java/util/Arrays" 150 arraycopyName).before args s = true := hts _ (zk_tb (List.mem_of_getElem? (i := 310) (by decide +kernel)) rfl)
  have hw2 : (Cond.native arraycopyName).before args s = true := hts _ (zk_tb (by decide +kernel) rfl)
  have hw3 : (Cond.static arraycopyName).before args s = true := hts _ (zk_tb (by decide +kernel) rfl)
  have hw4 : (Cond.initialized "java/lang/System").before args s = true := hts _ (zk_tb (by decide +kernel) rfl)
  have hsp : sp.toNatClampNeg + n.toNatClampNeg ≤ n0 := by have := nn sp h1; have := nn n h3; omega
  intro T hT X
  obtain ⟨-, k0, hk0, cm0, hkk0⟩ := (hS.1.2 0 _ rfl).1 n0 (fun j => .int (f j))
  obtain ⟨-, k1, hk1, cm1, hkk1⟩ := (hS.1.2 0 _ rfl).1 n1 (fun j => .int (g j))
  obtain ⟨vm', X', step⟩ := X.arraycopy hx hown hw1 hw2 hw3 hw4 (src := b) (dst := a) (cs := vp_cell (dA 0) (n0, .inl f)) (cd := vp_cell (dA 0) (n1, .inl g)) (srcPos := sp) (destPos := dp) (n := n) (by rw [hT]; exact hc0) (by rw [hT]; exact hc1)
    (fun _ h => by cases h) (fun _ h => by cases h) (fun h => by cases h) (fun h => by cases h) hk0 hk1 hkk0 hkk1 (by simp [refKind]) (zk_nn h1) (zk_nn h2) (zk_nn h3)
    (by show ¬ _ > ((arrV (dA 0) n0 (fun j => .int (f j))).slots.size : Int); rw [arrV_size]; omega)
    (by show ¬ _ > ((arrV (dA 0) n1 (fun j => .int (g j))).slots.size : Int); rw [arrV_size]; omega)
    (fun vm₁ _ i hi => by
      have e : (vp_cell (dA 0) (n0, .inl f)).slots.getD (sp.toNatClampNeg + i) .null = .int (f (sp.toNatClampNeg + i)) := by
        show (arrV (dA 0) n0 (fun j => .int (f j))).slots.getD _ _ = _
        rw [Array.getD_eq_getD_getElem?, arrV_read _ _ (by omega)]
        rfl
      refine ⟨?_, ?_⟩
      · rw [e]
        rfl
      · rw [e]
        exact trivial)
    (g := F0 m pc ls (.int n :: .int dp :: .ref a :: .int sp :: .ref b :: rest)) rfl (by rw [hml]) (rest := rest) rfl (by rw [hb]; exact hd) hfr (by
      show 2 * 0 + (rest.map fun v => v.category).sum + (nativeFrameWords "java/lang/System" "arraycopy" 5 + 11) ≤ _
      have e2 : nativeFrameWords "java/lang/System" "arraycopy" 5 = 7 := by decide +kernel
      rw [e2]
      have e3 : (rest.map fun v => v.category).sum + 18 ≤ R.locals := hlo
      omega)
  have e1 : copied (vp_cell (dA 0) (n0, .inl f)) (vp_cell (dA 0) (n1, .inl g)) sp dp n = vp_cell (dA 0) (n1, .inl (va_cpy f g sp.toNatClampNeg dp.toNatClampNeg n.toNatClampNeg)) := va_copied (fun z => .int z) (dA 0) (dA 0) f g hsp
  rw [e1] at X' step
  have hl : a < H.size := (Array.getElem?_eq_some_iff.mp hc1).1
  have hheap : ((T.setVm vm').setCell a (vp_cell (dA 0) (n1, .inl (va_cpy f g sp.toNatClampNeg dp.toNatClampNeg n.toNatClampNeg)))).heap = H.setIfInBounds a (vp_cell (dA 0) (n1, .inl (va_cpy f g sp.toNatClampNeg dp.toNatClampNeg n.toNatClampNeg))) := by rw [← hT]; rfl
  have oq : ∀ q : Nat, q ≠ a → (H.setIfInBounds a (vp_cell (dA 0) (n1, .inl (va_cpy f g sp.toNatClampNeg dp.toNatClampNeg n.toNatClampNeg))))[q]? = H[q]? := fun q hq => by simp [Array.getElem?_setIfInBounds, Ne.symm hq]
  obtain ⟨t, a1, b1⟩ := kk _ _ (zk_wr_P hP hr1 (show (H.setIfInBounds a _)[a]? = some _ by simp [Array.getElem?_setIfInBounds, hl, zk_tr]) (by simp) oq) ⟨by simp; exact hF.1, fun q g1 g2 => by
      rw [oq q (fun e => g2 (by rw [e]; exact p2))]
      exact hF.2.1 q g1 g2, fun q hq => by
      rcases List.mem_append.mp hq with h | h
      · exact hF.2.2 q h
      · obtain ⟨z, -, hz⟩ := List.mem_map.mp h
        rw [← hz]
        exact p2⟩ _ hheap X'
  exact ⟨t, step t a1, b1⟩
end ZKH
end
section
section ZKA
variable {p : Program} {l : Launch} {e : Env} {R : Room} {s : State} {m : MethodId} {args : Array Value} {below : List Frame} {meth : Method} {c : Code} {H : Heap} {locs : List Loc} {cells slots : Nat} {Q : State → Prop} {cc : ByteArray} {pc nL : Nat} {ls : Array Slot} {rest st st' : List Value} {G : zk_G} {D : va_G} {dA : Nat → Nat} {h h' : zk_H} {cy : Nat} {a : Nat} {i : Int32}
theorem zk_ar_sp {t : Nat} {x : vp_A} (ha : zk_ar G h a = some (t, x)) : (a < G.1 ∧ G.2.1 a = some (t, x)) ∨ zk_rd G h a = some (.inl (t, x)) := by
  unfold zk_ar at ha
  split at ha
  next hlt => exact Or.inl ⟨hlt, ha⟩
  next hlt =>
    right
    unfold zk_rd
    rw [if_neg hlt]
    split at ha
    next y hy => cases ha; exact hy
    next => cases ha
theorem zk_T_H {ty : FieldType} {n : Nat} {f : Nat → Value} (hF : va_S (fun q => G.1 ≤ q) s.heap H locs) (hT : va_T ty a n f (fun q => G.1 ≤ q) s s.heap) : va_T ty a n f (fun q => G.1 ≤ q) s H := va_T.kept hT (fun b h1 h2 => hF.2.1 b h1 h2)
theorem zk_iald_ok (hx : p.tables.exec = Jvm.exec) (hb : c.code = cc) (hS : zk_S G D dA s) (hP : zk_P G D dA h H) (hF : va_S (fun q => G.1 ≤ q) s.heap H locs) {n : Nat} {f : Nat → Int32} (ha : zk_ar G h a = some (0, n, .inl f)) (hi : zk_inb i n = true) (hd : decode cc pc = .ok (.iaload, 1))
    (kk : W p l e R s m args below meth c H locs cells slots Q (F0 m (pc + 1) ls (.int (f i.toNatClampNeg) :: rest))) : W p l e R s m args below meth c H locs cells slots Q (F0 m pc ls (.int i :: .ref a :: rest)) := by
  have hin := zk_in_vp hi
  rcases zk_ar_sp ha with ⟨h1, h2⟩ | hr
  · rcases hS.2.2.2.2.2 a _ _ h2 with ⟨n', f', -, e2, hT⟩ | ⟨n', f', e1, -, -⟩
    · cases e2
      obtain ⟨cell, t1, t2, t3, t4, t5, t6, t7⟩ := zk_T_H hF hT
      have hlt : i.toNatClampNeg < n := Nat.not_le.mp fun q => hin (Or.inr q)
      exact W.iald (v := .int (f i.toNatClampNeg)) hx hb t1 t2 t3 (fun q => hin (q.imp id (fun q => Nat.le_trans t4 q))) (t6 _ hlt) rfl rfl hd kk
    · exact absurd e1 (by decide)
  · obtain ⟨q1, q2, q3⟩ := zk_rd_at (dA := dA) hr
    exact va_iald hx hb hS.1 hP.1 _ 0 q1 rfl hin hd kk
theorem zk_lald_ok (hx : p.tables.exec = Jvm.exec) (hb : c.code = cc) (hS : zk_S G D dA s) (hP : zk_P G D dA h H) (hF : va_S (fun q => G.1 ≤ q) s.heap H locs) {n : Nat} {f : Nat → Int64} (ha : zk_ar G h a = some (1, n, .inr (.inl f))) (hi : zk_inb i n = true) (hd : decode cc pc = .ok (.laload, 1))
    (kk : W p l e R s m args below meth c H locs cells slots Q (F0 m (pc + 1) ls (.long (f i.toNatClampNeg) :: rest))) : W p l e R s m args below meth c H locs cells slots Q (F0 m pc ls (.int i :: .ref a :: rest)) := by
  have hin := zk_in_vp hi
  rcases zk_ar_sp ha with ⟨h1, h2⟩ | hr
  · rcases hS.2.2.2.2.2 a _ _ h2 with ⟨n', f', e1, -, -⟩ | ⟨n', f', -, e2, hT⟩
    · exact absurd e1 (by decide)
    · cases e2
      obtain ⟨cell, t1, t2, t3, t4, t5, t6, t7⟩ := zk_T_H hF hT
      have hlt : i.toNatClampNeg < n := Nat.not_le.mp fun q => hin (Or.inr q)
      exact W.lald (v := .long (f i.toNatClampNeg)) hx hb t1 t2 t3 (fun q => hin (q.imp id (fun q => Nat.le_trans t4 q))) (t6 _ hlt) rfl rfl hd kk
  · obtain ⟨q1, q2, q3⟩ := zk_rd_at (dA := dA) hr
    exact va_lald hx hb hS.1 hP.1 _ 1 q1 rfl hin hd kk
theorem zk_alen_ok (hx : p.tables.exec = Jvm.exec) (hb : c.code = cc) (hS : zk_S G D dA s) (hP : zk_P G D dA h H) (hF : va_S (fun q => G.1 ≤ q) s.heap H locs) {t : Nat} {x : vp_A} (ht : t ≤ 6) (ha : zk_ar G h a = some (t, x)) (hd : decode cc pc = .ok (.arraylength, 1))
    (kk : W p l e R s m args below meth c H locs cells slots Q (F0 m (pc + 1) ls (.int (Int32.ofNat x.1) :: rest))) : W p l e R s m args below meth c H locs cells slots Q (F0 m pc ls (.ref a :: rest)) := by
  rcases zk_ar_sp ha with ⟨h1, h2⟩ | hr
  · rcases hS.2.2.2.2.2 a _ _ h2 with ⟨n', f', -, e2, hT⟩ | ⟨n', f', -, e2, hT⟩
    · cases e2
      obtain ⟨cell, t1, t2, t3, t4, t5, t6, t7⟩ := zk_T_H hF hT
      exact W.alen hx hb t1 t2 t5 rfl rfl hd kk
    · cases e2
      obtain ⟨cell, t1, t2, t3, t4, t5, t6, t7⟩ := zk_T_H hF hT
      exact W.alen hx hb t1 t2 t5 rfl rfl hd kk
  · obtain ⟨q1, q2, q3⟩ := zk_rd_at (dA := dA) hr
    obtain ⟨ty, hty⟩ : ∃ ty, (zk_tys dA)[t]? = some (dA t, ty) := by
      rcases (show t = 0 ∨ t = 1 ∨ t = 2 ∨ t = 3 ∨ t = 4 ∨ t = 5 ∨ t = 6 by omega) with rfl | rfl | rfl | rfl | rfl | rfl | rfl <;> exact ⟨_, rfl⟩
    exact va_alen hx hb hS.1 hP.1 _ t q1 hty rfl hd kk
theorem zk_K0 {g : JFrame} (hP : zk_P G D dA h H) (hF : va_S (fun q => G.1 ≤ q) s.heap H locs) (kk : zk_K p l e R s m args below meth c Q G D dA h (cells + (h.1.length - h.1.length)) (slots + (h.2 - h.2)) g) : W p l e R s m args below meth c H locs cells slots Q g := by
  have := kk H locs hP hF
  rw [Nat.sub_self, Nat.sub_self, Nat.add_zero, Nat.add_zero] at this
  exact this
theorem zk_K1 {g : JFrame} {x : zk_E} (kk : zk_K p l e R s m args below meth c Q G D dA (zk_wr G h a x) (cells + ((zk_wr G h a x).1.length - h.1.length)) (slots + ((zk_wr G h a x).2 - h.2)) g) : zk_K p l e R s m args below meth c Q G D dA (zk_wr G h a x) cells slots g := by
  have e1 : cells + ((zk_wr G h a x).1.length - h.1.length) = cells := by rw [zk_wr_len]; omega
  have e2 : slots + ((zk_wr G h a x).2 - h.2) = slots := by show slots + (h.2 - h.2) = slots; omega
  rw [e1, e2] at kk
  exact kk
theorem zk_al1 {x : zk_E} {n : Nat} : (zk_al h x n).1.length - h.1.length = 1 ∧ (zk_al h x n).2 - h.2 = n := by
  unfold zk_al
  constructor
  · simp
  · simp
theorem zk_heap_ok (hx : p.tables.exec = Jvm.exec) (hb : c.code = cc) (hml : c.maxLocals = nL) (hsz : ls.size = nL) (hown : s.vm.findClass (zk_cn cy) = some m.cls) (hts : ∀ w ∈ zk_tbl, w.before args s = true) (hS : zk_S G D dA s) (hP : zk_P G D dA h H) (hF : va_S (fun q => G.1 ≤ q) s.heap H locs) {ini : Bool} (hini : ini = true → meth.name = "<init>") {lv : Nat} (hfr : lv ≤ R.frames) (hlo : 40 * lv ≤ R.locals) {ins : Instr} (hd : decode cc pc = .ok (ins, zk_len ins)) (hh : zk_heap G cy ini lv ins st h = some (st', h'))
    (hRc : cells + (h'.1.length - h.1.length) ≤ R.cells) (hRs : slots + (h'.2 - h.2) ≤ R.slots)
    (kk : zk_K p l e R s m args below meth c Q G D dA h' (cells + (h'.1.length - h.1.length)) (slots + (h'.2 - h.2)) (F0 m (pc + zk_len ins) ls st')) : W p l e R s m args below meth c H locs cells slots Q (F0 m pc ls st) := by
  cases ins
  case getfield ix =>
    dsimp only [zk_heap] at hh
    split at hh
    next nest ci k a r hf =>
      split at hh
      next cj fs hr =>
        split at hh
        next hc =>
          subst hc
          cases hv : fs[k]? with
          | none => rw [hv] at hh; cases hh
          | some v =>
            rw [hv] at hh
            cases hh
            exact zk_get_ok hx hb hown hts hS hP hf hr hv hd (zk_K0 hP hF kk)
        next => cases hh
      next => cases hh
    next => cases hh
  case putfield ix =>
    dsimp only [zk_heap] at hh
    split at hh
    next nest ci k v a r hf =>
      split at hh
      next cj fs hr =>
        split at hh
        next hc =>
          subst hc
          split at hh
          next hl =>
            split at hh
            next hpm =>
              split at hh
              next hfit =>
                cases hh
                exact zk_put_ok hx hb hown hts hS hP hF hini hf hr hl hpm hfit hd (zk_K1 kk)
              next => cases hh
            next => cases hh
          next => cases hh
        next => cases hh
      next => cases hh
    next => cases hh
  case getstatic ix =>
    dsimp only [zk_heap] at hh
    split at hh
    next hc =>
      obtain ⟨rfl, rfl⟩ := hc
      cases hh
      exact va_gets hx hb hS.2.2.2.1 hF hown (hts (.fieldLink (zk_cn 10) 15 "TickKeeper$Dates" "STARTS" "[I") (zk_tb (List.mem_of_getElem? (i := 425) (by decide +kernel)) rfl)) (fun _ z => z) hd (zk_K0 hP hF kk)
    next =>
      split at hh
      next hc =>
        obtain ⟨rfl, rfl⟩ := hc
        cases hh
        exact va_gets hx hb hS.2.2.2.2.1 hF hown (hts (.fieldLink (zk_cn 5) 41 "TickKeeper$Rule" "ALL_BITS" "[J") (zk_tb (List.mem_of_getElem? (i := 531) (by decide +kernel)) rfl)) (fun _ z => z) hd (zk_K0 hP hF kk)
      next => cases hh
  case ldc ix =>
    dsimp only [zk_heap] at hh
    cases hk : zk_ki cy ix with
    | none => rw [hk] at hh; cases hh
    | some v => rw [hk] at hh; cases hh; exact lv_ldc hx hb hown (hts _ (zk_ki_sp hk)) hd (zk_K0 hP hF kk)
  case ldc_w ix =>
    dsimp only [zk_heap] at hh
    cases hk : zk_ki cy ix with
    | none => rw [hk] at hh; cases hh
    | some v => rw [hk] at hh; cases hh; exact lv_ldcw hx hb hown (hts _ (zk_ki_sp hk)) hd (zk_K0 hP hF kk)
  case ldc2_w ix =>
    dsimp only [zk_heap] at hh
    cases hk : zk_kl cy ix with
    | none => rw [hk] at hh; cases hh
    | some v => rw [hk] at hh; cases hh; exact lv_ldc2 hx hb hown (hts _ (zk_kl_sp hk)) hd (zk_K0 hP hF kk)
  case iaload =>
    dsimp only [zk_heap] at hh
    split at hh
    next i a r =>
      split at hh
      next n f ha =>
        split at hh
        next hi => cases hh; exact zk_iald_ok hx hb hS hP hF ha hi hd (zk_K0 hP hF kk)
        next => cases hh
      next => cases hh
    next => cases hh
  case baload =>
    dsimp only [zk_heap] at hh
    split at hh
    next i a r =>
      split at hh
      next n f ha =>
        split at hh
        next hi =>
          cases hh
          obtain ⟨q1, q2, q3⟩ := zk_rd_at (dA := dA) ha
          exact va_zald hx hb hS.1 hP.1 _ 2 q1 rfl (zk_in_vp hi) hd (zk_K0 hP hF kk)
        next => cases hh
      next => cases hh
    next => cases hh
  case laload =>
    dsimp only [zk_heap] at hh
    split at hh
    next i a r =>
      split at hh
      next n f ha =>
        split at hh
        next hi => cases hh; exact zk_lald_ok hx hb hS hP hF ha hi hd (zk_K0 hP hF kk)
        next => cases hh
      next => cases hh
    next => cases hh
  case aaload =>
    dsimp only [zk_heap] at hh
    split at hh
    next i a r =>
      split at hh
      next t n f ha =>
        split at hh
        next hi =>
          split at hh
          next ht =>
            cases hh
            obtain ⟨q1, q2, q3⟩ := zk_rd_at (dA := dA) ha
            exact va_aldq hx hb hS.1 hP.1 _ t q1 (zk_tys_at ht.1 ht.2).1 (zk_in_vp hi) hd (zk_K0 hP hF kk)
          next => cases hh
        next => cases hh
      next => cases hh
    next => cases hh
  case arraylength =>
    dsimp only [zk_heap] at hh
    split at hh
    next a r =>
      split at hh
      next t x ha =>
        split at hh
        next ht => cases hh; exact zk_alen_ok hx hb hS hP hF ht ha hd (zk_K0 hP hF kk)
        next => cases hh
      next => cases hh
    next => cases hh
  case iastore =>
    dsimp only [zk_heap] at hh
    split at hh
    next x i a r =>
      split at hh
      next n f ha =>
        split at hh
        next hi => cases hh; exact zk_iast_ok hx hb hS hP hF ha hi hd (zk_K1 kk)
        next => cases hh
      next => cases hh
    next => cases hh
  case bastore =>
    dsimp only [zk_heap] at hh
    split at hh
    next x i a r =>
      split at hh
      next n f ha =>
        split at hh
        next hi =>
          split at hh
          next hx1 => cases hh; exact zk_zast_ok hx hb hS hP hF hx1 ha hi hd (zk_K1 kk)
          next => cases hh
        next => cases hh
      next => cases hh
    next => cases hh
  case lastore =>
    dsimp only [zk_heap] at hh
    split at hh
    next x i a r =>
      split at hh
      next n f ha =>
        split at hh
        next hi => cases hh; exact zk_last_ok hx hb hS hP hF ha hi hd (zk_K1 kk)
        next => cases hh
      next => cases hh
    next => cases hh
  case aastore =>
    dsimp only [zk_heap] at hh
    split at hh
    next v i a r =>
      split at hh
      next t n f ci vs ha hv =>
        split at hh
        next hi =>
          split at hh
          next ht =>
            obtain ⟨h3, h6, rfl⟩ := ht
            cases hh
            exact zk_aast_ok hx hb hS hP hF h3 h6 ha hv hi hd (zk_K1 kk)
          next => cases hh
        next => cases hh
      next => cases hh
    next => cases hh
  case new ix =>
    dsimp only [zk_heap] at hh
    split at hh
    next ci hk =>
      cases hh
      rw [zk_al1.1, zk_al1.2] at *
      exact zk_new_ok hx hb hown hts hS hP hF hk hRc hRs hd kk
    next => cases hh
  case newarray t =>
    dsimp only [zk_heap] at hh
    split at hh
    next n r =>
      split at hh
      next hn =>
        cases hh
        rw [zk_al1.1, zk_al1.2] at *
        exact zk_newa_ok hx hb hts hS hP hF hn.1 hn.2 (t := 0) (ty := .int) rfl (zk_tb (by decide +kernel) rfl) rfl (fun cA h1 h2 => Option.some.inj (h2.symm.trans h1)) (by decide) rfl hRc hRs hd kk
      next => cases hh
    next n r =>
      split at hh
      next hn =>
        cases hh
        rw [zk_al1.1, zk_al1.2] at *
        exact zk_newa_ok hx hb hts hS hP hF hn.1 hn.2 (t := 1) (ty := .long) rfl (zk_tb (by decide +kernel) rfl) rfl (fun cA h1 h2 => Option.some.inj (h2.symm.trans h1)) (by decide) rfl hRc hRs hd kk
      next => cases hh
    next n r =>
      split at hh
      next hn =>
        cases hh
        rw [zk_al1.1, zk_al1.2] at *
        exact zk_newa_ok hx hb hts hS hP hF hn.1 hn.2 (t := 2) (ty := .boolean) rfl (zk_tb (by decide +kernel) rfl) rfl (fun cA h1 h2 => Option.some.inj (h2.symm.trans h1)) (by decide) rfl hRc hRs hd kk
      next => cases hh
    next => cases hh
  case anewarray ix =>
    dsimp only [zk_heap] at hh
    split at hh
    next ci n r hk =>
      split at hh
      next t ht =>
        split at hh
        next hn =>
          cases hh
          rw [zk_al1.1, zk_al1.2] at *
          exact zk_anew_ok hx hb hown hts hS hP hF hn.1 hn.2 hk ht hRc hRs hd kk
        next => cases hh
      next => cases hh
    next => cases hh
  case invokespecial ix =>
    dsimp only [zk_heap] at hh
    split at hh
    next a r =>
      split at hh
      next hc =>
        cases hh
        obtain ⟨h1, h2, h3⟩ := hc
        refine W.objInit hx hb hown (hts _ (zk_ob_sp h1)) (hts _ (zk_tb (by decide +kernel) rfl)) (hts (.code Lib.objectInit ⟨#[0xb1]⟩ 1 none) (zk_tb (by decide +kernel) rfl)) rfl (by rw [hml]; exact hsz) rfl hd (by omega) ?_ (zk_K0 hP hF kk)
        have h9 : 12 + 8 ≤ R.locals := by omega
        show 2 * 0 + zk_sum _ + 12 ≤ R.locals
        omega
      next => cases hh
    next => cases hh
  case invokestatic ix =>
    dsimp only [zk_heap] at hh
    split at hh
    next hc =>
      obtain ⟨rfl, rfl⟩ := hc
      split at hh
      next n dp a sp b r =>
        split at hh
        next n0 f n1 g hr0 hr1 =>
          split at hh
          next hq =>
            obtain ⟨h1, h2, h3, h4, h5, h6, h7⟩ := hq
            cases hh
            exact zk_copy_ok hx hb (by rw [hml, hsz]) hown hts hS hP hF hr0 hr1 h1 h2 h3 h4 h5 (by omega) (by omega) hd (zk_K1 kk)
          next => cases hh
        next => cases hh
      next => cases hh
    next => cases hh
  all_goals (exact nomatch hh)
end ZKA
end
section
/-! runs of the small machine are runs of the JVM -/
theorem zk_ofW {l : Launch} {y : MethodName} {ws ws' : List Cond} {rm : Room} {Pc : Array Value → State → Prop} {Qc : Array Value → State → Outcome → State → Prop} {mc ms : Nat} {free : Addr → Prop} {cc : ByteArray} {maxL : Nat} {ret : Option FieldType}
    (hy : plainFor y = true) (hw : ws = Cond.code y cc maxL ret :: ws')
    (body : ∀ p e s m args below meth c s₁, BodyLoose p l y (headSpec ws rm) cc maxL ret e s m args below meth c s₁ → c.maxLocals = maxL → Pc args s →
      W p l e (headSpec ws rm).room s m args below meth c s.heap [] 0 0 (MQ below Qc args s mc ms free) (entryFrame m args maxL)) : Met l y ws rm Pc Qc mc ms free := by
  refine MetFree.of_bodySF (code := cc) (maxLocals := maxL) (ret := ret) hy ?_ ?_
  · intro args s m h hn
    obtain ⟨meth, c, h1, h2, h3, h4, h5, h6, -, -⟩ := Cond.code_spec hn (atoms_spec (ws := ws) h _ (by rw [hw]; exact List.mem_cons_self))
    exact ⟨meth, c, h1, h2, h3, h4, h5, h6⟩
  · intro p e s m args below meth c s₁ B hml hP _
    have hh0 : s₁.heap = s.heap := by rw [B.state]; rfl
    obtain ⟨t, a1, o, b1, b2, b3⟩ := body p e s m args below meth c s₁ B hml hP s₁ hh0 (Stand.of_body B)
    exact ⟨t, o, a1, b1, b2, ⟨b3.1, b3.2⟩⟩
def zk_Pc (G : zk_G) (D : va_G) (dA : Nat → Nat) (As : List Value) (h : zk_H) : Array Value → State → Prop := va_Pc As (fun U => zk_S G D dA U ∧ zk_P G D dA h U.heap)
def zk_Qc (G : zk_G) (D : va_G) (dA : Nat → Nat) (r : Option Value) (h' : zk_H) : Array Value → State → Outcome → State → Prop := fun _ st o t => o = .returned r ∧ zk_P G D dA h' t.heap ∧ va_F (fun q => G.1 ≤ q) st t
def zk_rm (y mc ms : Nat) : Room := { frames := zk_lev y, cells := mc, slots := ms, locals := 40 * zk_lev y }
def zk_wy (y : Nat) : List Cond := .code (zk_row y).1 (zk_bc y) (zk_ml y) (zk_rt y) :: zk_tbl
theorem zk_goodIn {ws : List Cond} (h : ∀ w ∈ ws, w ∈ zk_tbl) : GoodIn zk_tbl ws := fun w hw => ⟨h w hw, good_of_word (List.mem_filter.mp (h w hw)).2⟩
theorem zk_blind {G : zk_G} {D : va_G} {dA : Nat → Nat} {As : List Value} {h : zk_H} : FrameBlind (zk_Pc G D dA As h) := fun a U g mk q => ⟨q.1, zk_S_calling q.2.1, q.2.2⟩
theorem zk_row_at {y : Nat} {r : zk_Row} (h : zk_MT0[y]? = some r) : zk_row y = r ∧ zk_okM r := by
  constructor
  · unfold zk_row zk_MT
    have hl := (List.getElem?_eq_some_iff.mp h).1
    rw [List.getD_eq_getElem?_getD, List.getElem?_append_left hl, h]
    rfl
  · exact zk_MT0_ok r (List.mem_of_getElem? h)
theorem zk_small : zk_MT0.all (fun r => decide (r.2.2.1 ≤ 21)) = true := by decide +kernel
theorem zk_ml_le {y : Nat} {r : zk_Row} (h : zk_MT0[y]? = some r) : zk_ml y ≤ 21 := by
  have h1 := List.all_eq_true.mp zk_small r (List.mem_of_getElem? h)
  unfold zk_ml
  rw [(zk_row_at h).1]
  simpa using h1
theorem zk_mk_sp {c i k yc : Nat} (h : zk_mk c i = some (k, yc)) : ∃ r, zk_MT0[yc]? = some r ∧
    ((k = 0 ∧ Cond.methodLink (zk_cn c) i r.1 ∈ lw_tbl ∧ Cond.instanceMethod r.1 ∈ lw_tbl ∧ Cond.selects r.1.cls r.1 r.1 ∈ lw_tbl ∧ r.2.2.2.2.1 < 10) ∨
     (k = 1 ∧ Cond.methodLink (zk_cn c) i r.1 ∈ lw_tbl ∧ Cond.static r.1 ∈ lw_tbl) ∨
     (k = 2 ∧ Cond.methodLink (zk_cn c) i r.1 ∈ lw_tbl ∧ Cond.instanceMethod r.1 ∈ lw_tbl ∧ r.1.name = "<init>" ∧ r.2.2.2.1 = none) ∨
     (3 ≤ k ∧ Cond.methodLinkNest (zk_cn c) i r.1 "TickKeeper" ∈ lw_tbl ∧ Cond.instanceMethod r.1 ∈ lw_tbl ∧ r.1.name = "<init>" ∧ r.2.2.2.1 = none)) := by
  unfold zk_mk at h
  cases hf : zk_ML.find? (fun q => q.1 == c && q.2.1 == i) with
  | none => rw [hf] at h; cases h
  | some q =>
    rw [hf] at h
    have hp := List.find?_some hf
    have hm := List.mem_of_find?_eq_some hf
    have h1 := List.all_eq_true.mp zk_ML_ok q hm
    obtain ⟨q1, q2, q3, q4, q5, q6, q7⟩ := q
    cases h
    simp only [Bool.and_eq_true, beq_iff_eq] at hp
    obtain ⟨rfl, rfl⟩ := hp
    unfold zk_mw at h1
    dsimp only at h1
    cases hr : zk_MT0[q4]? with
    | none => rw [hr] at h1; cases h1
    | some r =>
      rw [hr] at h1
      refine ⟨r, rfl, ?_⟩
      dsimp only at h1
      match q3, h1 with
      | 0, h1 =>
        simp only [Bool.and_eq_true, decide_eq_true_eq] at h1
        exact Or.inl ⟨rfl, List.mem_of_getElem? h1.1.1.1, List.mem_of_getElem? h1.1.1.2, List.mem_of_getElem? h1.1.2, h1.2⟩
      | 1, h1 =>
        simp only [Bool.and_eq_true, decide_eq_true_eq] at h1
        exact Or.inr (Or.inl ⟨rfl, List.mem_of_getElem? h1.1, List.mem_of_getElem? h1.2⟩)
      | 2, h1 =>
        simp only [Bool.and_eq_true, decide_eq_true_eq] at h1
        exact Or.inr (Or.inr (Or.inl ⟨rfl, List.mem_of_getElem? h1.1.1.1, List.mem_of_getElem? h1.1.1.2, h1.1.2, h1.2⟩))
      | n + 3, h1 =>
        simp only [Bool.and_eq_true, decide_eq_true_eq] at h1
        exact Or.inr (Or.inr (Or.inr ⟨by show 3 ≤ n + 3; omega, List.mem_of_getElem? h1.1.1.1, List.mem_of_getElem? h1.1.1.2, h1.1.2, h1.2⟩))
theorem zk_ft_sp {y pc : Nat} {ins : Instr} {len : Nat} (h : zk_ft y pc = some (ins, len)) : decode (zk_bc y) pc = .ok (ins, len) := by
  unfold zk_ft at h
  split at h
  next q hq => cases h; exact hq
  next => cases h
theorem zk_heap_mono {G : zk_G} {c : Nat} {ini : Bool} {lv : Nat} {ins : Instr} {st st' : List Value} {h h' : zk_H} (hh : zk_heap G c ini lv ins st h = some (st', h')) : h.1.length ≤ h'.1.length ∧ h.2 ≤ h'.2 := by
  have w : ∀ a x, h.1.length ≤ (zk_wr G h a x).1.length ∧ h.2 ≤ (zk_wr G h a x).2 := fun a x => ⟨by unfold zk_wr; rw [List.length_set]; exact Nat.le_refl _, Nat.le_refl _⟩
  have al : ∀ x n, h.1.length ≤ (zk_al h x n).1.length ∧ h.2 ≤ (zk_al h x n).2 := fun x n => ⟨by unfold zk_al; simp, by unfold zk_al; simp⟩
  have rf : h.1.length ≤ h.1.length ∧ h.2 ≤ h.2 := ⟨Nat.le_refl _, Nat.le_refl _⟩
  unfold zk_heap at hh
  split at hh
  all_goals first
    | (cases hh; done)
    | skip
  all_goals repeat' split at hh
  all_goals first
    | (cases hh; done)
    | (cases hh; exact rf)
    | (cases hh; exact w _ _)
    | (cases hh; exact al _ _)
    | (simp only [Option.map_eq_some_iff] at hh; obtain ⟨_, _, hh⟩ := hh; cases hh; exact rf)
theorem zk_mono {G : zk_G} : ∀ (n y pc : Nat) (L : zk_L) (st : List Value) (h : zk_H) (r : Option Value) (h' : zk_H), zk_ex n G y pc L st h = some (r, h') → h.1.length ≤ h'.1.length ∧ h.2 ≤ h'.2 := by
  intro n
  induction n with
  | zero => intro y pc L st h r h' hh; cases hh
  | succ n ih =>
    intro y pc L st h r h' hh
    unfold zk_ex at hh
    split at hh
    next => cases hh
    next ins len hft =>
      split at hh
      next yc As rest hinv =>
        split at hh
        next =>
          split at hh
          next r1 h1 h2 =>
            have a1 := ih _ _ _ _ _ _ _ h2
            have a2 := ih _ _ _ _ _ _ _ hh
            exact ⟨Nat.le_trans a1.1 a2.1, Nat.le_trans a1.2 a2.2⟩
          next => cases hh
        next => cases hh
      next =>
        split at hh
        next => cases hh; exact ⟨Nat.le_refl _, Nat.le_refl _⟩
        next =>
          split at hh
          next => exact ih _ _ _ _ _ _ _ hh
          next =>
            split at hh
            next st1 h1 hp =>
              split at hh
              next =>
                have a1 := zk_heap_mono hp
                have a2 := ih _ _ _ _ _ _ _ hh
                exact ⟨Nat.le_trans a1.1 a2.1, Nat.le_trans a1.2 a2.2⟩
              next => cases hh
            next =>
              split at hh
              next =>
                split at hh
                next => exact ih _ _ _ _ _ _ _ hh
                next => cases hh
              next => cases hh
end
section
section ZKB
variable {p : Program} {l : Launch} {e : Env} {R : Room} {s : State} {m : MethodId} {args : Array Value} {below : List Frame} {meth : Method} {c : Code} {H : Heap} {locs : List Loc} {cells slots : Nat} {Q : State → Prop} {cc : ByteArray} {pc nL : Nat} {ls : Array Slot} {rest st st' : List Value} {G : zk_G} {D : va_G} {dA : Nat → Nat} {h h' : zk_H}
theorem zk_go {mc ms : Nat} {st0 : List Value} {a : Array Value} {rc : Option Value} {hc : zk_H} (hr : va_Run p l e R s m args below meth c H locs cells slots mc ms (F0 m pc ls st0) rest (zk_Qc G D dA rc hc a) (fun q => G.1 ≤ q)) (hF : va_S (fun q => G.1 ≤ q) s.heap H locs)
    (kk : zk_K p l e R s m args below meth c Q G D dA hc (cells + mc) (slots + ms) (F0 m (pc + 3) ls (rc.toList ++ rest))) : W p l e R s m args below meth c H locs cells slots Q (F0 m pc ls st0) := by
  intro T hT X
  obtain ⟨v, st₀, t, T', L, h0, X', hL, e1, e2, ⟨hv, hp, hz, hk⟩, stp⟩ := hr T hT X
  cases hv
  rw [h0] at hz hk
  obtain ⟨t2, a1, b1⟩ := kk T'.heap (locs ++ L) (by rw [e1]; exact hp)
    ⟨Nat.le_trans hF.1 (by rw [e1]; exact hz), fun q h1 h2 => by rw [e1, hk q (Nat.lt_of_lt_of_le h1 hF.1) h2]; exact hF.2.1 q h1 h2, fun q hq => by
      rcases List.mem_append.mp hq with h | h
      · exact hF.2.2 q h
      · exact hL q h⟩ T' rfl X'
  exact ⟨t2, stp t2 a1, b1⟩
theorem zk_ret_ok {Qc : Array Value → State → Outcome → State → Prop} {free : Addr → Prop} (hx : p.tables.exec = Jvm.exec) (hb : c.code = cc) {rt : Option FieldType} (hr : meth.sig.returnType = rt) (hlk : meth.locks = false) {ins : Instr} {len : Nat} (hd : decode cc pc = .ok (ins, len)) {r : Option Value} (h : zk_ret rt ins len st = some r)
    (hq : ∀ t : State, t.heap = H → s.WarmedH t.vm → Qc args s (.returned r) t) (hf : ∀ q ∈ locs, free q.base) : W p l e R s m args below meth c H locs cells slots (MQ below Qc args s cells slots free) (F0 m pc ls st) := by
  cases ins
  case ireturn =>
    dsimp only [zk_ret] at h
    split at h
    next v =>
      split at h
      next hl => subst hl; cases h; exact W.iret hx hb hr hq hf hd hlk
      next => cases h
    next v =>
      split at h
      next hl =>
        subst hl
        split at h
        next hv => cases h; exact W.zret hx hb hr (by rcases hv with rfl | rfl <;> decide) hq hf hd hlk
        next => cases h
      next => cases h
    next => cases h
  case lreturn =>
    dsimp only [zk_ret] at h
    split at h
    next v =>
      split at h
      next hl => subst hl; cases h; exact W.lret hx hb hr hq hf hd hlk
      next => cases h
    next => cases h
  case areturn =>
    dsimp only [zk_ret] at h
    split at h
    next n a =>
      split at h
      next hl => subst hl; cases h; exact W.aret hx hb hr (Or.inl ⟨_, rfl⟩) (Or.inr ⟨_, rfl⟩) hq hf hd hlk
      next => cases h
    next n =>
      split at h
      next hl => subst hl; cases h; exact W.aret hx hb hr (Or.inl ⟨_, rfl⟩) (Or.inl rfl) hq hf hd hlk
      next => cases h
    next t a =>
      split at h
      next hl => subst hl; cases h; exact W.aret hx hb hr (Or.inr ⟨_, rfl⟩) (Or.inr ⟨_, rfl⟩) hq hf hd hlk
      next => cases h
    next => cases h
  case return_ =>
    dsimp only [zk_ret] at h
    split at h
    next =>
      split at h
      next hl => subst hl; cases h; exact W.vret hx hb hr hq hf hd hlk
      next => cases h
    next => cases h
  all_goals (exact nomatch h)
end ZKB
theorem zk_sl_len : ∀ (vs : List Value), (zk_sl vs).length = (lg_sl vs).length := by
  intro vs
  induction vs with
  | nil => rfl
  | cons v vs ih =>
    unfold zk_sl lg_sl
    rw [List.flatMap_cons]
    by_cases hc : v.category = 2
    · rw [if_pos hc, if_pos hc]
      simp only [List.length_cons, List.length_append]
      have e : (vs.flatMap fun v => if v.category = 2 then [Slot.val v, Slot.second] else [Slot.val v]).length = (lg_sl vs).length := rfl
      rw [e, ih]
      simp
      omega
    · rw [if_neg hc, if_neg hc]
      simp only [List.length_cons, List.length_append]
      have e : (vs.flatMap fun v => if v.category = 2 then [Slot.val v, Slot.second] else [Slot.val v]).length = (lg_sl vs).length := rfl
      rw [e, ih]
      simp
      omega
theorem zk_lget_app {L : zk_L} {n i : Nat} {v : Value} (h : zk_lget (L ++ List.replicate n none) i = some v) : zk_lget L i = some v := by
  unfold zk_lget at h ⊢
  rcases Nat.lt_or_ge i L.length with h1 | h1
  · rw [List.getElem?_append_left h1] at h
    exact h
  · rw [List.getElem?_append_right h1, List.getElem?_replicate] at h
    split at h
    next x hx => split at hx <;> cases hx
    next => cases h
theorem zk_sl_get : ∀ (vs : List Value) (k i : Nat) (v : Value), zk_lget (zk_sl vs) i = some v → (k + i, v) ∈ lv_args k vs := by
  intro vs
  induction vs with
  | nil => intro k i v h; unfold zk_lget zk_sl at h; simp at h
  | cons w vs ih =>
    intro k i v h
    unfold zk_sl at h
    unfold lv_args
    by_cases hc : w.category = 2
    · rw [if_pos hc] at h ⊢
      match i, h with
      | 0, h => cases h; exact List.mem_cons_self
      | 1, h => cases h
      | i + 2, h =>
        have := ih (k + 2) i v h
        rw [show k + (i + 2) = k + 2 + i by omega]
        exact List.mem_cons_of_mem _ this
    · rw [if_neg hc] at h ⊢
      match i, h with
      | 0, h => cases h; exact List.mem_cons_self
      | i + 1, h =>
        have := ih (k + 1) i v h
        rw [show k + (i + 1) = k + 1 + i by omega]
        exact List.mem_cons_of_mem _ this
theorem zk_ent_has {ml : Nat} {vs : List Value} {ls : Array Slot} (hl : lv_has ls ml (lv_args 0 vs)) : lv_has ls ml (zk_lv (zk_ent ml vs)) := by
  refine zk_has_sub hl ?_
  rintro ⟨i, v⟩ hq
  rw [zk_lv_mem] at hq
  have := zk_sl_get vs 0 i v (zk_lget_app hq)
  rw [Nat.zero_add] at this
  exact this
theorem zk_ent_len {ml : Nat} {vs : List Value} (h : (lg_sl vs).length ≤ ml) : (zk_ent ml vs).length = ml := by
  unfold zk_ent
  rw [List.length_append, List.length_replicate]
  have := zk_sl_len vs
  omega
/-- what is said of n steps of fuel: the body of any method goes as the small machine says -/
def zk_BW (l : Launch) (G : zk_G) (D : va_G) (dA : Nat → Nat) (n : Nat) : Prop :=
  ∀ (y : Nat) (p : Program) (e : Env) (R : Room) (s : State) (m : MethodId) (args : Array Value) (below : List Frame) (meth : Method) (c : Code) (Q : State → Prop),
    p.tables.exec = Jvm.exec → c.code = zk_bc y → c.maxLocals = zk_ml y → s.vm.findClass (zk_cn (zk_c y)) = some m.cls → (∀ w ∈ zk_tbl, w.before args s = true) → (zk_ini y = true → meth.name = "<init>") → zk_S G D dA s → zk_lev y ≤ R.frames → 40 * zk_lev y ≤ R.locals →
    ∀ (pc : Nat) (L : zk_L) (st : List Value) (h : zk_H) (H : Heap) (locs : List Loc) (ls : Array Slot) (cells slots : Nat) (r : Option Value) (h' : zk_H), zk_ex n G y pc L st h = some (r, h') → lv_has ls (zk_ml y) (zk_lv L) → L.length = zk_ml y → zk_P G D dA h H → va_S (fun q => G.1 ≤ q) s.heap H locs → cells + (h'.1.length - h.1.length) ≤ R.cells → slots + (h'.2 - h.2) ≤ R.slots →
    (∀ (pc : Nat) (ls : Array Slot) (st : List Value) (H : Heap) (locs : List Loc) (ins : Instr) (len : Nat), decode (zk_bc y) pc = .ok (ins, len) → zk_ret (zk_rt y) ins len st = some r → zk_P G D dA h' H → va_S (fun q => G.1 ≤ q) s.heap H locs → W p l e R s m args below meth c H locs (cells + (h'.1.length - h.1.length)) (slots + (h'.2 - h.2)) Q (F0 m pc ls st)) →
    W p l e R s m args below meth c H locs cells slots Q (F0 m pc ls st)
theorem zk_met {l : Launch} {G : zk_G} {D : va_G} {dA : Nat → Nat} {n : Nat} (ih : zk_BW l G D dA n) {y : Nat} {q : zk_Row} (hy : zk_MT0[y]? = some q) {As : List Value} {h h' : zk_H} {r : Option Value} (hex : zk_ex n G y 0 (zk_ent (zk_ml y) As) [] h = some (r, h')) (hlen : (lg_sl As).length ≤ zk_ml y) :
    Met l (zk_row y).1 (zk_wy y) (zk_rm y (h'.1.length - h.1.length) (h'.2 - h.2)) (zk_Pc G D dA As h) (zk_Qc G D dA r h') (h'.1.length - h.1.length) (h'.2 - h.2) (fun q => G.1 ≤ q) := by
  obtain ⟨hrow, hok⟩ := zk_row_at hy
  obtain ⟨o1, o2, o3, o4, o5, o6, o7⟩ := hok
  refine zk_ofW (cc := zk_bc y) (maxL := zk_ml y) (ret := zk_rt y) (by rw [hrow]; exact o2) rfl ?_
  intro p e s m args below meth c s₁ B hml hv
  obtain ⟨rfl, hS, hP⟩ := hv
  have hts : ∀ w ∈ zk_tbl, w.before As.toArray s = true := fun w hw => atoms_spec (ws := zk_wy y) B.pre w (List.mem_cons_of_mem _ hw)
  have hown0 : s.vm.findClass (zk_row y).1.cls = some m.cls := findClass_of_methodNamed B.named
  have hown : s.vm.findClass (zk_cn (zk_c y)) = some m.cls := by
    have e1 : (zk_row y).1.cls = zk_cn (zk_c y) := by unfold zk_c; rw [hrow]; exact o3
    rw [← e1]; exact hown0
  have hin : zk_ini y = true → meth.name = "<init>" := fun hi => by
    rw [(name_of_methodNamed B.named B.method).1]
    unfold zk_ini at hi
    simpa using hi
  have hl := lv_entry As hlen
  rw [lg_entry_eq]
  generalize (lg_sl As ++ List.replicate (zk_ml y - (lg_sl As).length) Slot.unset).toArray = ls at hl ⊢
  refine ih y p e _ s m As.toArray below meth c _ B.exec B.bytes hml hown hts hin hS (Nat.le_refl _) (Nat.le_refl _) 0 _ [] h s.heap [] ls 0 0 r h' hex (zk_ent_has hl) (zk_ent_len hlen) hP va_S.rf (by rw [Nat.zero_add]; exact Nat.le_refl _) (by rw [Nat.zero_add]; exact Nat.le_refl _) ?_
  intro pc ls st H locs ins len hd hret hP' hF'
  rw [Nat.zero_add, Nat.zero_add]
  exact zk_ret_ok B.exec B.bytes B.returns B.notSynchronized hd hret (fun t ht hW => ⟨rfl, by rw [ht]; exact hP', hF'.F ht⟩) hF'.2.2
end
section
theorem zk_wy_in {y : Nat} {q : zk_Row} (hy : zk_MT0[y]? = some q) : ∀ w ∈ zk_wy y, w ∈ zk_tbl := by
  obtain ⟨hrow, hok⟩ := zk_row_at hy
  intro w hw
  rcases List.mem_cons.mp hw with rfl | hw
  · refine zk_tb ?_ rfl
    unfold zk_bc zk_ml zk_rt
    rw [hrow]
    exact hok.1
  · exact hw
theorem zk_fr_sp {y yc : Nat} {As rest : List Value} (h : zk_fr y yc As rest = true) : zk_lev yc < zk_lev y ∧ (lg_sl As).length ≤ zk_ml yc ∧ zk_sum rest ≤ 8 := by
  unfold zk_fr at h
  simp only [Bool.and_eq_true, decide_eq_true_eq] at h
  exact ⟨h.1.1, h.1.2, h.2⟩
set_option maxHeartbeats 4000000 in
theorem zk_body (l : Launch) (G : zk_G) (D : va_G) (dA : Nat → Nat) : ∀ n, zk_BW l G D dA n := by
  intro n
  induction n with
  | zero => intro y p e R s m args below meth c Q hx hb hml hown hts hin hS hfr hlo pc L st h H locs ls cells slots r h' hex; cases hex
  | succ n ih =>
    intro y p e R s m args below meth c Q hx hb hml hown hts hin hS hfr hlo pc L st h H locs ls cells slots r h' hex hl hL hP hF hRc hRs hret
    unfold zk_ex at hex
    split at hex
    next => cases hex
    next ins len hft =>
      have hd := zk_ft_sp hft
      split at hex
      next yc As rest hinv =>
        split at hex
        next hlen =>
          subst hlen
          split at hex
          next rc hc hcall =>
            have m1 := zk_mono _ _ _ _ _ _ _ _ hcall
            have m2 := zk_mono _ _ _ _ _ _ _ _ hex
            have e1 : cells + (hc.1.length - h.1.length) + (h'.1.length - hc.1.length) = cells + (h'.1.length - h.1.length) := by omega
            have e2 : slots + (hc.2 - h.2) + (h'.2 - hc.2) = slots + (h'.2 - h.2) := by omega
            have kk : zk_K p l e R s m args below meth c Q G D dA hc (cells + (hc.1.length - h.1.length)) (slots + (hc.2 - h.2)) (F0 m (pc + 3) ls (rc.toList ++ rest)) := by
              intro H1 locs1 hP1 hF1
              refine ih y p e R s m args below meth c Q hx hb hml hown hts hin hS hfr hlo (pc + 3) L _ hc H1 locs1 ls _ _ r h' hex hl hL hP1 hF1 (by rw [e1]; exact hRc) (by rw [e2]; exact hRs) ?_
              rw [e1, e2]
              exact hret
            have hf : cells + (hc.1.length - h.1.length) ≤ R.cells ∧ slots + (hc.2 - h.2) ≤ R.slots := ⟨by omega, by omega⟩
            have hPre : ∀ U : State, U.heap = H → s.WarmedH U.vm → zk_Pc G D dA As h As.toArray U := fun U hU hW => ⟨rfl, zk_S_moved hW (fun a h1 h2 => by rw [hU]; exact hF.2.1 a h1 h2) hS, by rw [hU]; exact hP⟩
            have hlsz : ls.size = zk_ml y := hl.1
            unfold zk_inv at hinv
            split at hinv
            next ix =>
              split at hinv
              next yc' hmk =>
                split at hinv
                next b rest' hdrop =>
                  split at hinv
                  next ci fs hrd =>
                    split at hinv
                    next hcond =>
                      cases hinv
                      obtain ⟨hci, hfr2⟩ := hcond
                      obtain ⟨f1, f2, f3⟩ := zk_fr_sp hfr2
                      obtain ⟨q, hy, hk⟩ := zk_mk_sp hmk
                      obtain ⟨hrow, hok⟩ := zk_row_at hy
                      have hml2 := zk_ml_le hy
                      rw [← hrow] at hok hk
                      obtain ⟨o1, o2, o3, o4, o5, o6, o7⟩ := hok
                      rcases hk with ⟨-, k1, k2, k3, k4⟩ | ⟨hk, -⟩ | ⟨hk, -⟩ | ⟨hk, -⟩
                      · have hM := zk_met ih hy hcall f2
                        have hna : ((st.take (zk_na yc)).reverse).length = zk_na yc := by
                          rw [List.length_reverse, List.length_take]
                          have : (st.drop (zk_na yc)).length = (Value.ref b :: rest).length := by rw [hdrop]
                          rw [List.length_drop] at this
                          simp only [List.length_cons] at this
                          omega
                        have hst : st = ((st.take (zk_na yc)).reverse).reverse ++ .ref b :: rest := by rw [List.reverse_reverse, ← hdrop, List.take_append_drop]
                        obtain ⟨q1, q2, q3⟩ := zk_rd_at (dA := dA) hrd
                        have hci10 : ci < 10 := by rw [hci]; exact k4
                        have hrecv := va_recv hS.1 hP.1 (zk_CL_at hci10) q1
                        have hcl : zk_cn ci = (zk_row yc).1.cls := by rw [hci]; exact o3.symm
                        refine zk_go (va_runV (As := (st.take (zk_na yc)).reverse) (rest := rest) (b := b) (C := (zk_row yc).1.cls) (n := zk_na yc) ⟨hx, hb, hml, hown, hts⟩ hM (cwV (zk_na yc) hts (zk_goodIn ?_) rfl rfl rfl ⟨rfl, o5, o6, o7⟩ ⟨?_, ?_⟩) ⟨zk_blind, ?_, hPre⟩ rfl hna hlsz hst ?_ hd hf) hF kk
                        · intro w hw
                          rcases List.mem_append.mp hw with hw | hw
                          · simp only [List.mem_cons, List.not_mem_nil, or_false] at hw
                            rcases hw with rfl | rfl | rfl | rfl
                            · exact zk_tb k1 rfl
                            · exact zk_tb k2 rfl
                            · exact zk_tb k3 rfl
                            · exact zk_tb o4 rfl
                          · exact zk_wy_in hy w hw
                        · show zk_lev yc + 1 ≤ R.frames
                          omega
                        · show 8 + (zk_ml yc + 11) + 40 * zk_lev yc ≤ R.locals
                          omega
                        · rw [← hcl]
                          exact hrecv
                        · show 2 * 0 + zk_sum rest ≤ 8
                          omega
                      · exact absurd hk (by omega)
                      · exact absurd hk (by omega)
                      · exact absurd hk (by omega)
                    next => cases hinv
                  next => cases hinv
                next => cases hinv
              next => cases hinv
            next ix =>
              split at hinv
              next yc' hmk =>
                split at hinv
                next hcond =>
                  cases hinv
                  obtain ⟨hle, hfr2⟩ := hcond
                  obtain ⟨f1, f2, f3⟩ := zk_fr_sp hfr2
                  obtain ⟨q, hy, hk⟩ := zk_mk_sp hmk
                  obtain ⟨hrow, hok⟩ := zk_row_at hy
                  have hml2 := zk_ml_le hy
                  rw [← hrow] at hok hk
                  obtain ⟨o1, o2, o3, o4, o5, o6, o7⟩ := hok
                  rcases hk with ⟨hk, -⟩ | ⟨-, k1, k2⟩ | ⟨hk, -⟩ | ⟨hk, -⟩
                  · exact absurd hk (by omega)
                  · have hM := zk_met ih hy hcall f2
                    have hna : ((st.take (zk_na yc)).reverse).length = zk_na yc := by
                      rw [List.length_reverse, List.length_take]
                      omega
                    have hst : st = ((st.take (zk_na yc)).reverse).reverse ++ st.drop (zk_na yc) := by rw [List.reverse_reverse, List.take_append_drop]
                    refine zk_go (va_runS (As := (st.take (zk_na yc)).reverse) (rest := st.drop (zk_na yc)) (n := zk_na yc) ⟨hx, hb, hml, hown, hts⟩ hM (va_cwS (zk_na yc) hts (zk_goodIn ?_) rfl rfl rfl ⟨o5, o6, o7⟩ ⟨?_, ?_⟩) ⟨zk_blind, hPre⟩ rfl hna hlsz hst ?_ hd hf) hF kk
                    · intro w hw
                      rcases List.mem_append.mp hw with hw | hw
                      · simp only [List.mem_cons, List.not_mem_nil, or_false] at hw
                        rcases hw with rfl | rfl | rfl
                        · exact zk_tb k1 rfl
                        · exact zk_tb k2 rfl
                        · exact zk_tb o4 rfl
                      · exact zk_wy_in hy w hw
                    · show zk_lev yc + 1 ≤ R.frames
                      omega
                    · show 8 + (zk_ml yc + 11) + 40 * zk_lev yc ≤ R.locals
                      omega
                    · show 2 * 0 + zk_sum (st.drop (zk_na yc)) ≤ 8
                      omega
                  · exact absurd hk (by omega)
                  · exact absurd hk (by omega)
                next => cases hinv
              next => cases hinv
            next ix =>
              split at hinv
              next k yc' hmk =>
                split at hinv
                next b rest' hdrop =>
                  split at hinv
                  next hcond =>
                    cases hinv
                    obtain ⟨hk2, hfr2⟩ := hcond
                    obtain ⟨f1, f2, f3⟩ := zk_fr_sp hfr2
                    obtain ⟨q, hy, hk⟩ := zk_mk_sp hmk
                    obtain ⟨hrow, hok⟩ := zk_row_at hy
                    have hml2 := zk_ml_le hy
                    rw [← hrow] at hok hk
                    obtain ⟨o1, o2, o3, o4, o5, o6, o7⟩ := hok
                    have hna : ((st.take (zk_na yc)).reverse).length = zk_na yc := by
                      rw [List.length_reverse, List.length_take]
                      have : (st.drop (zk_na yc)).length = (Value.ref b :: rest).length := by rw [hdrop]
                      rw [List.length_drop] at this
                      simp only [List.length_cons] at this
                      omega
                    have hst : st = ((st.take (zk_na yc)).reverse).reverse ++ .ref b :: rest := by rw [List.reverse_reverse, ← hdrop, List.take_append_drop]
                    have hR : (zk_rm yc (hc.1.length - h.1.length) (hc.2 - h.2)).frames + 1 ≤ R.frames ∧ 8 + (zk_ml yc + 11) + (zk_rm yc (hc.1.length - h.1.length) (hc.2 - h.2)).locals ≤ R.locals := by
                      constructor
                      · show zk_lev yc + 1 ≤ R.frames
                        omega
                      · show 8 + (zk_ml yc + 11) + 40 * zk_lev yc ≤ R.locals
                        omega
                    have hw8 : 2 * 0 + zk_sum rest ≤ 8 := by omega
                    rcases hk with ⟨hk, -⟩ | ⟨hk, -⟩ | ⟨-, k1, k2, k3, k4⟩ | ⟨-, k1, k2, k3, k4⟩
                    · exact absurd hk (by omega)
                    · exact absurd hk (by omega)
                    · have hM := zk_met ih hy hcall f2
                      have hrt : zk_wy yc = Cond.code (zk_row yc).1 (zk_bc yc) (zk_ml yc) none :: zk_tbl := by unfold zk_wy zk_rt; rw [k4]
                      exact zk_go (va_runI (As := (st.take (zk_na yc)).reverse) (rest := rest) (b := b) (n := zk_na yc) ⟨hx, hb, hml, hown, hts⟩ hM (cwI (zk_na yc) hts (zk_goodIn (zk_wy_in hy)) hrt rfl rfl (hts _ (zk_tb o4 rfl)) (hts _ (zk_tb k1 rfl)) (hts _ (zk_tb k2 rfl)) k3 ⟨o5, o6, o7⟩ hR) ⟨zk_blind, hPre⟩ rfl hna hlsz hst hw8 hd hf) hF kk
                    · have hM := zk_met ih hy hcall f2
                      have hrt : zk_wy yc = Cond.code (zk_row yc).1 (zk_bc yc) (zk_ml yc) none :: zk_tbl := by unfold zk_wy zk_rt; rw [k4]
                      exact zk_go (va_runIN (As := (st.take (zk_na yc)).reverse) (rest := rest) (b := b) (n := zk_na yc) ⟨hx, hb, hml, hown, hts⟩ hM ⟨va_cnB (zk_na yc) hts (zk_goodIn (zk_wy_in hy)) hrt rfl rfl (hS.2.1 _ k1 rfl) (hts _ (zk_tb o4 rfl)) ⟨o5, o6, o7⟩ hR, k3, hts _ (zk_tb k2 rfl)⟩ ⟨zk_blind, hPre⟩ rfl hna hlsz hst hw8 hd hf) hF kk
                  next => cases hinv
                next => cases hinv
              next => cases hinv
            next => cases hinv
          next => cases hex
        next => cases hex
      next =>
        split at hex
        next r1 hr1 =>
          cases hex
          have := hret pc ls st H locs ins len hd hr1 hP hF
          rw [Nat.sub_self, Nat.sub_self, Nat.add_zero, Nat.add_zero] at this
          exact this
        next =>
          split at hex
          next pc' st' hj => exact zk_jump_ok hx hb hd hj (ih y p e R s m args below meth c Q hx hb hml hown hts hin hS hfr hlo pc' L st' h H locs ls cells slots r h' hex hl hL hP hF hRc hRs hret)
          next =>
            split at hex
            next st' h1 hh =>
              split at hex
              next hlen =>
                subst hlen
                have m1 := zk_heap_mono hh
                have m2 := zk_mono _ _ _ _ _ _ _ _ hex
                have e1 : cells + (h1.1.length - h.1.length) + (h'.1.length - h1.1.length) = cells + (h'.1.length - h.1.length) := by omega
                have e2 : slots + (h1.2 - h.2) + (h'.2 - h1.2) = slots + (h'.2 - h.2) := by omega
                refine zk_heap_ok hx hb hml hl.1 hown hts hS hP hF hin hfr hlo hd hh (by omega) (by omega) ?_
                intro H1 locs1 hP1 hF1
                refine ih y p e R s m args below meth c Q hx hb hml hown hts hin hS hfr hlo _ L st' h1 H1 locs1 ls _ _ r h' hex hl hL hP1 hF1 (by rw [e1]; exact hRc) (by rw [e2]; exact hRs) ?_
                rw [e1, e2]
                exact hret
              next => cases hex
            next =>
              split at hex
              next L' st' hp =>
                split at hex
                next hlen =>
                  subst hlen
                  refine zk_pure_ok hx hb hd hp hl hL ?_
                  intro ls' hl' hL'
                  exact ih y p e R s m args below meth c Q hx hb hml hown hts hin hS hfr hlo _ L' st' h H locs ls' cells slots r h' hex hl' hL' hP hF hRc hRs hret
                next => cases hex
              next => cases hex
end
section
/-! from a run of the small machine to the law's own run -/
def zk_stl2 : List Int32 := [0, 31, 60, 91, 121, 152, 182, 213, 244, 274, 305, 335, 366, 397, 425, 456, 486, 517, 547, 578, 609, 639, 670, 700, 731, 762, 790, 821, 851, 882, 912, 943, 974, 1004, 1035, 1065, 1096, 1127, 1155, 1186, 1216, 1247, 1277, 1308, 1339, 1369, 1400, 1430]
def zk_starts (j : Nat) : Int32 := zk_stl2.getD j 0
def zk_btl : List Int64 := [0xFFFFFFFFFFFFFFF, 0xFFFFFF, 0xFFFFFFFE, 0x1FFE, 0x7F]
def zk_bits (j : Nat) : Int64 := zk_btl.getD j 0
/-- the ground on which the law runs -/
def zk_Gok (G : zk_G) (b L : Nat) (xs : Nat → Int32) : Prop := b < G.1 ∧ G.2.2 0 < G.1 ∧ G.2.2 1 < G.1 ∧ G.2.1 b = some (0, L, .inl xs) ∧ (∃ f, G.2.1 (G.2.2 0) = some (0, 48, .inl f) ∧ ∀ j, j < 48 → f j = zk_starts j) ∧ (∃ f, G.2.1 (G.2.2 1) = some (1, 5, .inr (.inl f)) ∧ ∀ j, j < 5 → f j = zk_bits j)
abbrev zk_t0 : Term := .static "TickKeeper$Dates" "STARTS" "[I"
abbrev zk_t1 : Term := .static "TickKeeper$Rule" "ALL_BITS" "[J"
theorem zk_e0 : (List.range 48).all (fun j => decide (Cond.eq (.elem zk_t0 (.int (Int32.ofNat j))) (.int (zk_starts j)) ∈ flatC (Jvm.Cond.and given_1 narrow_1))) = true := by decide +kernel
theorem zk_e1 : (List.range 5).all (fun j => decide (Cond.eq (.elem zk_t1 (.int (Int32.ofNat j))) (.long (zk_bits j)) ∈ flatC (Jvm.Cond.and given_1 narrow_1))) = true := by decide +kernel
theorem zk_arr_ne {U : State} {cell : Cell} (h1 : U.isArrayOf cell .int) (h2 : U.isArrayOf cell .long) : False := by
  obtain ⟨-, k1, e1, c1, g1⟩ := h1
  obtain ⟨-, k2, e2, c2, g2⟩ := h2
  rw [e1] at e2
  cases e2
  rw [g1] at g2
  cases g2
theorem zk_kinds {s : State} {args : Array Value} (hts : ∀ w ∈ lw_tbl, w.before args s = true) : ∃ (D : va_G) (dA : Nat → Nat), va_K D zk_CL (zk_tys dA) s := by
  have h1 : ∀ ci : Nat, ∃ q : ClassId × (Nat → Nat), ci < 10 → u_Kn s (zk_cn ci) (zk_T ci) (zk_N ci) q.1 q.2 := by
    intro ci
    by_cases hci : ci < 10
    · obtain ⟨w1, w2, w3⟩ := zk_ws_in hci
      obtain ⟨a, b, h⟩ := u_known (C := zk_cn ci) (T := zk_T ci) (N := zk_N ci) (n := zk_N ci) hts (fun w hw => (List.mem_filter.mp (w1 w hw)).1) (hts _ (List.mem_filter.mp w2).1)
      exact ⟨(a, b), fun _ => h⟩
    · exact ⟨(0, fun _ => 0), fun q => absurd q hci⟩
  obtain ⟨f, hf⟩ := Classical.axiomOfChoice h1
  have h2 : ∀ t : Nat, ∃ cA : Nat, ∀ ty, (zk_tys (fun _ => cA))[t]? = some (cA, ty) → ArrOfT s cA ty ∧ va_RA s cA ty := by
    have prim : ∀ ty, Cond.arrayClass ty ∈ lw_tbl → (∀ cA, va_RA s cA ty ↔ s.vm.findClass ("[" ++ ty.toString) = some cA) → ∃ cA : Nat, ArrOfT s cA ty ∧ va_RA s cA ty := by
      intro ty hw hra
      obtain ⟨cA, k, comp, g1, g2, g3⟩ := Cond.arrayClass_spec (hts _ hw)
      exact ⟨cA, fun n z => ⟨fun k h => (by cases h), k, g2, comp, g3⟩, (hra cA).mpr g1⟩
    have obj : ∀ C, Cond.arrayOver (.object C) ∈ lw_tbl → ∃ cA : Nat, ArrOfT s cA (.object C) ∧ va_RA s cA (.object C) := by
      intro C hw
      obtain ⟨comp, cA, k, g1, -, g2, g3, g4⟩ := Cond.arrayOver_spec (hts _ hw)
      exact ⟨cA, fun n z => ⟨fun k h => (by cases h), k, g2, comp, g3⟩, k, comp, g2, g3, g1, g4⟩
    intro t
    match t with
    | 0 => obtain ⟨cA, g⟩ := prim .int (by decide +kernel) (fun _ => Iff.rfl); exact ⟨cA, fun ty h => by cases h; exact g⟩
    | 1 => obtain ⟨cA, g⟩ := prim .long (by decide +kernel) (fun _ => Iff.rfl); exact ⟨cA, fun ty h => by cases h; exact g⟩
    | 2 => obtain ⟨cA, g⟩ := prim .boolean (by decide +kernel) (fun _ => Iff.rfl); exact ⟨cA, fun ty h => by cases h; exact g⟩
    | 3 => obtain ⟨cA, g⟩ := obj (zk_cn 0) (by decide +kernel); exact ⟨cA, fun ty h => by cases h; exact g⟩
    | 4 => obtain ⟨cA, g⟩ := obj (zk_cn 1) (by decide +kernel); exact ⟨cA, fun ty h => by cases h; exact g⟩
    | 5 => obtain ⟨cA, g⟩ := obj (zk_cn 3) (by decide +kernel); exact ⟨cA, fun ty h => by cases h; exact g⟩
    | 6 => obtain ⟨cA, g⟩ := obj (zk_cn 7) (by decide +kernel); exact ⟨cA, fun ty h => by cases h; exact g⟩
    | t + 7 => exact ⟨0, fun ty h => by cases h⟩
  obtain ⟨dA, hA⟩ := Classical.axiomOfChoice h2
  refine ⟨(fun ci => (f ci).1, fun ci => (f ci).2), dA, ?_, ?_⟩
  · intro ci q hq
    have hl : ci < 10 := by
      have := (List.getElem?_eq_some_iff.mp hq).1
      unfold zk_CL at this
      simpa using this
    rw [zk_CL_at hl] at hq
    cases hq
    exact hf ci hl
  · intro t q hq
    match t, hq with
    | 0, hq => cases hq; exact hA 0 _ rfl
    | 1, hq => cases hq; exact hA 1 _ rfl
    | 2, hq => cases hq; exact hA 2 _ rfl
    | 3, hq => cases hq; exact hA 3 _ rfl
    | 4, hq => cases hq; exact hA 4 _ rfl
    | 5, hq => cases hq; exact hA 5 _ rfl
    | 6, hq => cases hq; exact hA 6 _ rfl
    | t + 7, hq => cases hq
/-! THE CLAIM OUT OF ONE WALK OF THE LAW'S BODY. Your part is whole_start (and what it stands on); all else here is the same for every law, but numbers. -/
def R_law : String := "TickKeeperLaw"
def lw_P (b : Addr) (xs : List Int32) (args : Array Value) (s : State) : Prop := args = #[.ref b] ∧ s.IntsAt b xs ∧ xs.length ≤ 2560 ∧ (Jvm.Cond.and given_1 narrow_1).before args s = true
def lw_Q (_ : Array Value) (s : State) (o : Outcome) (t : State) : Prop := o = .returned (some (.int 1)) ∧ Framed s o t [] 600000 7302249
def lw_Z (below : List Frame) (a : Array Value) (s : State) : State → Prop := fun t => ∃ o, t.status = .running ∧ Ended t below o ∧ lw_Q a s o t
/-- the law's own end, with 1 on the stack, nothing written that was there before, its room as the claim has it -/
theorem lw_ret {p : Program} {l : Launch} {e : Env} {s : State} {m : MethodId} {below : List Frame} {meth : Method} {c : Code} {b : Nat} (hx : p.tables.exec = Jvm.exec) (hb : c.code = code) (hr : meth.sig.returnType = ret) (hlocks : meth.locks = false) {pc : Nat} {H : Heap} {ls : Array Slot} (hdg : decode code pc = .ok (.ireturn, 1)) : W p l e room_1 s m #[Value.ref b] below meth c H [] 600000 7302249 (lw_Z below #[Value.ref b] s) (F0 m pc ls [.int 1]) := by
  intro T hT X
  obtain ⟨fs, hret, hrun, hended, hW, hframe⟩ := X.leave (v := some (.int 1)) (hlocks := hlocks) (fun h => by rw [hr] at h; cases h)
  have hmeth' : T.vm.method? m = some meth := X.method'
  refine ⟨T.setFrames fs, ?_, .returned (some (.int 1)), hrun, hended, rfl, ⟨_, rfl⟩, hW, hframe⟩
  jvm_step X.here [X.here.top, hx, hb, hdg, hmeth', hr, ret, narrow_b1]
  (try refine ⟨rfl, ?_⟩); (try refine ⟨rfl, ?_⟩)
  first | (intro acts; rw [hret _ acts rfl rfl rfl]) | rw [hret _ _ rfl rfl rfl]
  exact Steps.refl _
/-- what holds at the law's entry: the machine, the code, the tables' words (any of lw_tbl by 'hts w (by decide +kernel)'), the script of L ints xs at the cell b, what the Statement gives of the start (any of its parts by flat_of_before) -/
def lw_At (p : Program) (s : State) (m : MethodId) (meth : Method) (c : Code) (b L : Nat) (xs : Nat → Int32) : Prop :=
  p.tables.exec = Jvm.exec ∧ c.code = code ∧ meth.sig.returnType = ret ∧ c.maxLocals = 4 ∧ s.vm.findClass R_law = some m.cls ∧ (∀ w ∈ lw_tbl, w.before #[Value.ref b] s = true) ∧ va_X b L xs s s.heap ∧ b < s.heap.size ∧ meth.locks = false ∧ (Jvm.Cond.and given_1 narrow_1).before #[Value.ref b] s = true
set_option maxHeartbeats 4000000 in
theorem zk_whole {p : Program} {e : Env} {s : State} {m : MethodId} {below : List Frame} {meth : Method} {c : Code} (l : Launch) {b L : Nat} {xs : Nat → Int32} (hL : L ≤ 2560) (C0 : lw_At p s m meth c b L xs)
    (goal : ∀ G : zk_G, zk_Gok G b L xs → ∃ (n : Nat) (h' : zk_H), zk_ex n G 205 0 (zk_ent 4 [.ref b]) [] ([], 0) = some (some (.int 1), h') ∧ h'.1.length ≤ 600000 ∧ h'.2 ≤ 7302249) :
    W p l e room_1 s m #[Value.ref b] below meth c s.heap [] 0 0 (lw_Z below #[Value.ref b] s) (entryFrame m ([Value.ref b] : List Value).toArray 4) := by
  obtain ⟨hx, hb, hr, hml, hown, hts, hX, hbl, hlocks, hgv⟩ := id C0
  have hA : ∀ a : Nat, a < s.heap.size → ¬ (fun q : Nat => s.heap.size ≤ q) a := fun a h q => Nat.lt_irrefl _ (Nat.lt_of_lt_of_le h q)
  have hfl := flat_of_before _ hgv
  obtain ⟨D, dA, hK⟩ := zk_kinds hts
  obtain ⟨t0, ht0, hT0⟩ := va_Tof (tm := zk_t0) (ty := .int) (N := 48) (f := fun j => .int (zk_starts j)) (A := fun q : Nat => s.heap.size ≤ q) (by decide) (hfl _ (by decide +kernel)) (va_eqt (hfl _ (by decide +kernel))) (fun j hj => va_eqt (hfl _ (by
    have := List.all_eq_true.mp zk_e0 j (List.mem_range.mpr hj)
    simpa using this))) hA
  obtain ⟨t1, ht1, hT1⟩ := va_Tof (tm := zk_t1) (ty := .long) (N := 5) (f := fun j => .long (zk_bits j)) (A := fun q : Nat => s.heap.size ≤ q) (by decide) (hfl _ (by decide +kernel)) (va_eqt (hfl _ (by decide +kernel))) (fun j hj => va_eqtl (hfl _ (by
    have := List.all_eq_true.mp zk_e1 j (List.mem_range.mpr hj)
    simpa using this))) hA
  have hZ0 : va_Z "TickKeeper$Dates" "STARTS" "[I" (.ref t0) (fun q : Nat => s.heap.size ≤ q) s s.heap := va_Zof (hts _ (by decide +kernel)) (hts _ (by decide +kernel)) ht0 hA
  have hZ1 : va_Z "TickKeeper$Rule" "ALL_BITS" "[J" (.ref t1) (fun q : Nat => s.heap.size ≤ q) s s.heap := va_Zof (hts _ (by decide +kernel)) (hts _ (by decide +kernel)) ht1 hA
  have hTb : va_T .int b L (fun j => .int (xs j)) (fun q : Nat => s.heap.size ≤ q) s s.heap := by
    obtain ⟨scr, g1, g2, g3, g4, g5⟩ := hX
    exact ⟨scr, g1, g2, g3, Nat.le_of_eq g4.symm, by rw [g4], g5, hA b hbl⟩
  have l0 : t0 < s.heap.size := by obtain ⟨c0, g, -⟩ := hT0; exact (Array.getElem?_eq_some_iff.mp g).1
  have l1 : t1 < s.heap.size := by obtain ⟨c1, g, -⟩ := hT1; exact (Array.getElem?_eq_some_iff.mp g).1
  have n01 : t0 ≠ t1 := by
    rintro rfl
    obtain ⟨c0, g0, g1, -⟩ := hT0
    obtain ⟨c1, k0, k1, -⟩ := hT1
    rw [g0] at k0
    cases k0
    exact zk_arr_ne g1 k1
  have nb1 : b ≠ t1 := by
    rintro rfl
    obtain ⟨c0, g0, g1, -⟩ := hTb
    obtain ⟨c1, k0, k1, -⟩ := hT1
    rw [g0] at k0
    cases k0
    exact zk_arr_ne g1 k1
  let ro : Nat → Option (Nat × vp_A) := fun a => if a = b then some (0, L, .inl xs) else if a = t0 then some (0, 48, .inl zk_starts) else if a = t1 then some (1, 5, .inr (.inl zk_bits)) else none
  let sa : Nat → Nat := fun k => if k = 0 then t0 else t1
  have hG : zk_Gok (s.heap.size, ro, sa) b L xs := by
    refine ⟨hbl, l0, l1, by simp [ro], ?_, ⟨zk_bits, by simp [ro, sa, Ne.symm nb1, Ne.symm n01], fun _ _ => rfl⟩⟩
    by_cases hbt : b = t0
    · subst hbt
      obtain ⟨c0, g0, g1, g2, g3, g4, g5, g6⟩ := hT0
      obtain ⟨scr, k1, k2, k3, k4, k5⟩ := hX
      rw [g0] at k1
      cases k1
      have hL48 : L = 48 := by
        rw [k4] at g4 g3
        have e1 : (nI L).toInt = (nI 48).toInt := congrArg Int32.toInt g4
        rw [nI_toInt (by omega), nI_toInt (by decide)] at e1
        omega
      subst hL48
      refine ⟨xs, by simp [ro, sa], fun j hj => ?_⟩
      have e1 := k5 j hj
      rw [g5 j hj] at e1
      exact (Value.int.inj (Option.some.inj e1)).symm
    · exact ⟨zk_starts, by simp [ro, sa, Ne.symm hbt], fun _ _ => rfl⟩
  obtain ⟨n, h', hex, hc, hs⟩ := goal _ hG
  have hS : zk_S (s.heap.size, ro, sa) D dA s := by
    refine ⟨hK, fun w hw hn => ?_, ⟨va_AO.of (hts (.arrayOver (.object (zk_cn 0))) (by decide +kernel)), va_AO.of (hts (.arrayOver (.object (zk_cn 1))) (by decide +kernel)), va_AO.of (hts (.arrayOver (.object (zk_cn 3))) (by decide +kernel)), va_AO.of (hts (.arrayOver (.object (zk_cn 7))) (by decide +kernel))⟩, hZ0, hZ1, ?_⟩
    · have := hts w hw
      cases w
      case fieldLinkNest => exact va_Nw.of rfl this
      case methodLinkNest => exact va_Nw.of rfl this
      all_goals (exact nomatch hn)
    · intro a t x hx
      dsimp only [ro] at hx
      split at hx
      next ha => cases hx; subst ha; exact Or.inl ⟨_, _, rfl, rfl, hTb⟩
      next =>
        split at hx
        next ha => cases hx; subst ha; exact Or.inl ⟨_, _, rfl, rfl, hT0⟩
        next =>
          split at hx
          next ha => cases hx; subst ha; exact Or.inr ⟨_, _, rfl, rfl, hT1⟩
          next => cases hx
  have hl := lv_entry ([.ref b]) (n := 4) (Nat.le_of_ble_eq_true rfl)
  rw [lg_entry_eq]
  generalize (lg_sl ([.ref b]) ++ List.replicate (4 - (lg_sl ([.ref b])).length) Slot.unset).toArray = ls at hl ⊢
  refine zk_body l (s.heap.size, ro, sa) D dA n 205 p e room_1 s m #[Value.ref b] below meth c _ hx hb hml hown (fun w hw => hts w (List.mem_filter.mp hw).1) (fun q => absurd q (by decide +kernel)) hS (by decide +kernel) (by decide +kernel) 0 (zk_ent 4 [.ref b]) [] ([], 0) s.heap [] ls 0 0 _ h' hex (zk_ent_has hl) rfl ⟨fun k q hk => (nomatch hk), rfl⟩ va_S.rf (by simp only [List.length_nil, Nat.sub_zero, Nat.zero_add]; exact hc) (by simp only [Nat.sub_zero, Nat.zero_add]; exact hs) ?_
  intro pc ls st H locs ins len hd hret hP' hF'
  have hi : ins = .ireturn ∧ len = 1 ∧ st = [.int 1] := by
    unfold zk_ret at hret
    split at hret
    next =>
      split at hret
      next h1 => exact absurd h1 (by decide +kernel)
      next v h1 =>
        split at hret
        next hl1 =>
          split at hret
          next => cases hret; exact ⟨rfl, hl1, rfl⟩
          next => cases hret
        next => cases hret
      next => cases hret
    next =>
      split at hret
      next h1 => exact absurd h1 (by decide +kernel)
      next => cases hret
    next =>
      split at hret
      next n0 a0 h1 => exact absurd h1 (fun q => by cases q)
      next n0 h1 => exact absurd h1 (fun q => by cases q)
      next n0 a0 h1 => exact absurd h1 (fun q => by cases q)
      next => cases hret
    next =>
      split at hret
      next h1 => exact absurd h1 (by decide +kernel)
      next => cases hret
    next => cases hret
  obtain ⟨rfl, rfl, rfl⟩ := hi
  refine va_forget (fun q hq => hF'.2.2 q hq) ?_
  refine W.widen (k := 600000) (n := 7302249) (by simp only [List.length_nil, Nat.sub_zero, Nat.zero_add]; exact hc) (by simp only [Nat.sub_zero, Nat.zero_add]; exact hs) ?_
  exact lw_ret hx hb hr hlocks hd
end
section
/-! the small machine's runs, goal first -/
def zk_wp (G : zk_G) (y pc : Nat) (L : zk_L) (st : List Value) (h : zk_H) (Q : Option Value → zk_H → Prop) : Prop := ∃ (n : Nat) (r : Option Value) (h' : zk_H), zk_ex n G y pc L st h = some (r, h') ∧ Q r h'
theorem zk_ex_succ {G : zk_G} : ∀ (n y pc : Nat) (L : zk_L) (st : List Value) (h : zk_H) (q : Option Value × zk_H), zk_ex n G y pc L st h = some q → zk_ex (n + 1) G y pc L st h = some q := by
  intro n
  induction n with
  | zero => intro y pc L st h q hh; cases hh
  | succ n ih =>
    intro y pc L st h q hh
    unfold zk_ex at hh ⊢
    split at hh
    next => cases hh
    next ins len hft =>
      split at hh
      next yc As rest hinv =>
        split at hh
        next hl =>
          split at hh
          next r1 h1 h2 =>
            rw [if_pos hl, ih _ _ _ _ _ _ h2]
            exact ih _ _ _ _ _ _ hh
          next => cases hh
        next => cases hh
      next =>
        split at hh
        next => exact hh
        next =>
          split at hh
          next => exact ih _ _ _ _ _ _ hh
          next =>
            split at hh
            next st1 h1 hp =>
              split at hh
              next hl => rw [if_pos hl]; exact ih _ _ _ _ _ _ hh
              next => cases hh
            next =>
              split at hh
              next =>
                split at hh
                next hl => rw [if_pos hl]; exact ih _ _ _ _ _ _ hh
                next => cases hh
              next => cases hh
theorem zk_ex_le {G : zk_G} {n k y pc : Nat} {L : zk_L} {st : List Value} {h : zk_H} {q : Option Value × zk_H} (hk : n ≤ k) (hh : zk_ex n G y pc L st h = some q) : zk_ex k G y pc L st h = some q := by
  induction hk with
  | refl => exact hh
  | step _ ih => exact zk_ex_succ _ _ _ _ _ _ _ ih
def zk_wpI (G : zk_G) (y : Nat) (ins : Instr) (len pc : Nat) (L : zk_L) (st : List Value) (h : zk_H) (Q : Option Value → zk_H → Prop) : Prop := match zk_inv G y ins st h with
  | some (yc, As, rest) => len = 3 ∧ zk_wp G yc 0 (zk_ent (zk_ml yc) As) [] h (fun r h' => zk_wp G y (pc + 3) L (r.toList ++ rest) h' Q)
  | none => match zk_ret (zk_rt y) ins len st with
    | some r => Q r h
    | none => match zk_jump ins len pc st with
      | some (pc', st') => zk_wp G y pc' L st' h Q
      | none => match zk_heap G (zk_c y) (zk_ini y) (zk_lev y) ins st h with
        | some (st', h') => len = zk_len ins ∧ zk_wp G y (pc + len) L st' h' Q
        | none => match zk_pure ins L st with
          | some (L', st') => len = zk_len ins ∧ zk_wp G y (pc + len) L' st' h Q
          | none => False
theorem zk_wp_iff {G : zk_G} {y pc : Nat} {ins : Instr} {len : Nat} (hft : zk_ft y pc = some (ins, len)) {L : zk_L} {st : List Value} {h : zk_H} {Q : Option Value → zk_H → Prop} : zk_wp G y pc L st h Q ↔ zk_wpI G y ins len pc L st h Q := by
  constructor
  · rintro ⟨n, r, h', hex, hQ⟩
    cases n with
    | zero => cases hex
    | succ n =>
      unfold zk_ex at hex
      rw [hft] at hex
      dsimp only at hex
      unfold zk_wpI
      split at hex
      next yc As rest hinv =>
        rw [hinv]
        split at hex
        next hl =>
          split at hex
          next r1 h1 h2 => exact ⟨hl, n, r1, h1, h2, n, r, h', hex, hQ⟩
          next => cases hex
        next => cases hex
      next hinv =>
        rw [hinv]
        dsimp only
        split at hex
        next r1 hr => rw [hr]; cases hex; exact hQ
        next hr =>
          rw [hr]
          dsimp only
          split at hex
          next pc' st' hj => rw [hj]; exact ⟨n, r, h', hex, hQ⟩
          next hj =>
            rw [hj]
            dsimp only
            split at hex
            next st1 h1 hp =>
              rw [hp]
              split at hex
              next hl => exact ⟨hl, n, r, h', hex, hQ⟩
              next => cases hex
            next hp =>
              rw [hp]
              dsimp only
              split at hex
              next L1 st1 hq =>
                rw [hq]
                split at hex
                next hl => exact ⟨hl, n, r, h', hex, hQ⟩
                next => cases hex
              next => cases hex
  · intro hw
    unfold zk_wpI at hw
    split at hw
    next yc As rest hinv =>
      obtain ⟨hl, n1, r1, h1, e1, n2, r, h', e2, hQ⟩ := hw
      refine ⟨max n1 n2 + 1, r, h', ?_, hQ⟩
      unfold zk_ex
      rw [hft]
      dsimp only
      rw [hinv]
      dsimp only
      rw [if_pos hl, zk_ex_le (Nat.le_max_left n1 n2) e1]
      exact zk_ex_le (Nat.le_max_right n1 n2) e2
    next hinv =>
      split at hw
      next r1 hr =>
        refine ⟨1, r1, h, ?_, hw⟩
        unfold zk_ex
        rw [hft]
        dsimp only
        rw [hinv]
        dsimp only
        rw [hr]
      next hr =>
        split at hw
        next pc' st' hj =>
          obtain ⟨n, r, h', e, hQ⟩ := hw
          refine ⟨n + 1, r, h', ?_, hQ⟩
          unfold zk_ex
          rw [hft]
          dsimp only
          rw [hinv]
          dsimp only
          rw [hr]
          dsimp only
          rw [hj]
          exact e
        next hj =>
          split at hw
          next st1 h1 hp =>
            obtain ⟨hl, n, r, h', e, hQ⟩ := hw
            refine ⟨n + 1, r, h', ?_, hQ⟩
            unfold zk_ex
            rw [hft]
            dsimp only
            rw [hinv]
            dsimp only
            rw [hr]
            dsimp only
            rw [hj]
            dsimp only
            rw [hp]
            dsimp only
            rw [if_pos hl]
            exact e
          next hp =>
            split at hw
            next L1 st1 hq =>
              obtain ⟨hl, n, r, h', e, hQ⟩ := hw
              refine ⟨n + 1, r, h', ?_, hQ⟩
              unfold zk_ex
              rw [hft]
              dsimp only
              rw [hinv]
              dsimp only
              rw [hr]
              dsimp only
              rw [hj]
              dsimp only
              rw [hp]
              dsimp only
              rw [hq]
              dsimp only
              rw [if_pos hl]
              exact e
            next => exact hw.elim
theorem zk_wp_mono {G : zk_G} {y pc : Nat} {L : zk_L} {st : List Value} {h : zk_H} {Q Q' : Option Value → zk_H → Prop} (hw : zk_wp G y pc L st h Q) (hq : ∀ r h', Q r h' → Q' r h') : zk_wp G y pc L st h Q' := by
  obtain ⟨n, r, h', e, q⟩ := hw
  exact ⟨n, r, h', e, hq r h' q⟩
end
section
/-! rules for runs of the small machine, an instruction each -/
section ZKR
variable {G : zk_G} {y pc : Nat} {L : zk_L} {st : List Value} {h : zk_H} {Q : Option Value → zk_H → Prop}
theorem zi_pure {ins : Instr} {len : Nat} {L' : zk_L} {st st' : List Value} (hft : zk_ft y pc = some (ins, len)) (h1 : zk_inv G y ins st h = none) (h2 : zk_ret (zk_rt y) ins len st = none) (h3 : zk_jump ins len pc st = none) (h4 : zk_heap G (zk_c y) (zk_ini y) (zk_lev y) ins st h = none) (h5 : zk_pure ins L st = some (L', st')) (hl : len = zk_len ins) : zk_wp G y pc L st h Q ↔ zk_wp G y (pc + len) L' st' h Q := by
  rw [zk_wp_iff hft]
  unfold zk_wpI
  rw [h1]
  dsimp only
  rw [h2]
  dsimp only
  rw [h3]
  dsimp only
  rw [h4]
  dsimp only
  rw [h5]
  exact ⟨And.right, And.intro hl⟩
theorem zi_heap {ins : Instr} {len : Nat} {st st' : List Value} {h' : zk_H} (hft : zk_ft y pc = some (ins, len)) (h1 : zk_inv G y ins st h = none) (h2 : zk_ret (zk_rt y) ins len st = none) (h3 : zk_jump ins len pc st = none) (h4 : zk_heap G (zk_c y) (zk_ini y) (zk_lev y) ins st h = some (st', h')) (hl : len = zk_len ins) : zk_wp G y pc L st h Q ↔ zk_wp G y (pc + len) L st' h' Q := by
  rw [zk_wp_iff hft]
  unfold zk_wpI
  rw [h1]
  dsimp only
  rw [h2]
  dsimp only
  rw [h3]
  dsimp only
  rw [h4]
  exact ⟨And.right, And.intro hl⟩
theorem zi_jump {ins : Instr} {len pc' : Nat} {st st' : List Value} (hft : zk_ft y pc = some (ins, len)) (h1 : zk_inv G y ins st h = none) (h2 : zk_ret (zk_rt y) ins len st = none) (h3 : zk_jump ins len pc st = some (pc', st')) : zk_wp G y pc L st h Q ↔ zk_wp G y pc' L st' h Q := by
  rw [zk_wp_iff hft]
  unfold zk_wpI
  rw [h1]
  dsimp only
  rw [h2]
  dsimp only
  rw [h3]
theorem zi_ret {ins : Instr} {len : Nat} {st : List Value} {r : Option Value} (hft : zk_ft y pc = some (ins, len)) (h1 : zk_inv G y ins st h = none) (h2 : zk_ret (zk_rt y) ins len st = some r) : zk_wp G y pc L st h Q ↔ Q r h := by
  rw [zk_wp_iff hft]
  unfold zk_wpI
  rw [h1]
  dsimp only
  rw [h2]
-- constants
theorem zi_iconst {n : Int} {v : Int32} (hft : zk_ft y pc = some (.iconst n, 1)) (hv : Int32.ofInt n = v) : zk_wp G y pc L st h Q ↔ zk_wp G y (pc + 1) L (.int v :: st) h Q := by subst hv; exact zi_pure hft rfl rfl rfl rfl rfl rfl
theorem zi_bipush {n : Int} {v : Int32} (hft : zk_ft y pc = some (.bipush n, 2)) (hv : (Int8.ofInt n).toInt32 = v) : zk_wp G y pc L st h Q ↔ zk_wp G y (pc + 2) L (.int v :: st) h Q := by subst hv; exact zi_pure hft rfl rfl rfl rfl rfl rfl
theorem zi_sipush {n : Int} {v : Int32} (hft : zk_ft y pc = some (.sipush n, 3)) (hv : (Int16.ofInt n).toInt32 = v) : zk_wp G y pc L st h Q ↔ zk_wp G y (pc + 3) L (.int v :: st) h Q := by subst hv; exact zi_pure hft rfl rfl rfl rfl rfl rfl
theorem zi_lconst {n : Fin 2} {v : Int64} (hft : zk_ft y pc = some (.lconst n, 1)) (hv : Int64.ofNat (n : Nat) = v) : zk_wp G y pc L st h Q ↔ zk_wp G y (pc + 1) L (.long v :: st) h Q := by subst hv; exact zi_pure hft rfl rfl rfl rfl rfl rfl
theorem zi_null (hft : zk_ft y pc = some (.aconst_null, 1)) : zk_wp G y pc L st h Q ↔ zk_wp G y (pc + 1) L (.null :: st) h Q := zi_pure hft rfl rfl rfl rfl rfl rfl
theorem zi_ldc {i : Nat} {v : Int32} (hft : zk_ft y pc = some (.ldc i, 2)) (hv : zk_ki (zk_c y) i = some v) : zk_wp G y pc L st h Q ↔ zk_wp G y (pc + 2) L (.int v :: st) h Q := zi_heap hft rfl rfl rfl (by show (zk_ki (zk_c y) i).map _ = _; rw [hv]; rfl) rfl
theorem zi_ldcw {i : Nat} {v : Int32} (hft : zk_ft y pc = some (.ldc_w i, 3)) (hv : zk_ki (zk_c y) i = some v) : zk_wp G y pc L st h Q ↔ zk_wp G y (pc + 3) L (.int v :: st) h Q := zi_heap hft rfl rfl rfl (by show (zk_ki (zk_c y) i).map _ = _; rw [hv]; rfl) rfl
theorem zi_ldc2 {i : Nat} {v : Int64} (hft : zk_ft y pc = some (.ldc2_w i, 3)) (hv : zk_kl (zk_c y) i = some v) : zk_wp G y pc L st h Q ↔ zk_wp G y (pc + 3) L (.long v :: st) h Q := zi_heap hft rfl rfl rfl (by show (zk_kl (zk_c y) i).map _ = _; rw [hv]; rfl) rfl
-- locals
theorem zi_iload {i : Nat} {x : Int32} (hft : zk_ft y pc = some (.iload i, 2)) (hg : zk_lget L i = some (.int x)) : zk_wp G y pc L st h Q ↔ zk_wp G y (pc + 2) L (.int x :: st) h Q := zi_pure hft rfl rfl rfl rfl (by show zk_ldi L st i = _; unfold zk_ldi; rw [hg]) rfl
theorem zi_iload_n {k : Fin 4} {x : Int32} (hft : zk_ft y pc = some (.iload_n k, 1)) (hg : zk_lget L (k : Nat) = some (.int x)) : zk_wp G y pc L st h Q ↔ zk_wp G y (pc + 1) L (.int x :: st) h Q := zi_pure hft rfl rfl rfl rfl (by show zk_ldi L st k = _; unfold zk_ldi; rw [hg]) rfl
theorem zi_lload {i : Nat} {x : Int64} (hft : zk_ft y pc = some (.lload i, 2)) (hg : zk_lget L i = some (.long x)) : zk_wp G y pc L st h Q ↔ zk_wp G y (pc + 2) L (.long x :: st) h Q := zi_pure hft rfl rfl rfl rfl (by show zk_ldl L st i = _; unfold zk_ldl; rw [hg]) rfl
theorem zi_lload_n {k : Fin 4} {x : Int64} (hft : zk_ft y pc = some (.lload_n k, 1)) (hg : zk_lget L (k : Nat) = some (.long x)) : zk_wp G y pc L st h Q ↔ zk_wp G y (pc + 1) L (.long x :: st) h Q := zi_pure hft rfl rfl rfl rfl (by show zk_ldl L st k = _; unfold zk_ldl; rw [hg]) rfl
theorem zi_aload {i : Nat} {x : Nat} (hft : zk_ft y pc = some (.aload i, 2)) (hg : zk_lget L i = some (.ref x)) : zk_wp G y pc L st h Q ↔ zk_wp G y (pc + 2) L (.ref x :: st) h Q := zi_pure hft rfl rfl rfl rfl (by show zk_lda L st i = _; unfold zk_lda; rw [hg]) rfl
theorem zi_aload_n {k : Fin 4} {x : Nat} (hft : zk_ft y pc = some (.aload_n k, 1)) (hg : zk_lget L (k : Nat) = some (.ref x)) : zk_wp G y pc L st h Q ↔ zk_wp G y (pc + 1) L (.ref x :: st) h Q := zi_pure hft rfl rfl rfl rfl (by show zk_lda L st k = _; unfold zk_lda; rw [hg]) rfl
theorem zi_aloadN {i : Nat} (hft : zk_ft y pc = some (.aload i, 2)) (hg : zk_lget L i = some .null) : zk_wp G y pc L st h Q ↔ zk_wp G y (pc + 2) L (.null :: st) h Q := zi_pure hft rfl rfl rfl rfl (by show zk_lda L st i = _; unfold zk_lda; rw [hg]) rfl
theorem zi_aload_nN {k : Fin 4} (hft : zk_ft y pc = some (.aload_n k, 1)) (hg : zk_lget L (k : Nat) = some .null) : zk_wp G y pc L st h Q ↔ zk_wp G y (pc + 1) L (.null :: st) h Q := zi_pure hft rfl rfl rfl rfl (by show zk_lda L st k = _; unfold zk_lda; rw [hg]) rfl
theorem zi_istore {i : Nat} {x : Int32} (hft : zk_ft y pc = some (.istore i, 2)) (hi : i < L.length) : zk_wp G y pc L (.int x :: st) h Q ↔ zk_wp G y (pc + 2) (zk_l1 L i (.int x)) st h Q := zi_pure hft rfl rfl rfl rfl (by simp [zk_pure, zk_sti, hi]) rfl
theorem zi_istore_n {k : Fin 4} {x : Int32} (hft : zk_ft y pc = some (.istore_n k, 1)) (hi : (k : Nat) < L.length) : zk_wp G y pc L (.int x :: st) h Q ↔ zk_wp G y (pc + 1) (zk_l1 L (k : Nat) (.int x)) st h Q := zi_pure hft rfl rfl rfl rfl (by simp [zk_pure, zk_sti, hi]) rfl
theorem zi_lstore {i : Nat} {x : Int64} (hft : zk_ft y pc = some (.lstore i, 2)) (hi : i + 1 < L.length) : zk_wp G y pc L (.long x :: st) h Q ↔ zk_wp G y (pc + 2) (zk_l2 L i (.long x)) st h Q := zi_pure hft rfl rfl rfl rfl (by simp [zk_pure, zk_stl, hi]) rfl
theorem zi_lstore_n {k : Fin 4} {x : Int64} (hft : zk_ft y pc = some (.lstore_n k, 1)) (hi : (k : Nat) + 1 < L.length) : zk_wp G y pc L (.long x :: st) h Q ↔ zk_wp G y (pc + 1) (zk_l2 L (k : Nat) (.long x)) st h Q := zi_pure hft rfl rfl rfl rfl (by simp [zk_pure, zk_stl, hi]) rfl
theorem zi_astore {i : Nat} {x : Nat} (hft : zk_ft y pc = some (.astore i, 2)) (hi : i < L.length) : zk_wp G y pc L (.ref x :: st) h Q ↔ zk_wp G y (pc + 2) (zk_l1 L i (.ref x)) st h Q := zi_pure hft rfl rfl rfl rfl (by simp [zk_pure, zk_sta, hi]) rfl
theorem zi_astore_n {k : Fin 4} {x : Nat} (hft : zk_ft y pc = some (.astore_n k, 1)) (hi : (k : Nat) < L.length) : zk_wp G y pc L (.ref x :: st) h Q ↔ zk_wp G y (pc + 1) (zk_l1 L (k : Nat) (.ref x)) st h Q := zi_pure hft rfl rfl rfl rfl (by simp [zk_pure, zk_sta, hi]) rfl
theorem zi_astoreN {i : Nat} (hft : zk_ft y pc = some (.astore i, 2)) (hi : i < L.length) : zk_wp G y pc L (.null :: st) h Q ↔ zk_wp G y (pc + 2) (zk_l1 L i .null) st h Q := zi_pure hft rfl rfl rfl rfl (by simp [zk_pure, zk_sta, hi]) rfl
theorem zi_astore_nN {k : Fin 4} (hft : zk_ft y pc = some (.astore_n k, 1)) (hi : (k : Nat) < L.length) : zk_wp G y pc L (.null :: st) h Q ↔ zk_wp G y (pc + 1) (zk_l1 L (k : Nat) .null) st h Q := zi_pure hft rfl rfl rfl rfl (by simp [zk_pure, zk_sta, hi]) rfl
theorem zi_iinc {i : Nat} {n : Int} {k x : Int32} (hft : zk_ft y pc = some (.iinc i n, 3)) (hk : Int32.ofInt n = k) (hg : zk_lget L i = some (.int x)) : zk_wp G y pc L st h Q ↔ zk_wp G y (pc + 3) (zk_l1 L i (.int (x + k))) st h Q := by
  subst hk
  exact zi_pure hft rfl rfl rfl rfl (by simp [zk_pure, hg]) rfl
-- the stack, numbers
theorem zi_pop {v : Value} (hft : zk_ft y pc = some (.pop, 1)) (hc : v.category = 1) : zk_wp G y pc L (v :: st) h Q ↔ zk_wp G y (pc + 1) L st h Q := zi_pure hft rfl rfl rfl rfl (by show (if v.category = 1 then _ else _) = _; exact if_pos hc) rfl
theorem zi_dup {v : Value} (hft : zk_ft y pc = some (.dup, 1)) (hc : v.category = 1) : zk_wp G y pc L (v :: st) h Q ↔ zk_wp G y (pc + 1) L (v :: v :: st) h Q := zi_pure hft rfl rfl rfl rfl (by show (if v.category = 1 then _ else _) = _; exact if_pos hc) rfl
theorem zi_dup2 {v w : Value} (hft : zk_ft y pc = some (.dup2, 1)) (hc : v.category = 1) (hd : w.category = 1) : zk_wp G y pc L (v :: w :: st) h Q ↔ zk_wp G y (pc + 1) L (v :: w :: v :: w :: st) h Q := zi_pure hft rfl rfl rfl rfl (by show (if v.category = 1 then (if w.category = 1 then _ else _) else _) = _; rw [if_pos hc, if_pos hd]) rfl
theorem zi_iadd {a b : Int32} (hft : zk_ft y pc = some (.iadd, 1)) : zk_wp G y pc L (.int b :: .int a :: st) h Q ↔ zk_wp G y (pc + 1) L (.int (a + b) :: st) h Q := zi_pure hft rfl rfl rfl rfl rfl rfl
theorem zi_isub {a b : Int32} (hft : zk_ft y pc = some (.isub, 1)) : zk_wp G y pc L (.int b :: .int a :: st) h Q ↔ zk_wp G y (pc + 1) L (.int (a - b) :: st) h Q := zi_pure hft rfl rfl rfl rfl rfl rfl
theorem zi_imul {a b : Int32} (hft : zk_ft y pc = some (.imul, 1)) : zk_wp G y pc L (.int b :: .int a :: st) h Q ↔ zk_wp G y (pc + 1) L (.int (a * b) :: st) h Q := zi_pure hft rfl rfl rfl rfl rfl rfl
theorem zi_iand {a b : Int32} (hft : zk_ft y pc = some (.iand, 1)) : zk_wp G y pc L (.int b :: .int a :: st) h Q ↔ zk_wp G y (pc + 1) L (.int (a &&& b) :: st) h Q := zi_pure hft rfl rfl rfl rfl rfl rfl
theorem zi_ior {a b : Int32} (hft : zk_ft y pc = some (.ior, 1)) : zk_wp G y pc L (.int b :: .int a :: st) h Q ↔ zk_wp G y (pc + 1) L (.int (a ||| b) :: st) h Q := zi_pure hft rfl rfl rfl rfl rfl rfl
theorem zi_ixor {a b : Int32} (hft : zk_ft y pc = some (.ixor, 1)) : zk_wp G y pc L (.int b :: .int a :: st) h Q ↔ zk_wp G y (pc + 1) L (.int (a ^^^ b) :: st) h Q := zi_pure hft rfl rfl rfl rfl rfl rfl
theorem zi_idiv {a b : Int32} (hft : zk_ft y pc = some (.idiv, 1)) (hb : ¬ b = 0) : zk_wp G y pc L (.int b :: .int a :: st) h Q ↔ zk_wp G y (pc + 1) L (.int (a / b) :: st) h Q := zi_pure hft rfl rfl rfl rfl (by simp [zk_pure, zk_id, hb]) rfl
theorem zi_irem {a b : Int32} (hft : zk_ft y pc = some (.irem, 1)) (hb : ¬ b = 0) : zk_wp G y pc L (.int b :: .int a :: st) h Q ↔ zk_wp G y (pc + 1) L (.int (a - a / b * b) :: st) h Q := zi_pure hft rfl rfl rfl rfl (by simp [zk_pure, zk_id, hb]) rfl
theorem zi_ishl {a b : Int32} (hft : zk_ft y pc = some (.ishl, 1)) : zk_wp G y pc L (.int b :: .int a :: st) h Q ↔ zk_wp G y (pc + 1) L (.int (a <<< (b &&& 31)) :: st) h Q := zi_pure hft rfl rfl rfl rfl rfl rfl
theorem zi_ishr {a b : Int32} (hft : zk_ft y pc = some (.ishr, 1)) : zk_wp G y pc L (.int b :: .int a :: st) h Q ↔ zk_wp G y (pc + 1) L (.int (a >>> (b &&& 31)) :: st) h Q := zi_pure hft rfl rfl rfl rfl rfl rfl
theorem zi_iushr {a b : Int32} (hft : zk_ft y pc = some (.iushr, 1)) : zk_wp G y pc L (.int b :: .int a :: st) h Q ↔ zk_wp G y (pc + 1) L (.int (a.toUInt32 >>> (b.toUInt32 &&& Int32.toUInt32 31)).toInt32 :: st) h Q := zi_pure hft rfl rfl rfl rfl rfl rfl
theorem zi_ladd {a b : Int64} (hft : zk_ft y pc = some (.ladd, 1)) : zk_wp G y pc L (.long b :: .long a :: st) h Q ↔ zk_wp G y (pc + 1) L (.long (a + b) :: st) h Q := zi_pure hft rfl rfl rfl rfl rfl rfl
theorem zi_lsub {a b : Int64} (hft : zk_ft y pc = some (.lsub, 1)) : zk_wp G y pc L (.long b :: .long a :: st) h Q ↔ zk_wp G y (pc + 1) L (.long (a - b) :: st) h Q := zi_pure hft rfl rfl rfl rfl rfl rfl
theorem zi_land {a b : Int64} (hft : zk_ft y pc = some (.land, 1)) : zk_wp G y pc L (.long b :: .long a :: st) h Q ↔ zk_wp G y (pc + 1) L (.long (a &&& b) :: st) h Q := zi_pure hft rfl rfl rfl rfl rfl rfl
theorem zi_lor {a b : Int64} (hft : zk_ft y pc = some (.lor, 1)) : zk_wp G y pc L (.long b :: .long a :: st) h Q ↔ zk_wp G y (pc + 1) L (.long (a ||| b) :: st) h Q := zi_pure hft rfl rfl rfl rfl rfl rfl
theorem zi_lxor {a b : Int64} (hft : zk_ft y pc = some (.lxor, 1)) : zk_wp G y pc L (.long b :: .long a :: st) h Q ↔ zk_wp G y (pc + 1) L (.long (a ^^^ b) :: st) h Q := zi_pure hft rfl rfl rfl rfl rfl rfl
theorem zi_lneg {a : Int64} (hft : zk_ft y pc = some (.lneg, 1)) : zk_wp G y pc L (.long a :: st) h Q ↔ zk_wp G y (pc + 1) L (.long (-a) :: st) h Q := zi_pure hft rfl rfl rfl rfl rfl rfl
theorem zi_lshl {a : Int64} {b : Int32} (hft : zk_ft y pc = some (.lshl, 1)) : zk_wp G y pc L (.int b :: .long a :: st) h Q ↔ zk_wp G y (pc + 1) L (.long (a <<< (b.toInt64 &&& 63)) :: st) h Q := zi_pure hft rfl rfl rfl rfl rfl rfl
theorem zi_lshr {a : Int64} {b : Int32} (hft : zk_ft y pc = some (.lshr, 1)) : zk_wp G y pc L (.int b :: .long a :: st) h Q ↔ zk_wp G y (pc + 1) L (.long (a >>> (b.toInt64 &&& 63)) :: st) h Q := zi_pure hft rfl rfl rfl rfl rfl rfl
theorem zi_lushr {a : Int64} {b : Int32} (hft : zk_ft y pc = some (.lushr, 1)) : zk_wp G y pc L (.int b :: .long a :: st) h Q ↔ zk_wp G y (pc + 1) L (.long (a.toUInt64 >>> (b.toInt64.toUInt64 &&& Int64.toUInt64 63)).toInt64 :: st) h Q := zi_pure hft rfl rfl rfl rfl rfl rfl
theorem zi_lcmp {a b : Int64} (hft : zk_ft y pc = some (.lcmp, 1)) : zk_wp G y pc L (.long b :: .long a :: st) h Q ↔ zk_wp G y (pc + 1) L (.int (lg_cmp a b) :: st) h Q := zi_pure hft rfl rfl rfl rfl rfl rfl
theorem zi_i2l {a : Int32} (hft : zk_ft y pc = some (.i2l, 1)) : zk_wp G y pc L (.int a :: st) h Q ↔ zk_wp G y (pc + 1) L (.long a.toInt64 :: st) h Q := zi_pure hft rfl rfl rfl rfl rfl rfl
theorem zi_l2i {a : Int64} (hft : zk_ft y pc = some (.l2i, 1)) : zk_wp G y pc L (.long a :: st) h Q ↔ zk_wp G y (pc + 1) L (.int a.toInt32 :: st) h Q := zi_pure hft rfl rfl rfl rfl rfl rfl
-- jumps
theorem zi_tg {pc : Nat} {off : Int} {t : Nat} (ht : (pc : Int) + off = (t : Int)) : zk_tg pc off = some t := by
  unfold zk_tg
  rw [ht]
  rw [if_pos (Int.natCast_nonneg t)]
  simp
theorem zi_goto {off : Int} {t : Nat} (hft : zk_ft y pc = some (.goto off, 3)) (ht : (pc : Int) + off = (t : Int)) : zk_wp G y pc L st h Q ↔ zk_wp G y t L st h Q := zi_jump hft rfl rfl (by simp [zk_jump, zi_tg ht])
theorem zi_br {A B : Prop} {c : Bool} {C : Prop} (hc : c = true ↔ C) {t u : Nat × List Value} {P : Nat × List Value → Prop} (ha : A ↔ P t) (hb : B ↔ P u) : P (if c then t else u) ↔ ((C → A) ∧ (¬ C → B)) := by
  by_cases h : c = true
  · rw [if_pos h]
    have hC := hc.mp h
    exact ⟨fun x => ⟨fun _ => ha.mpr x, fun n => absurd hC n⟩, fun x => ha.mp (x.1 hC)⟩
  · rw [if_neg h]
    have hC : ¬ C := fun q => h (hc.mpr q)
    exact ⟨fun x => ⟨fun n => absurd n hC, fun _ => hb.mpr x⟩, fun x => hb.mp (x.2 hC)⟩
theorem zi_c2 {k : ClassFile.Cond} {a b : Int32} : zk_c2b k a b = true ↔ zk_c2 k a b := by
  cases k <;> simp [zk_c2b, zk_c2]
theorem zi_if {k : ClassFile.Cond} {off : Int} {t : Nat} {x : Int32} (hft : zk_ft y pc = some (.ifCond k off, 3)) (ht : (pc : Int) + off = (t : Int)) : zk_wp G y pc L (.int x :: st) h Q ↔ ((zk_c2 k x 0 → zk_wp G y t L st h Q) ∧ (¬ zk_c2 k x 0 → zk_wp G y (pc + 3) L st h Q)) := by
  refine (zi_jump (pc' := (if zk_c2b k x 0 then (t, st) else (pc + 3, st)).1) (st' := (if zk_c2b k x 0 then (t, st) else (pc + 3, st)).2) hft rfl rfl ?_).trans ?_
  · simp [zk_jump, zi_tg ht]
  · exact zi_br (P := fun q => zk_wp G y q.1 L q.2 h Q) zi_c2 Iff.rfl Iff.rfl
theorem zi_icmp {k : ClassFile.Cond} {off : Int} {t : Nat} {a b : Int32} (hft : zk_ft y pc = some (.if_icmp k off, 3)) (ht : (pc : Int) + off = (t : Int)) : zk_wp G y pc L (.int b :: .int a :: st) h Q ↔ ((zk_c2 k a b → zk_wp G y t L st h Q) ∧ (¬ zk_c2 k a b → zk_wp G y (pc + 3) L st h Q)) := by
  refine (zi_jump (pc' := (if zk_c2b k a b then (t, st) else (pc + 3, st)).1) (st' := (if zk_c2b k a b then (t, st) else (pc + 3, st)).2) hft rfl rfl ?_).trans ?_
  · simp [zk_jump, zi_tg ht]
  · exact zi_br (P := fun q => zk_wp G y q.1 L q.2 h Q) zi_c2 Iff.rfl Iff.rfl
theorem zi_ifnull {off : Int} {a : Nat} (hft : zk_ft y pc = some (.ifnull off, 3)) : zk_wp G y pc L (.ref a :: st) h Q ↔ zk_wp G y (pc + 3) L st h Q := zi_jump hft rfl rfl rfl
theorem zi_ifnullN {off : Int} {t : Nat} (hft : zk_ft y pc = some (.ifnull off, 3)) (ht : (pc : Int) + off = (t : Int)) : zk_wp G y pc L (.null :: st) h Q ↔ zk_wp G y t L st h Q := zi_jump hft rfl rfl (by simp [zk_jump, zi_tg ht])
theorem zi_ifnonnull {off : Int} {a t : Nat} (hft : zk_ft y pc = some (.ifnonnull off, 3)) (ht : (pc : Int) + off = (t : Int)) : zk_wp G y pc L (.ref a :: st) h Q ↔ zk_wp G y t L st h Q := zi_jump hft rfl rfl (by simp [zk_jump, zi_tg ht])
theorem zi_ifnonnullN {off : Int} (hft : zk_ft y pc = some (.ifnonnull off, 3)) : zk_wp G y pc L (.null :: st) h Q ↔ zk_wp G y (pc + 3) L st h Q := zi_jump hft rfl rfl rfl
-- ends
theorem zi_iret {v : Int32} (hft : zk_ft y pc = some (.ireturn, 1)) (hr : zk_rt y = some .int) : zk_wp G y pc L [.int v] h Q ↔ Q (some (.int v)) h := zi_ret hft rfl (by rw [hr]; rfl)
theorem zi_zret {v : Int32} (hft : zk_ft y pc = some (.ireturn, 1)) (hr : zk_rt y = some .boolean) (hv : v = 0 ∨ v = 1) : zk_wp G y pc L [.int v] h Q ↔ Q (some (.int v)) h := zi_ret hft rfl (by rw [hr]; simp [zk_ret, hv])
theorem zi_lret {v : Int64} (hft : zk_ft y pc = some (.lreturn, 1)) (hr : zk_rt y = some .long) : zk_wp G y pc L [.long v] h Q ↔ Q (some (.long v)) h := zi_ret hft rfl (by rw [hr]; rfl)
theorem zi_aret {a : Nat} {n : String} (hft : zk_ft y pc = some (.areturn, 1)) (hr : zk_rt y = some (.object n)) : zk_wp G y pc L [.ref a] h Q ↔ Q (some (.ref a)) h := zi_ret hft rfl (by rw [hr]; rfl)
theorem zi_aretN {n : String} (hft : zk_ft y pc = some (.areturn, 1)) (hr : zk_rt y = some (.object n)) : zk_wp G y pc L [.null] h Q ↔ Q (some .null) h := zi_ret hft rfl (by rw [hr]; rfl)
theorem zi_aretA {a : Nat} {t : FieldType} (hft : zk_ft y pc = some (.areturn, 1)) (hr : zk_rt y = some (.array t)) : zk_wp G y pc L [.ref a] h Q ↔ Q (some (.ref a)) h := zi_ret hft rfl (by rw [hr]; rfl)
theorem zi_vret (hft : zk_ft y pc = some (.return_, 1)) (hr : zk_rt y = none) : zk_wp G y pc L [] h Q ↔ Q none h := zi_ret hft rfl (by rw [hr]; rfl)
end ZKR
end
section
/-! the rules once more, for use by a rewriting program: numbers first, then all else under a quantifier -/
theorem zu_iadd (y pc pc' : Nat) (hft : zk_ft y pc = some (.iadd, 1)) (hp : pc + 1 = pc') : ∀ (G : zk_G) (L : zk_L) (st : List Value) (h : zk_H) (Q : Option Value → zk_H → Prop) (a b : Int32), zk_wp G y pc L (.int b :: .int a :: st) h Q ↔ zk_wp G y pc' L (.int (a + b) :: st) h Q := by intros; subst hp; exact zi_iadd hft
theorem zu_isub (y pc pc' : Nat) (hft : zk_ft y pc = some (.isub, 1)) (hp : pc + 1 = pc') : ∀ (G : zk_G) (L : zk_L) (st : List Value) (h : zk_H) (Q : Option Value → zk_H → Prop) (a b : Int32), zk_wp G y pc L (.int b :: .int a :: st) h Q ↔ zk_wp G y pc' L (.int (a - b) :: st) h Q := by intros; subst hp; exact zi_isub hft
theorem zu_imul (y pc pc' : Nat) (hft : zk_ft y pc = some (.imul, 1)) (hp : pc + 1 = pc') : ∀ (G : zk_G) (L : zk_L) (st : List Value) (h : zk_H) (Q : Option Value → zk_H → Prop) (a b : Int32), zk_wp G y pc L (.int b :: .int a :: st) h Q ↔ zk_wp G y pc' L (.int (a * b) :: st) h Q := by intros; subst hp; exact zi_imul hft
theorem zu_iand (y pc pc' : Nat) (hft : zk_ft y pc = some (.iand, 1)) (hp : pc + 1 = pc') : ∀ (G : zk_G) (L : zk_L) (st : List Value) (h : zk_H) (Q : Option Value → zk_H → Prop) (a b : Int32), zk_wp G y pc L (.int b :: .int a :: st) h Q ↔ zk_wp G y pc' L (.int (a &&& b) :: st) h Q := by intros; subst hp; exact zi_iand hft
theorem zu_ior (y pc pc' : Nat) (hft : zk_ft y pc = some (.ior, 1)) (hp : pc + 1 = pc') : ∀ (G : zk_G) (L : zk_L) (st : List Value) (h : zk_H) (Q : Option Value → zk_H → Prop) (a b : Int32), zk_wp G y pc L (.int b :: .int a :: st) h Q ↔ zk_wp G y pc' L (.int (a ||| b) :: st) h Q := by intros; subst hp; exact zi_ior hft
theorem zu_ixor (y pc pc' : Nat) (hft : zk_ft y pc = some (.ixor, 1)) (hp : pc + 1 = pc') : ∀ (G : zk_G) (L : zk_L) (st : List Value) (h : zk_H) (Q : Option Value → zk_H → Prop) (a b : Int32), zk_wp G y pc L (.int b :: .int a :: st) h Q ↔ zk_wp G y pc' L (.int (a ^^^ b) :: st) h Q := by intros; subst hp; exact zi_ixor hft
theorem zu_ishl (y pc pc' : Nat) (hft : zk_ft y pc = some (.ishl, 1)) (hp : pc + 1 = pc') : ∀ (G : zk_G) (L : zk_L) (st : List Value) (h : zk_H) (Q : Option Value → zk_H → Prop) (a b : Int32), zk_wp G y pc L (.int b :: .int a :: st) h Q ↔ zk_wp G y pc' L (.int (a <<< (b &&& 31)) :: st) h Q := by intros; subst hp; exact zi_ishl hft
theorem zu_ishr (y pc pc' : Nat) (hft : zk_ft y pc = some (.ishr, 1)) (hp : pc + 1 = pc') : ∀ (G : zk_G) (L : zk_L) (st : List Value) (h : zk_H) (Q : Option Value → zk_H → Prop) (a b : Int32), zk_wp G y pc L (.int b :: .int a :: st) h Q ↔ zk_wp G y pc' L (.int (a >>> (b &&& 31)) :: st) h Q := by intros; subst hp; exact zi_ishr hft
theorem zu_iushr (y pc pc' : Nat) (hft : zk_ft y pc = some (.iushr, 1)) (hp : pc + 1 = pc') : ∀ (G : zk_G) (L : zk_L) (st : List Value) (h : zk_H) (Q : Option Value → zk_H → Prop) (a b : Int32), zk_wp G y pc L (.int b :: .int a :: st) h Q ↔ zk_wp G y pc' L (.int ((a.toUInt32 >>> (b.toUInt32 &&& Int32.toUInt32 31)).toInt32) :: st) h Q := by intros; subst hp; exact zi_iushr hft
theorem zu_ladd (y pc pc' : Nat) (hft : zk_ft y pc = some (.ladd, 1)) (hp : pc + 1 = pc') : ∀ (G : zk_G) (L : zk_L) (st : List Value) (h : zk_H) (Q : Option Value → zk_H → Prop) (a b : Int64), zk_wp G y pc L (.long b :: .long a :: st) h Q ↔ zk_wp G y pc' L (.long (a + b) :: st) h Q := by intros; subst hp; exact zi_ladd hft
theorem zu_lsub (y pc pc' : Nat) (hft : zk_ft y pc = some (.lsub, 1)) (hp : pc + 1 = pc') : ∀ (G : zk_G) (L : zk_L) (st : List Value) (h : zk_H) (Q : Option Value → zk_H → Prop) (a b : Int64), zk_wp G y pc L (.long b :: .long a :: st) h Q ↔ zk_wp G y pc' L (.long (a - b) :: st) h Q := by intros; subst hp; exact zi_lsub hft
theorem zu_land (y pc pc' : Nat) (hft : zk_ft y pc = some (.land, 1)) (hp : pc + 1 = pc') : ∀ (G : zk_G) (L : zk_L) (st : List Value) (h : zk_H) (Q : Option Value → zk_H → Prop) (a b : Int64), zk_wp G y pc L (.long b :: .long a :: st) h Q ↔ zk_wp G y pc' L (.long (a &&& b) :: st) h Q := by intros; subst hp; exact zi_land hft
theorem zu_lor (y pc pc' : Nat) (hft : zk_ft y pc = some (.lor, 1)) (hp : pc + 1 = pc') : ∀ (G : zk_G) (L : zk_L) (st : List Value) (h : zk_H) (Q : Option Value → zk_H → Prop) (a b : Int64), zk_wp G y pc L (.long b :: .long a :: st) h Q ↔ zk_wp G y pc' L (.long (a ||| b) :: st) h Q := by intros; subst hp; exact zi_lor hft
theorem zu_lxor (y pc pc' : Nat) (hft : zk_ft y pc = some (.lxor, 1)) (hp : pc + 1 = pc') : ∀ (G : zk_G) (L : zk_L) (st : List Value) (h : zk_H) (Q : Option Value → zk_H → Prop) (a b : Int64), zk_wp G y pc L (.long b :: .long a :: st) h Q ↔ zk_wp G y pc' L (.long (a ^^^ b) :: st) h Q := by intros; subst hp; exact zi_lxor hft
theorem zu_lshl (y pc pc' : Nat) (hft : zk_ft y pc = some (.lshl, 1)) (hp : pc + 1 = pc') : ∀ (G : zk_G) (L : zk_L) (st : List Value) (h : zk_H) (Q : Option Value → zk_H → Prop) (a : Int64) (b : Int32), zk_wp G y pc L (.int b :: .long a :: st) h Q ↔ zk_wp G y pc' L (.long (a <<< (b.toInt64 &&& 63)) :: st) h Q := by intros; subst hp; exact zi_lshl hft
theorem zu_lshr (y pc pc' : Nat) (hft : zk_ft y pc = some (.lshr, 1)) (hp : pc + 1 = pc') : ∀ (G : zk_G) (L : zk_L) (st : List Value) (h : zk_H) (Q : Option Value → zk_H → Prop) (a : Int64) (b : Int32), zk_wp G y pc L (.int b :: .long a :: st) h Q ↔ zk_wp G y pc' L (.long (a >>> (b.toInt64 &&& 63)) :: st) h Q := by intros; subst hp; exact zi_lshr hft
theorem zu_lushr (y pc pc' : Nat) (hft : zk_ft y pc = some (.lushr, 1)) (hp : pc + 1 = pc') : ∀ (G : zk_G) (L : zk_L) (st : List Value) (h : zk_H) (Q : Option Value → zk_H → Prop) (a : Int64) (b : Int32), zk_wp G y pc L (.int b :: .long a :: st) h Q ↔ zk_wp G y pc' L (.long ((a.toUInt64 >>> (b.toInt64.toUInt64 &&& Int64.toUInt64 63)).toInt64) :: st) h Q := by intros; subst hp; exact zi_lushr hft
theorem zu_lneg (y pc pc' : Nat) (hft : zk_ft y pc = some (.lneg, 1)) (hp : pc + 1 = pc') : ∀ (G : zk_G) (L : zk_L) (st : List Value) (h : zk_H) (Q : Option Value → zk_H → Prop) (a : Int64), zk_wp G y pc L (.long a :: st) h Q ↔ zk_wp G y pc' L (.long (-a) :: st) h Q := by intros; subst hp; exact zi_lneg hft
theorem zu_lcmp (y pc pc' : Nat) (hft : zk_ft y pc = some (.lcmp, 1)) (hp : pc + 1 = pc') : ∀ (G : zk_G) (L : zk_L) (st : List Value) (h : zk_H) (Q : Option Value → zk_H → Prop) (a b : Int64), zk_wp G y pc L (.long b :: .long a :: st) h Q ↔ zk_wp G y pc' L (.int (lg_cmp a b) :: st) h Q := by intros; subst hp; exact zi_lcmp hft
theorem zu_i2l (y pc pc' : Nat) (hft : zk_ft y pc = some (.i2l, 1)) (hp : pc + 1 = pc') : ∀ (G : zk_G) (L : zk_L) (st : List Value) (h : zk_H) (Q : Option Value → zk_H → Prop) (a : Int32), zk_wp G y pc L (.int a :: st) h Q ↔ zk_wp G y pc' L (.long a.toInt64 :: st) h Q := by intros; subst hp; exact zi_i2l hft
theorem zu_l2i (y pc pc' : Nat) (hft : zk_ft y pc = some (.l2i, 1)) (hp : pc + 1 = pc') : ∀ (G : zk_G) (L : zk_L) (st : List Value) (h : zk_H) (Q : Option Value → zk_H → Prop) (a : Int64), zk_wp G y pc L (.long a :: st) h Q ↔ zk_wp G y pc' L (.int a.toInt32 :: st) h Q := by intros; subst hp; exact zi_l2i hft
theorem zu_null (y pc pc' : Nat) (hft : zk_ft y pc = some (.aconst_null, 1)) (hp : pc + 1 = pc') : ∀ (G : zk_G) (L : zk_L) (st : List Value) (h : zk_H) (Q : Option Value → zk_H → Prop) , zk_wp G y pc L (st) h Q ↔ zk_wp G y pc' L (.null :: st) h Q := by intros; subst hp; exact zi_null hft
theorem zu_iconst (y pc pc' : Nat) (n : Int) (v : Int32) (hv : Int32.ofInt n = v) (hft : zk_ft y pc = some (.iconst n, 1)) (hp : pc + 1 = pc') : ∀ (G : zk_G) (L : zk_L) (st : List Value) (h : zk_H) (Q : Option Value → zk_H → Prop) , zk_wp G y pc L (st) h Q ↔ zk_wp G y pc' L (.int v :: st) h Q := by intros; subst hp; exact zi_iconst hft hv
theorem zu_bipush (y pc pc' : Nat) (n : Int) (v : Int32) (hv : (Int8.ofInt n).toInt32 = v) (hft : zk_ft y pc = some (.bipush n, 2)) (hp : pc + 2 = pc') : ∀ (G : zk_G) (L : zk_L) (st : List Value) (h : zk_H) (Q : Option Value → zk_H → Prop) , zk_wp G y pc L (st) h Q ↔ zk_wp G y pc' L (.int v :: st) h Q := by intros; subst hp; exact zi_bipush hft hv
theorem zu_sipush (y pc pc' : Nat) (n : Int) (v : Int32) (hv : (Int16.ofInt n).toInt32 = v) (hft : zk_ft y pc = some (.sipush n, 3)) (hp : pc + 3 = pc') : ∀ (G : zk_G) (L : zk_L) (st : List Value) (h : zk_H) (Q : Option Value → zk_H → Prop) , zk_wp G y pc L (st) h Q ↔ zk_wp G y pc' L (.int v :: st) h Q := by intros; subst hp; exact zi_sipush hft hv
theorem zu_lconst (y pc pc' : Nat) (n : Fin 2) (v : Int64) (hv : Int64.ofNat (n : Nat) = v) (hft : zk_ft y pc = some (.lconst n, 1)) (hp : pc + 1 = pc') : ∀ (G : zk_G) (L : zk_L) (st : List Value) (h : zk_H) (Q : Option Value → zk_H → Prop) , zk_wp G y pc L (st) h Q ↔ zk_wp G y pc' L (.long v :: st) h Q := by intros; subst hp; exact zi_lconst hft hv
theorem zu_ldc (y pc pc' : Nat) (i : Nat) (v : Int32) (hv : zk_ki (zk_c y) i = some v) (hft : zk_ft y pc = some (.ldc i, 2)) (hp : pc + 2 = pc') : ∀ (G : zk_G) (L : zk_L) (st : List Value) (h : zk_H) (Q : Option Value → zk_H → Prop) , zk_wp G y pc L (st) h Q ↔ zk_wp G y pc' L (.int v :: st) h Q := by intros; subst hp; exact zi_ldc hft hv
theorem zu_ldcw (y pc pc' : Nat) (i : Nat) (v : Int32) (hv : zk_ki (zk_c y) i = some v) (hft : zk_ft y pc = some (.ldc_w i, 3)) (hp : pc + 3 = pc') : ∀ (G : zk_G) (L : zk_L) (st : List Value) (h : zk_H) (Q : Option Value → zk_H → Prop) , zk_wp G y pc L (st) h Q ↔ zk_wp G y pc' L (.int v :: st) h Q := by intros; subst hp; exact zi_ldcw hft hv
theorem zu_ldc2 (y pc pc' : Nat) (i : Nat) (v : Int64) (hv : zk_kl (zk_c y) i = some v) (hft : zk_ft y pc = some (.ldc2_w i, 3)) (hp : pc + 3 = pc') : ∀ (G : zk_G) (L : zk_L) (st : List Value) (h : zk_H) (Q : Option Value → zk_H → Prop) , zk_wp G y pc L (st) h Q ↔ zk_wp G y pc' L (.long v :: st) h Q := by intros; subst hp; exact zi_ldc2 hft hv
theorem zu_idiv (y pc pc' : Nat) (hft : zk_ft y pc = some (.idiv, 1)) (hp : pc + 1 = pc') : ∀ (G : zk_G) (L : zk_L) (st : List Value) (h : zk_H) (Q : Option Value → zk_H → Prop) (a b : Int32), ¬ b = 0 → (zk_wp G y pc L (.int b :: .int a :: st) h Q ↔ zk_wp G y pc' L (.int (a / b) :: st) h Q) := by intros; subst hp; exact zi_idiv hft (by assumption)
theorem zu_irem (y pc pc' : Nat) (hft : zk_ft y pc = some (.irem, 1)) (hp : pc + 1 = pc') : ∀ (G : zk_G) (L : zk_L) (st : List Value) (h : zk_H) (Q : Option Value → zk_H → Prop) (a b : Int32), ¬ b = 0 → (zk_wp G y pc L (.int b :: .int a :: st) h Q ↔ zk_wp G y pc' L (.int (a - a / b * b) :: st) h Q) := by intros; subst hp; exact zi_irem hft (by assumption)
theorem zu_pop_i (y pc pc' : Nat) (hft : zk_ft y pc = some (.pop, 1)) (hp : pc + 1 = pc') : ∀ (G : zk_G) (L : zk_L) (st : List Value) (h : zk_H) (Q : Option Value → zk_H → Prop) (a : Int32), zk_wp G y pc L (.int a :: st) h Q ↔ zk_wp G y pc' L (st) h Q := by intros; subst hp; exact zi_pop hft rfl
theorem zu_dup_i (y pc pc' : Nat) (hft : zk_ft y pc = some (.dup, 1)) (hp : pc + 1 = pc') : ∀ (G : zk_G) (L : zk_L) (st : List Value) (h : zk_H) (Q : Option Value → zk_H → Prop) (a : Int32), zk_wp G y pc L (.int a :: st) h Q ↔ zk_wp G y pc' L (.int a :: .int a :: st) h Q := by intros; subst hp; exact zi_dup hft rfl
theorem zu_pop_r (y pc pc' : Nat) (hft : zk_ft y pc = some (.pop, 1)) (hp : pc + 1 = pc') : ∀ (G : zk_G) (L : zk_L) (st : List Value) (h : zk_H) (Q : Option Value → zk_H → Prop) (a : Nat), zk_wp G y pc L (.ref a :: st) h Q ↔ zk_wp G y pc' L (st) h Q := by intros; subst hp; exact zi_pop hft rfl
theorem zu_dup_r (y pc pc' : Nat) (hft : zk_ft y pc = some (.dup, 1)) (hp : pc + 1 = pc') : ∀ (G : zk_G) (L : zk_L) (st : List Value) (h : zk_H) (Q : Option Value → zk_H → Prop) (a : Nat), zk_wp G y pc L (.ref a :: st) h Q ↔ zk_wp G y pc' L (.ref a :: .ref a :: st) h Q := by intros; subst hp; exact zi_dup hft rfl
theorem zu_pop_n (y pc pc' : Nat) (hft : zk_ft y pc = some (.pop, 1)) (hp : pc + 1 = pc') : ∀ (G : zk_G) (L : zk_L) (st : List Value) (h : zk_H) (Q : Option Value → zk_H → Prop) , zk_wp G y pc L (.null :: st) h Q ↔ zk_wp G y pc' L (st) h Q := by intros; subst hp; exact zi_pop hft rfl
theorem zu_dup_n (y pc pc' : Nat) (hft : zk_ft y pc = some (.dup, 1)) (hp : pc + 1 = pc') : ∀ (G : zk_G) (L : zk_L) (st : List Value) (h : zk_H) (Q : Option Value → zk_H → Prop) , zk_wp G y pc L (.null :: st) h Q ↔ zk_wp G y pc' L (.null :: .null :: st) h Q := by intros; subst hp; exact zi_dup hft rfl
theorem zu_dup2 (y pc pc' : Nat) (hft : zk_ft y pc = some (.dup2, 1)) (hp : pc + 1 = pc') : ∀ (G : zk_G) (L : zk_L) (st : List Value) (h : zk_H) (Q : Option Value → zk_H → Prop) (a : Int32) (b : Nat), zk_wp G y pc L (.int a :: .ref b :: st) h Q ↔ zk_wp G y pc' L (.int a :: .ref b :: .int a :: .ref b :: st) h Q := by intros; subst hp; exact zi_dup2 hft rfl rfl
def zk_li1 (o : Option Value) (P : Int32 → Prop) : Prop := match o with
  | some (.int x) => P x
  | _ => False
def zk_ll1 (o : Option Value) (P : Int64 → Prop) : Prop := match o with
  | some (.long x) => P x
  | _ => False
def zk_la1 (o : Option Value) (P : Value → Prop) : Prop := match o with
  | some (.ref x) => P (.ref x)
  | some .null => P .null
  | _ => False
theorem zu_iload (y pc pc' : Nat) (i : Nat) (hft : zk_ft y pc = some (.iload i, 2)) (hp : pc + 2 = pc') : ∀ (G : zk_G) (L : zk_L) (st : List Value) (h : zk_H) (Q : Option Value → zk_H → Prop), zk_wp G y pc L st h Q ↔ zk_li1 (zk_lget L i) (fun v => zk_wp G y pc' L (.int v :: st) h Q) := by
  intro G L st h Q
  subst hp
  rw [zk_wp_iff hft]
  show zk_wpI G y (.iload i) 2 pc L st h Q ↔ _
  have e1 : zk_pure (.iload i) L st = zk_ldi L st i := rfl
  unfold zk_wpI
  show (match zk_pure (.iload i) L st with
    | some (L', st') => 2 = zk_len (.iload i) ∧ zk_wp G y (pc + 2) L' st' h Q
    | none => False) ↔ _
  rw [e1]
  unfold zk_ldi zk_li1
  cases zk_lget L i with
  | none => exact Iff.rfl
  | some v =>
    cases v <;> first | exact Iff.rfl | exact ⟨And.right, And.intro rfl⟩
theorem zu_iload_n (y pc pc' : Nat) (k : Fin 4) (i : Nat) (hk : (k : Nat) = i) (hft : zk_ft y pc = some (.iload_n k, 1)) (hp : pc + 1 = pc') : ∀ (G : zk_G) (L : zk_L) (st : List Value) (h : zk_H) (Q : Option Value → zk_H → Prop), zk_wp G y pc L st h Q ↔ zk_li1 (zk_lget L i) (fun v => zk_wp G y pc' L (.int v :: st) h Q) := by
  intro G L st h Q
  subst hp
  subst hk
  rw [zk_wp_iff hft]
  show zk_wpI G y (.iload_n k) 1 pc L st h Q ↔ _
  have e1 : zk_pure (.iload_n k) L st = zk_ldi L st (k : Nat) := rfl
  unfold zk_wpI
  show (match zk_pure (.iload_n k) L st with
    | some (L', st') => 1 = zk_len (.iload_n k) ∧ zk_wp G y (pc + 1) L' st' h Q
    | none => False) ↔ _
  rw [e1]
  unfold zk_ldi zk_li1
  cases zk_lget L (k : Nat) with
  | none => exact Iff.rfl
  | some v =>
    cases v <;> first | exact Iff.rfl | exact ⟨And.right, And.intro rfl⟩
theorem zu_lload (y pc pc' : Nat) (i : Nat) (hft : zk_ft y pc = some (.lload i, 2)) (hp : pc + 2 = pc') : ∀ (G : zk_G) (L : zk_L) (st : List Value) (h : zk_H) (Q : Option Value → zk_H → Prop), zk_wp G y pc L st h Q ↔ zk_ll1 (zk_lget L i) (fun v => zk_wp G y pc' L (.long v :: st) h Q) := by
  intro G L st h Q
  subst hp
  rw [zk_wp_iff hft]
  show zk_wpI G y (.lload i) 2 pc L st h Q ↔ _
  have e1 : zk_pure (.lload i) L st = zk_ldl L st i := rfl
  unfold zk_wpI
  show (match zk_pure (.lload i) L st with
    | some (L', st') => 2 = zk_len (.lload i) ∧ zk_wp G y (pc + 2) L' st' h Q
    | none => False) ↔ _
  rw [e1]
  unfold zk_ldl zk_ll1
  cases zk_lget L i with
  | none => exact Iff.rfl
  | some v =>
    cases v <;> first | exact Iff.rfl | exact ⟨And.right, And.intro rfl⟩
theorem zu_lload_n (y pc pc' : Nat) (k : Fin 4) (i : Nat) (hk : (k : Nat) = i) (hft : zk_ft y pc = some (.lload_n k, 1)) (hp : pc + 1 = pc') : ∀ (G : zk_G) (L : zk_L) (st : List Value) (h : zk_H) (Q : Option Value → zk_H → Prop), zk_wp G y pc L st h Q ↔ zk_ll1 (zk_lget L i) (fun v => zk_wp G y pc' L (.long v :: st) h Q) := by
  intro G L st h Q
  subst hp
  subst hk
  rw [zk_wp_iff hft]
  show zk_wpI G y (.lload_n k) 1 pc L st h Q ↔ _
  have e1 : zk_pure (.lload_n k) L st = zk_ldl L st (k : Nat) := rfl
  unfold zk_wpI
  show (match zk_pure (.lload_n k) L st with
    | some (L', st') => 1 = zk_len (.lload_n k) ∧ zk_wp G y (pc + 1) L' st' h Q
    | none => False) ↔ _
  rw [e1]
  unfold zk_ldl zk_ll1
  cases zk_lget L (k : Nat) with
  | none => exact Iff.rfl
  | some v =>
    cases v <;> first | exact Iff.rfl | exact ⟨And.right, And.intro rfl⟩
theorem zu_aload (y pc pc' : Nat) (i : Nat) (hft : zk_ft y pc = some (.aload i, 2)) (hp : pc + 2 = pc') : ∀ (G : zk_G) (L : zk_L) (st : List Value) (h : zk_H) (Q : Option Value → zk_H → Prop), zk_wp G y pc L st h Q ↔ zk_la1 (zk_lget L i) (fun v => zk_wp G y pc' L (v :: st) h Q) := by
  intro G L st h Q
  subst hp
  rw [zk_wp_iff hft]
  show zk_wpI G y (.aload i) 2 pc L st h Q ↔ _
  have e1 : zk_pure (.aload i) L st = zk_lda L st i := rfl
  unfold zk_wpI
  show (match zk_pure (.aload i) L st with
    | some (L', st') => 2 = zk_len (.aload i) ∧ zk_wp G y (pc + 2) L' st' h Q
    | none => False) ↔ _
  rw [e1]
  unfold zk_lda zk_la1
  cases zk_lget L i with
  | none => exact Iff.rfl
  | some v =>
    cases v <;> first | exact Iff.rfl | exact ⟨And.right, And.intro rfl⟩
theorem zu_aload_n (y pc pc' : Nat) (k : Fin 4) (i : Nat) (hk : (k : Nat) = i) (hft : zk_ft y pc = some (.aload_n k, 1)) (hp : pc + 1 = pc') : ∀ (G : zk_G) (L : zk_L) (st : List Value) (h : zk_H) (Q : Option Value → zk_H → Prop), zk_wp G y pc L st h Q ↔ zk_la1 (zk_lget L i) (fun v => zk_wp G y pc' L (v :: st) h Q) := by
  intro G L st h Q
  subst hp
  subst hk
  rw [zk_wp_iff hft]
  show zk_wpI G y (.aload_n k) 1 pc L st h Q ↔ _
  have e1 : zk_pure (.aload_n k) L st = zk_lda L st (k : Nat) := rfl
  unfold zk_wpI
  show (match zk_pure (.aload_n k) L st with
    | some (L', st') => 1 = zk_len (.aload_n k) ∧ zk_wp G y (pc + 1) L' st' h Q
    | none => False) ↔ _
  rw [e1]
  unfold zk_lda zk_la1
  cases zk_lget L (k : Nat) with
  | none => exact Iff.rfl
  | some v =>
    cases v <;> first | exact Iff.rfl | exact ⟨And.right, And.intro rfl⟩
theorem zu_istore (y pc pc' : Nat) (i : Nat) (hft : zk_ft y pc = some (.istore i, 2)) (hp : pc + 2 = pc') : ∀ (G : zk_G) (L : zk_L) (st : List Value) (h : zk_H) (Q : Option Value → zk_H → Prop) (a : Int32), i < L.length → (zk_wp G y pc L (.int a :: st) h Q ↔ zk_wp G y pc' (zk_l1 L i (.int a)) st h Q) := by intro G L st h Q a hi; subst hp; exact zi_istore hft hi
theorem zu_istore_n (y pc pc' : Nat) (k : Fin 4) (i : Nat) (hk : (k : Nat) = i) (hft : zk_ft y pc = some (.istore_n k, 1)) (hp : pc + 1 = pc') : ∀ (G : zk_G) (L : zk_L) (st : List Value) (h : zk_H) (Q : Option Value → zk_H → Prop) (a : Int32), i < L.length → (zk_wp G y pc L (.int a :: st) h Q ↔ zk_wp G y pc' (zk_l1 L i (.int a)) st h Q) := by intro G L st h Q a hi; subst hp; subst hk; exact zi_istore_n hft hi
theorem zu_lstore (y pc pc' : Nat) (i : Nat) (hft : zk_ft y pc = some (.lstore i, 2)) (hp : pc + 2 = pc') : ∀ (G : zk_G) (L : zk_L) (st : List Value) (h : zk_H) (Q : Option Value → zk_H → Prop) (a : Int64), i + 1 < L.length → (zk_wp G y pc L (.long a :: st) h Q ↔ zk_wp G y pc' (zk_l2 L i (.long a)) st h Q) := by intro G L st h Q a hi; subst hp; exact zi_lstore hft hi
theorem zu_lstore_n (y pc pc' : Nat) (k : Fin 4) (i : Nat) (hk : (k : Nat) = i) (hft : zk_ft y pc = some (.lstore_n k, 1)) (hp : pc + 1 = pc') : ∀ (G : zk_G) (L : zk_L) (st : List Value) (h : zk_H) (Q : Option Value → zk_H → Prop) (a : Int64), i + 1 < L.length → (zk_wp G y pc L (.long a :: st) h Q ↔ zk_wp G y pc' (zk_l2 L i (.long a)) st h Q) := by intro G L st h Q a hi; subst hp; subst hk; exact zi_lstore_n hft hi
theorem zu_astore (y pc pc' : Nat) (i : Nat) (hft : zk_ft y pc = some (.astore i, 2)) (hp : pc + 2 = pc') : ∀ (G : zk_G) (L : zk_L) (st : List Value) (h : zk_H) (Q : Option Value → zk_H → Prop) (a : Nat), i < L.length → (zk_wp G y pc L (.ref a :: st) h Q ↔ zk_wp G y pc' (zk_l1 L i (.ref a)) st h Q) := by intro G L st h Q a hi; subst hp; exact zi_astore hft hi
theorem zu_astoreN (y pc pc' : Nat) (i : Nat) (hft : zk_ft y pc = some (.astore i, 2)) (hp : pc + 2 = pc') : ∀ (G : zk_G) (L : zk_L) (st : List Value) (h : zk_H) (Q : Option Value → zk_H → Prop), i < L.length → (zk_wp G y pc L (.null :: st) h Q ↔ zk_wp G y pc' (zk_l1 L i .null) st h Q) := by intro G L st h Q hi; subst hp; exact zi_astoreN hft hi
theorem zu_astore_n (y pc pc' : Nat) (k : Fin 4) (i : Nat) (hk : (k : Nat) = i) (hft : zk_ft y pc = some (.astore_n k, 1)) (hp : pc + 1 = pc') : ∀ (G : zk_G) (L : zk_L) (st : List Value) (h : zk_H) (Q : Option Value → zk_H → Prop) (a : Nat), i < L.length → (zk_wp G y pc L (.ref a :: st) h Q ↔ zk_wp G y pc' (zk_l1 L i (.ref a)) st h Q) := by intro G L st h Q a hi; subst hp; subst hk; exact zi_astore_n hft hi
theorem zu_astore_nN (y pc pc' : Nat) (k : Fin 4) (i : Nat) (hk : (k : Nat) = i) (hft : zk_ft y pc = some (.astore_n k, 1)) (hp : pc + 1 = pc') : ∀ (G : zk_G) (L : zk_L) (st : List Value) (h : zk_H) (Q : Option Value → zk_H → Prop), i < L.length → (zk_wp G y pc L (.null :: st) h Q ↔ zk_wp G y pc' (zk_l1 L i .null) st h Q) := by intro G L st h Q hi; subst hp; subst hk; exact zi_astore_nN hft hi
theorem zu_iinc (y pc pc' : Nat) (i : Nat) (n : Int) (k : Int32) (hk : Int32.ofInt n = k) (hft : zk_ft y pc = some (.iinc i n, 3)) (hp : pc + 3 = pc') : ∀ (G : zk_G) (L : zk_L) (st : List Value) (h : zk_H) (Q : Option Value → zk_H → Prop), zk_wp G y pc L st h Q ↔ zk_li1 (zk_lget L i) (fun v => zk_wp G y pc' (zk_l1 L i (.int (v + k))) st h Q) := by
  intro G L st h Q
  subst hp
  cases hg : zk_lget L i with
  | none =>
    rw [zk_wp_iff hft]
    unfold zk_wpI
    show (match zk_pure (.iinc i n) L st with
    | some (L', st') => 3 = zk_len (.iinc i n) ∧ zk_wp G y (pc + 3) L' st' h Q
    | none => False) ↔ _
    simp [zk_pure, hg, zk_li1]
  | some v =>
    cases v
    case int x => exact zi_iinc hft hk hg
    all_goals
      rw [zk_wp_iff hft]
      unfold zk_wpI
      show (match zk_pure (.iinc i n) L st with
      | some (L', st') => 3 = zk_len (.iinc i n) ∧ zk_wp G y (pc + 3) L' st' h Q
      | none => False) ↔ _
      simp [zk_pure, hg, zk_li1]
theorem zu_goto (y pc pc' : Nat) (off : Int) (hft : zk_ft y pc = some (.goto off, 3)) (hp : (pc : Int) + off = (pc' : Int)) : ∀ (G : zk_G) (L : zk_L) (st : List Value) (h : zk_H) (Q : Option Value → zk_H → Prop), zk_wp G y pc L st h Q ↔ zk_wp G y pc' L st h Q := by intros; exact zi_goto hft hp
theorem zu_icmp_eq (y pc t pc' : Nat) (off : Int) (hft : zk_ft y pc = some (.if_icmp .eq off, 3)) (ht : (pc : Int) + off = (t : Int)) (hp : pc + 3 = pc') : ∀ (G : zk_G) (L : zk_L) (st : List Value) (h : zk_H) (Q : Option Value → zk_H → Prop) (a b : Int32), zk_wp G y pc L (.int b :: .int a :: st) h Q ↔ ((a = b → zk_wp G y t L st h Q) ∧ (¬ (a = b) → zk_wp G y pc' L st h Q)) := by intro G L st h Q a b; subst hp; exact zi_icmp hft ht
theorem zu_if_eq (y pc t pc' : Nat) (off : Int) (hft : zk_ft y pc = some (.ifCond .eq off, 3)) (ht : (pc : Int) + off = (t : Int)) (hp : pc + 3 = pc') : ∀ (G : zk_G) (L : zk_L) (st : List Value) (h : zk_H) (Q : Option Value → zk_H → Prop) (a : Int32), zk_wp G y pc L (.int a :: st) h Q ↔ ((a = 0 → zk_wp G y t L st h Q) ∧ (¬ (a = 0) → zk_wp G y pc' L st h Q)) := by intro G L st h Q a; subst hp; exact zi_if hft ht
theorem zu_icmp_ne (y pc t pc' : Nat) (off : Int) (hft : zk_ft y pc = some (.if_icmp .ne off, 3)) (ht : (pc : Int) + off = (t : Int)) (hp : pc + 3 = pc') : ∀ (G : zk_G) (L : zk_L) (st : List Value) (h : zk_H) (Q : Option Value → zk_H → Prop) (a b : Int32), zk_wp G y pc L (.int b :: .int a :: st) h Q ↔ ((¬ a = b → zk_wp G y t L st h Q) ∧ (a = b → zk_wp G y pc' L st h Q)) := by intro G L st h Q a b; subst hp; refine (zi_icmp hft ht).trans ?_; show ((¬ a = b → _) ∧ (¬ ¬ a = b → _)) ↔ _; rw [Decidable.not_not]
theorem zu_if_ne (y pc t pc' : Nat) (off : Int) (hft : zk_ft y pc = some (.ifCond .ne off, 3)) (ht : (pc : Int) + off = (t : Int)) (hp : pc + 3 = pc') : ∀ (G : zk_G) (L : zk_L) (st : List Value) (h : zk_H) (Q : Option Value → zk_H → Prop) (a : Int32), zk_wp G y pc L (.int a :: st) h Q ↔ ((¬ a = 0 → zk_wp G y t L st h Q) ∧ (a = 0 → zk_wp G y pc' L st h Q)) := by intro G L st h Q a; subst hp; refine (zi_if hft ht).trans ?_; show ((¬ a = 0 → _) ∧ (¬ ¬ a = 0 → _)) ↔ _; rw [Decidable.not_not]
theorem zu_icmp_lt (y pc t pc' : Nat) (off : Int) (hft : zk_ft y pc = some (.if_icmp .lt off, 3)) (ht : (pc : Int) + off = (t : Int)) (hp : pc + 3 = pc') : ∀ (G : zk_G) (L : zk_L) (st : List Value) (h : zk_H) (Q : Option Value → zk_H → Prop) (a b : Int32), zk_wp G y pc L (.int b :: .int a :: st) h Q ↔ ((a < b → zk_wp G y t L st h Q) ∧ (¬ (a < b) → zk_wp G y pc' L st h Q)) := by intro G L st h Q a b; subst hp; exact zi_icmp hft ht
theorem zu_if_lt (y pc t pc' : Nat) (off : Int) (hft : zk_ft y pc = some (.ifCond .lt off, 3)) (ht : (pc : Int) + off = (t : Int)) (hp : pc + 3 = pc') : ∀ (G : zk_G) (L : zk_L) (st : List Value) (h : zk_H) (Q : Option Value → zk_H → Prop) (a : Int32), zk_wp G y pc L (.int a :: st) h Q ↔ ((a < 0 → zk_wp G y t L st h Q) ∧ (¬ (a < 0) → zk_wp G y pc' L st h Q)) := by intro G L st h Q a; subst hp; exact zi_if hft ht
theorem zu_icmp_ge (y pc t pc' : Nat) (off : Int) (hft : zk_ft y pc = some (.if_icmp .ge off, 3)) (ht : (pc : Int) + off = (t : Int)) (hp : pc + 3 = pc') : ∀ (G : zk_G) (L : zk_L) (st : List Value) (h : zk_H) (Q : Option Value → zk_H → Prop) (a b : Int32), zk_wp G y pc L (.int b :: .int a :: st) h Q ↔ ((b ≤ a → zk_wp G y t L st h Q) ∧ (¬ (b ≤ a) → zk_wp G y pc' L st h Q)) := by intro G L st h Q a b; subst hp; exact zi_icmp hft ht
theorem zu_if_ge (y pc t pc' : Nat) (off : Int) (hft : zk_ft y pc = some (.ifCond .ge off, 3)) (ht : (pc : Int) + off = (t : Int)) (hp : pc + 3 = pc') : ∀ (G : zk_G) (L : zk_L) (st : List Value) (h : zk_H) (Q : Option Value → zk_H → Prop) (a : Int32), zk_wp G y pc L (.int a :: st) h Q ↔ ((0 ≤ a → zk_wp G y t L st h Q) ∧ (¬ (0 ≤ a) → zk_wp G y pc' L st h Q)) := by intro G L st h Q a; subst hp; exact zi_if hft ht
theorem zu_icmp_gt (y pc t pc' : Nat) (off : Int) (hft : zk_ft y pc = some (.if_icmp .gt off, 3)) (ht : (pc : Int) + off = (t : Int)) (hp : pc + 3 = pc') : ∀ (G : zk_G) (L : zk_L) (st : List Value) (h : zk_H) (Q : Option Value → zk_H → Prop) (a b : Int32), zk_wp G y pc L (.int b :: .int a :: st) h Q ↔ ((b < a → zk_wp G y t L st h Q) ∧ (¬ (b < a) → zk_wp G y pc' L st h Q)) := by intro G L st h Q a b; subst hp; exact zi_icmp hft ht
theorem zu_if_gt (y pc t pc' : Nat) (off : Int) (hft : zk_ft y pc = some (.ifCond .gt off, 3)) (ht : (pc : Int) + off = (t : Int)) (hp : pc + 3 = pc') : ∀ (G : zk_G) (L : zk_L) (st : List Value) (h : zk_H) (Q : Option Value → zk_H → Prop) (a : Int32), zk_wp G y pc L (.int a :: st) h Q ↔ ((0 < a → zk_wp G y t L st h Q) ∧ (¬ (0 < a) → zk_wp G y pc' L st h Q)) := by intro G L st h Q a; subst hp; exact zi_if hft ht
theorem zu_icmp_le (y pc t pc' : Nat) (off : Int) (hft : zk_ft y pc = some (.if_icmp .le off, 3)) (ht : (pc : Int) + off = (t : Int)) (hp : pc + 3 = pc') : ∀ (G : zk_G) (L : zk_L) (st : List Value) (h : zk_H) (Q : Option Value → zk_H → Prop) (a b : Int32), zk_wp G y pc L (.int b :: .int a :: st) h Q ↔ ((a ≤ b → zk_wp G y t L st h Q) ∧ (¬ (a ≤ b) → zk_wp G y pc' L st h Q)) := by intro G L st h Q a b; subst hp; exact zi_icmp hft ht
theorem zu_if_le (y pc t pc' : Nat) (off : Int) (hft : zk_ft y pc = some (.ifCond .le off, 3)) (ht : (pc : Int) + off = (t : Int)) (hp : pc + 3 = pc') : ∀ (G : zk_G) (L : zk_L) (st : List Value) (h : zk_H) (Q : Option Value → zk_H → Prop) (a : Int32), zk_wp G y pc L (.int a :: st) h Q ↔ ((a ≤ 0 → zk_wp G y t L st h Q) ∧ (¬ (a ≤ 0) → zk_wp G y pc' L st h Q)) := by intro G L st h Q a; subst hp; exact zi_if hft ht
theorem zu_ifnull (y pc pc' : Nat) (off : Int) (hft : zk_ft y pc = some (.ifnull off, 3)) (hp : pc + 3 = pc') : ∀ (G : zk_G) (L : zk_L) (st : List Value) (h : zk_H) (Q : Option Value → zk_H → Prop) (a : Nat), zk_wp G y pc L (.ref a :: st) h Q ↔ zk_wp G y pc' L st h Q := by intros; subst hp; exact zi_ifnull hft
theorem zu_ifnullN (y pc pc' : Nat) (off : Int) (hft : zk_ft y pc = some (.ifnull off, 3)) (hp : (pc : Int) + off = (pc' : Int)) : ∀ (G : zk_G) (L : zk_L) (st : List Value) (h : zk_H) (Q : Option Value → zk_H → Prop), zk_wp G y pc L (.null :: st) h Q ↔ zk_wp G y pc' L st h Q := by intros; exact zi_ifnullN hft hp
theorem zu_ifnonnull (y pc pc' : Nat) (off : Int) (hft : zk_ft y pc = some (.ifnonnull off, 3)) (hp : (pc : Int) + off = (pc' : Int)) : ∀ (G : zk_G) (L : zk_L) (st : List Value) (h : zk_H) (Q : Option Value → zk_H → Prop) (a : Nat), zk_wp G y pc L (.ref a :: st) h Q ↔ zk_wp G y pc' L st h Q := by intros; exact zi_ifnonnull hft hp
theorem zu_ifnonnullN (y pc pc' : Nat) (off : Int) (hft : zk_ft y pc = some (.ifnonnull off, 3)) (hp : pc + 3 = pc') : ∀ (G : zk_G) (L : zk_L) (st : List Value) (h : zk_H) (Q : Option Value → zk_H → Prop), zk_wp G y pc L (.null :: st) h Q ↔ zk_wp G y pc' L st h Q := by intros; subst hp; exact zi_ifnonnullN hft
theorem zu_iret (y pc : Nat) (hft : zk_ft y pc = some (.ireturn, 1)) (hr : zk_rt y = some .int) : ∀ (G : zk_G) (L : zk_L) (h : zk_H) (Q : Option Value → zk_H → Prop) (v : Int32), zk_wp G y pc L [.int v] h Q ↔ Q (some (.int v)) h := by intros; exact zi_iret hft hr
theorem zu_zret (y pc : Nat) (hft : zk_ft y pc = some (.ireturn, 1)) (hr : zk_rt y = some .boolean) : ∀ (G : zk_G) (L : zk_L) (h : zk_H) (Q : Option Value → zk_H → Prop) (v : Int32), zk_wp G y pc L [.int v] h Q ↔ ((v = 0 ∨ v = 1) ∧ Q (some (.int v)) h) := by
  intro G L h Q v
  by_cases hv : v = 0 ∨ v = 1
  · exact (zi_zret hft hr hv).trans ⟨fun q => ⟨hv, q⟩, And.right⟩
  · rw [zk_wp_iff hft]
    unfold zk_wpI
    rw [hr]
    simp [zk_inv, zk_ret, hv, zk_jump, zk_heap, zk_pure]
theorem zu_lret (y pc : Nat) (hft : zk_ft y pc = some (.lreturn, 1)) (hr : zk_rt y = some .long) : ∀ (G : zk_G) (L : zk_L) (h : zk_H) (Q : Option Value → zk_H → Prop) (v : Int64), zk_wp G y pc L [.long v] h Q ↔ Q (some (.long v)) h := by intros; exact zi_lret hft hr
theorem zu_aret (y pc : Nat) (n : String) (hft : zk_ft y pc = some (.areturn, 1)) (hr : zk_rt y = some (.object n)) : ∀ (G : zk_G) (L : zk_L) (h : zk_H) (Q : Option Value → zk_H → Prop) (a : Nat), zk_wp G y pc L [.ref a] h Q ↔ Q (some (.ref a)) h := by intros; exact zi_aret hft hr
theorem zu_aretN (y pc : Nat) (n : String) (hft : zk_ft y pc = some (.areturn, 1)) (hr : zk_rt y = some (.object n)) : ∀ (G : zk_G) (L : zk_L) (h : zk_H) (Q : Option Value → zk_H → Prop), zk_wp G y pc L [.null] h Q ↔ Q (some .null) h := by intros; exact zi_aretN hft hr
theorem zu_aretA (y pc : Nat) (t : FieldType) (hft : zk_ft y pc = some (.areturn, 1)) (hr : zk_rt y = some (.array t)) : ∀ (G : zk_G) (L : zk_L) (h : zk_H) (Q : Option Value → zk_H → Prop) (a : Nat), zk_wp G y pc L [.ref a] h Q ↔ Q (some (.ref a)) h := by intros; exact zi_aretA hft hr
theorem zu_vret (y pc : Nat) (hft : zk_ft y pc = some (.return_, 1)) (hr : zk_rt y = none) : ∀ (G : zk_G) (L : zk_L) (h : zk_H) (Q : Option Value → zk_H → Prop), zk_wp G y pc L [] h Q ↔ Q none h := by intros; exact zi_vret hft hr
end
section
/-! rules: the heap and calls -/
def zk_og (G : zk_G) (h : zk_H) (a ci k : Nat) (P : Value → Prop) : Prop := match zk_rd G h a with
  | some (.inr (cj, fs)) => cj = ci ∧ (match fs[k]? with
    | some v => P v
    | none => False)
  | _ => False
def zk_op (G : zk_G) (h : zk_H) (a ci k : Nat) (ty : FieldType) (v : Value) (P : zk_H → Prop) : Prop := match zk_rd G h a with
  | some (.inr (cj, fs)) => cj = ci ∧ k < fs.length ∧ zk_fit ty v = true ∧ P (zk_wr G h a (.inr (ci, fs.set k v)))
  | _ => False
def zk_ai (G : zk_G) (h : zk_H) (a : Nat) (i : Int32) (P : Int32 → Prop) : Prop := match zk_ar G h a with
  | some (0, n, .inl f) => (0 ≤ i.toInt ∧ i.toInt < n) ∧ P (f i.toInt.toNat)
  | _ => False
def zk_aj (G : zk_G) (h : zk_H) (a : Nat) (i : Int32) (P : Int64 → Prop) : Prop := match zk_ar G h a with
  | some (1, n, .inr (.inl f)) => (0 ≤ i.toInt ∧ i.toInt < n) ∧ P (f i.toInt.toNat)
  | _ => False
def zk_az (G : zk_G) (h : zk_H) (a : Nat) (i : Int32) (P : Int32 → Prop) : Prop := match zk_rd G h a with
  | some (.inl (2, n, .inl f)) => (0 ≤ i.toInt ∧ i.toInt < n) ∧ P (f i.toInt.toNat)
  | _ => False
def zk_aa (G : zk_G) (h : zk_H) (a : Nat) (i : Int32) (P : Value → Prop) : Prop := match zk_rd G h a with
  | some (.inl (t, n, .inr (.inr (.inr (.inr f))))) => (0 ≤ i.toInt ∧ i.toInt < n) ∧ (3 ≤ t ∧ t ≤ 6) ∧ P (va_rf (f i.toInt.toNat))
  | _ => False
def zk_an (G : zk_G) (h : zk_H) (a : Nat) (P : Int32 → Prop) : Prop := match zk_ar G h a with
  | some (t, x) => t ≤ 6 ∧ P (Int32.ofNat x.1)
  | none => False
def zk_si (G : zk_G) (h : zk_H) (a : Nat) (i x : Int32) (P : zk_H → Prop) : Prop := match zk_rd G h a with
  | some (.inl (0, n, .inl f)) => (0 ≤ i.toInt ∧ i.toInt < n) ∧ P (zk_wr G h a (.inl (0, n, .inl (upd f i.toInt.toNat x))))
  | _ => False
def zk_sz1 (G : zk_G) (h : zk_H) (a : Nat) (i x : Int32) (P : zk_H → Prop) : Prop := match zk_rd G h a with
  | some (.inl (2, n, .inl f)) => (0 ≤ i.toInt ∧ i.toInt < n) ∧ (x = 0 ∨ x = 1) ∧ P (zk_wr G h a (.inl (2, n, .inl (upd f i.toInt.toNat x))))
  | _ => False
def zk_sl1 (G : zk_G) (h : zk_H) (a : Nat) (i : Int32) (x : Int64) (P : zk_H → Prop) : Prop := match zk_rd G h a with
  | some (.inl (1, n, .inr (.inl f))) => (0 ≤ i.toInt ∧ i.toInt < n) ∧ P (zk_wr G h a (.inl (1, n, .inr (.inl (vp_updL f i.toInt.toNat x)))))
  | _ => False
def zk_sa1 (G : zk_G) (h : zk_H) (a : Nat) (i : Int32) (v : Nat) (P : zk_H → Prop) : Prop := match zk_rd G h a, zk_rd G h v with
  | some (.inl (t, n, .inr (.inr (.inr (.inr f))))), some (.inr (ci, _)) => (0 ≤ i.toInt ∧ i.toInt < n) ∧ (3 ≤ t ∧ t ≤ 6 ∧ ci = zk_ac t) ∧ P (zk_wr G h a (.inl (t, n, .inr (.inr (.inr (.inr (va_up f i.toInt.toNat (some v))))))))
  | _, _ => False
def zk_ic (G : zk_G) (h : zk_H) (b ci : Nat) : Prop := ∃ fs, zk_rd G h b = some (.inr (ci, fs))
def zk_cases (x : Int) (lo : Int) (tl : List Nat) (P : Nat → Prop) : Prop := match tl with
  | [] => True
  | t :: ts => (x = lo → P t) ∧ zk_cases x (lo + 1) ts P
theorem zk_inb_iff {i : Int32} {n : Nat} : zk_inb i n = true ↔ (0 ≤ i.toInt ∧ i.toInt < n) := by
  unfold zk_inb
  simp only [Bool.and_eq_true, decide_eq_true_eq]
section ZKU
variable {y pc pc' : Nat}
theorem zu_heap {ins : Instr} {len : Nat} {G : zk_G} {L : zk_L} {st : List Value} {h : zk_H} {Q : Option Value → zk_H → Prop} (hft : zk_ft y pc = some (ins, len)) (h1 : zk_inv G y ins st h = none) (h2 : zk_ret (zk_rt y) ins len st = none) (h3 : zk_jump ins len pc st = none) (h5 : zk_pure ins L st = none) (hl : len = zk_len ins) : zk_wp G y pc L st h Q ↔ (match zk_heap G (zk_c y) (zk_ini y) (zk_lev y) ins st h with
  | some (st', h') => zk_wp G y (pc + len) L st' h' Q
  | none => False) := by
  rw [zk_wp_iff hft]
  unfold zk_wpI
  rw [h1]
  dsimp only
  rw [h2]
  dsimp only
  rw [h3]
  dsimp only
  cases zk_heap G (zk_c y) (zk_ini y) (zk_lev y) ins st h with
  | none =>
    dsimp only
    rw [h5]
  | some q => exact ⟨And.right, And.intro hl⟩
theorem zu_get (y pc pc' i : Nat) (nest : Bool) (ci k : Nat) (hft : zk_ft y pc = some (.getfield i, 3)) (hf : zk_fl (zk_c y) i = some (nest, ci, k)) (hp : pc + 3 = pc') : ∀ (G : zk_G) (L : zk_L) (st : List Value) (h : zk_H) (Q : Option Value → zk_H → Prop) (a : Nat), zk_wp G y pc L (.ref a :: st) h Q ↔ zk_og G h a ci k (fun v => zk_wp G y pc' L (v :: st) h Q) := by
  intro G L st h Q a
  subst hp
  rw [zu_heap hft rfl rfl rfl rfl rfl]
  unfold zk_heap zk_og
  dsimp only
  rw [hf]
  dsimp only
  cases zk_rd G h a with
  | none => exact Iff.rfl
  | some e =>
    cases e with
    | inl x => exact Iff.rfl
    | inr q =>
      obtain ⟨cj, fs⟩ := q
      dsimp only
      by_cases hc : cj = ci
      · rw [if_pos hc]
        cases fs[k]? with
        | none => simp [hc]
        | some v => simp [hc]
      · rw [if_neg hc]
        simp [hc]
theorem zu_put (y pc pc' i : Nat) (nest : Bool) (ci k : Nat) (ty : FieldType) (hft : zk_ft y pc = some (.putfield i, 3)) (hf : zk_fl (zk_c y) i = some (nest, ci, k)) (hpm : zk_pm (zk_c y) (zk_ini y) nest ci k = true) (hty : zk_ty ci k = ty) (hp : pc + 3 = pc') : ∀ (G : zk_G) (L : zk_L) (st : List Value) (h : zk_H) (Q : Option Value → zk_H → Prop) (a : Nat) (v : Value), zk_wp G y pc L (v :: .ref a :: st) h Q ↔ zk_op G h a ci k ty v (fun h' => zk_wp G y pc' L st h' Q) := by
  intro G L st h Q a v
  subst hp
  subst hty
  rw [zu_heap hft rfl rfl rfl rfl rfl]
  unfold zk_heap zk_op
  dsimp only
  rw [hf]
  dsimp only
  cases zk_rd G h a with
  | none => exact Iff.rfl
  | some e =>
    cases e with
    | inl x => exact Iff.rfl
    | inr q =>
      obtain ⟨cj, fs⟩ := q
      dsimp only
      by_cases hc : cj = ci
      · rw [if_pos hc]
        by_cases hk : k < fs.length
        · rw [if_pos hk, if_pos hpm]
          by_cases hfit : zk_fit (zk_ty ci k) v = true
          · rw [if_pos hfit]
            simp [hc, hk, hfit, zk_len]
          · rw [if_neg hfit]
            simp [hfit]
        · rw [if_neg hk]
          simp [hk]
      · rw [if_neg hc]
        simp [hc]
theorem zu_iaload (y pc pc' : Nat) (hft : zk_ft y pc = some (.iaload, 1)) (hp : pc + 1 = pc') : ∀ (G : zk_G) (L : zk_L) (st : List Value) (h : zk_H) (Q : Option Value → zk_H → Prop) (i : Int32) (a : Nat), zk_wp G y pc L (.int i :: .ref a :: st) h Q ↔ zk_ai G h a i (fun v => zk_wp G y pc' L (.int v :: st) h Q) := by
  intro G L st h Q i a
  subst hp
  rw [zu_heap hft rfl rfl rfl rfl rfl]
  unfold zk_heap zk_ai
  dsimp only
  split
  next st' h' hh =>
    split at hh
    next n f ha =>
      split at hh
      next hi => cases hh; rw [ha]; exact ⟨fun q => ⟨zk_inb_iff.mp hi, q⟩, And.right⟩
      next => cases hh
    next => cases hh
  next hh =>
    split at hh
    next n f ha =>
      split at hh
      next hi => cases hh
      next hi => rw [ha]; exact ⟨False.elim, fun q => hi (zk_inb_iff.mpr q.1)⟩
    next hn =>
      split
      next n f ha => exact absurd ha (hn n f)
      next => exact Iff.rfl
theorem zu_laload (y pc pc' : Nat) (hft : zk_ft y pc = some (.laload, 1)) (hp : pc + 1 = pc') : ∀ (G : zk_G) (L : zk_L) (st : List Value) (h : zk_H) (Q : Option Value → zk_H → Prop) (i : Int32) (a : Nat), zk_wp G y pc L (.int i :: .ref a :: st) h Q ↔ zk_aj G h a i (fun v => zk_wp G y pc' L (.long v :: st) h Q) := by
  intro G L st h Q i a
  subst hp
  rw [zu_heap hft rfl rfl rfl rfl rfl]
  unfold zk_heap zk_aj
  dsimp only
  split
  next st' h' hh =>
    split at hh
    next n f ha =>
      split at hh
      next hi => cases hh; rw [ha]; exact ⟨fun q => ⟨zk_inb_iff.mp hi, q⟩, And.right⟩
      next => cases hh
    next => cases hh
  next hh =>
    split at hh
    next n f ha =>
      split at hh
      next hi => cases hh
      next hi => rw [ha]; exact ⟨False.elim, fun q => hi (zk_inb_iff.mpr q.1)⟩
    next hn =>
      split
      next n f ha => exact absurd ha (hn n f)
      next => exact Iff.rfl
theorem zu_baload (y pc pc' : Nat) (hft : zk_ft y pc = some (.baload, 1)) (hp : pc + 1 = pc') : ∀ (G : zk_G) (L : zk_L) (st : List Value) (h : zk_H) (Q : Option Value → zk_H → Prop) (i : Int32) (a : Nat), zk_wp G y pc L (.int i :: .ref a :: st) h Q ↔ zk_az G h a i (fun v => zk_wp G y pc' L (.int v :: st) h Q) := by
  intro G L st h Q i a
  subst hp
  rw [zu_heap hft rfl rfl rfl rfl rfl]
  unfold zk_heap zk_az
  dsimp only
  split
  next st' h' hh =>
    split at hh
    next n f ha =>
      split at hh
      next hi => cases hh; rw [ha]; exact ⟨fun q => ⟨zk_inb_iff.mp hi, q⟩, And.right⟩
      next => cases hh
    next => cases hh
  next hh =>
    split at hh
    next n f ha =>
      split at hh
      next hi => cases hh
      next hi => rw [ha]; exact ⟨False.elim, fun q => hi (zk_inb_iff.mpr q.1)⟩
    next hn =>
      split
      next n f ha => exact absurd ha (hn n f)
      next => exact Iff.rfl
theorem zu_aaload (y pc pc' : Nat) (hft : zk_ft y pc = some (.aaload, 1)) (hp : pc + 1 = pc') : ∀ (G : zk_G) (L : zk_L) (st : List Value) (h : zk_H) (Q : Option Value → zk_H → Prop) (i : Int32) (a : Nat), zk_wp G y pc L (.int i :: .ref a :: st) h Q ↔ zk_aa G h a i (fun v => zk_wp G y pc' L (v :: st) h Q) := by
  intro G L st h Q i a
  subst hp
  rw [zu_heap hft rfl rfl rfl rfl rfl]
  unfold zk_heap zk_aa
  dsimp only
  split
  next st' h' hh =>
    split at hh
    next t n f ha =>
      split at hh
      next hi =>
        split at hh
        next ht => cases hh; rw [ha]; exact ⟨fun q => ⟨zk_inb_iff.mp hi, ht, q⟩, fun q => q.2.2⟩
        next => cases hh
      next => cases hh
    next => cases hh
  next hh =>
    split at hh
    next t n f ha =>
      split at hh
      next hi =>
        split at hh
        next => cases hh
        next ht => rw [ha]; exact ⟨False.elim, fun q => ht q.2.1⟩
      next hi => rw [ha]; exact ⟨False.elim, fun q => hi (zk_inb_iff.mpr q.1)⟩
    next hn =>
      split
      next t n f ha => exact absurd ha (hn t n f)
      next => exact Iff.rfl
theorem zu_alen (y pc pc' : Nat) (hft : zk_ft y pc = some (.arraylength, 1)) (hp : pc + 1 = pc') : ∀ (G : zk_G) (L : zk_L) (st : List Value) (h : zk_H) (Q : Option Value → zk_H → Prop) (a : Nat), zk_wp G y pc L (.ref a :: st) h Q ↔ zk_an G h a (fun v => zk_wp G y pc' L (.int v :: st) h Q) := by
  intro G L st h Q a
  subst hp
  rw [zu_heap hft rfl rfl rfl rfl rfl]
  unfold zk_heap zk_an
  dsimp only
  cases zk_ar G h a with
  | none => exact Iff.rfl
  | some q =>
    obtain ⟨t, x⟩ := q
    dsimp only
    by_cases ht : t ≤ 6
    · rw [if_pos ht]; exact ⟨fun q => ⟨ht, q⟩, And.right⟩
    · rw [if_neg ht]; exact ⟨False.elim, fun q => ht q.1⟩
theorem zu_iastore (y pc pc' : Nat) (hft : zk_ft y pc = some (.iastore, 1)) (hp : pc + 1 = pc') : ∀ (G : zk_G) (L : zk_L) (st : List Value) (h : zk_H) (Q : Option Value → zk_H → Prop) (x i : Int32) (a : Nat), zk_wp G y pc L (.int x :: .int i :: .ref a :: st) h Q ↔ zk_si G h a i x (fun h' => zk_wp G y pc' L st h' Q) := by
  intro G L st h Q x i a
  subst hp
  rw [zu_heap hft rfl rfl rfl rfl rfl]
  unfold zk_heap zk_si
  dsimp only
  split
  next st' h' hh =>
    split at hh
    next n f ha =>
      split at hh
      next hi => cases hh; rw [ha]; exact ⟨fun q => ⟨zk_inb_iff.mp hi, q⟩, And.right⟩
      next => cases hh
    next => cases hh
  next hh =>
    split at hh
    next n f ha =>
      split at hh
      next hi => cases hh
      next hi => rw [ha]; exact ⟨False.elim, fun q => hi (zk_inb_iff.mpr q.1)⟩
    next hn =>
      split
      next n f ha => exact absurd ha (hn n f)
      next => exact Iff.rfl
theorem zu_bastore (y pc pc' : Nat) (hft : zk_ft y pc = some (.bastore, 1)) (hp : pc + 1 = pc') : ∀ (G : zk_G) (L : zk_L) (st : List Value) (h : zk_H) (Q : Option Value → zk_H → Prop) (x i : Int32) (a : Nat), zk_wp G y pc L (.int x :: .int i :: .ref a :: st) h Q ↔ zk_sz1 G h a i x (fun h' => zk_wp G y pc' L st h' Q) := by
  intro G L st h Q x i a
  subst hp
  rw [zu_heap hft rfl rfl rfl rfl rfl]
  unfold zk_heap zk_sz1
  dsimp only
  split
  next st' h' hh =>
    split at hh
    next n f ha =>
      split at hh
      next hi =>
        split at hh
        next hx => cases hh; rw [ha]; exact ⟨fun q => ⟨zk_inb_iff.mp hi, hx, q⟩, fun q => q.2.2⟩
        next => cases hh
      next => cases hh
    next => cases hh
  next hh =>
    split at hh
    next n f ha =>
      split at hh
      next hi =>
        split at hh
        next => cases hh
        next hx => rw [ha]; exact ⟨False.elim, fun q => hx q.2.1⟩
      next hi => rw [ha]; exact ⟨False.elim, fun q => hi (zk_inb_iff.mpr q.1)⟩
    next hn =>
      split
      next n f ha => exact absurd ha (hn n f)
      next => exact Iff.rfl
theorem zu_lastore (y pc pc' : Nat) (hft : zk_ft y pc = some (.lastore, 1)) (hp : pc + 1 = pc') : ∀ (G : zk_G) (L : zk_L) (st : List Value) (h : zk_H) (Q : Option Value → zk_H → Prop) (x : Int64) (i : Int32) (a : Nat), zk_wp G y pc L (.long x :: .int i :: .ref a :: st) h Q ↔ zk_sl1 G h a i x (fun h' => zk_wp G y pc' L st h' Q) := by
  intro G L st h Q x i a
  subst hp
  rw [zu_heap hft rfl rfl rfl rfl rfl]
  unfold zk_heap zk_sl1
  dsimp only
  split
  next st' h' hh =>
    split at hh
    next n f ha =>
      split at hh
      next hi => cases hh; rw [ha]; exact ⟨fun q => ⟨zk_inb_iff.mp hi, q⟩, And.right⟩
      next => cases hh
    next => cases hh
  next hh =>
    split at hh
    next n f ha =>
      split at hh
      next hi => cases hh
      next hi => rw [ha]; exact ⟨False.elim, fun q => hi (zk_inb_iff.mpr q.1)⟩
    next hn =>
      split
      next n f ha => exact absurd ha (hn n f)
      next => exact Iff.rfl
theorem zu_aastore (y pc pc' : Nat) (hft : zk_ft y pc = some (.aastore, 1)) (hp : pc + 1 = pc') : ∀ (G : zk_G) (L : zk_L) (st : List Value) (h : zk_H) (Q : Option Value → zk_H → Prop) (v : Nat) (i : Int32) (a : Nat), zk_wp G y pc L (.ref v :: .int i :: .ref a :: st) h Q ↔ zk_sa1 G h a i v (fun h' => zk_wp G y pc' L st h' Q) := by
  intro G L st h Q v i a
  subst hp
  rw [zu_heap hft rfl rfl rfl rfl rfl]
  unfold zk_heap zk_sa1
  dsimp only
  split
  next st' h' hh =>
    split at hh
    next t n f ci vs ha hv =>
      split at hh
      next hi =>
        split at hh
        next ht => cases hh; rw [ha, hv]; exact ⟨fun q => ⟨zk_inb_iff.mp hi, ht, q⟩, fun q => q.2.2⟩
        next => cases hh
      next => cases hh
    next => cases hh
  next hh =>
    split at hh
    next t n f ci vs ha hv =>
      split at hh
      next hi =>
        split at hh
        next => cases hh
        next ht => rw [ha, hv]; exact ⟨False.elim, fun q => ht q.2.1⟩
      next hi => rw [ha, hv]; exact ⟨False.elim, fun q => hi (zk_inb_iff.mpr q.1)⟩
    next hn =>
      split
      next t n f ci vs ha hv => exact (hn t n f ci vs ha hv).elim
      next => exact Iff.rfl
theorem zu_new (y pc pc' i ci N : Nat) (df : List Value) (hft : zk_ft y pc = some (.new i, 3)) (hk : zk_kc (zk_c y) i = some ci) (hd : zk_df ci = df) (hN : zk_N ci = N) (hp : pc + 3 = pc') : ∀ (G : zk_G) (L : zk_L) (st : List Value) (h : zk_H) (Q : Option Value → zk_H → Prop), zk_wp G y pc L st h Q ↔ zk_wp G y pc' L (.ref (zk_nx G h) :: st) (zk_al h (.inr (ci, df)) N) Q := by
  intro G L st h Q
  subst hp hd hN
  rw [zu_heap hft rfl rfl rfl rfl rfl]
  unfold zk_heap
  dsimp only
  rw [hk]
theorem zu_newi (y pc pc' : Nat) (hft : zk_ft y pc = some (.newarray .int, 2)) (hp : pc + 2 = pc') : ∀ (G : zk_G) (L : zk_L) (st : List Value) (h : zk_H) (Q : Option Value → zk_H → Prop) (n : Int32), zk_wp G y pc L (.int n :: st) h Q ↔ ((0 ≤ n.toInt ∧ n.toInt ≤ 65536) ∧ zk_wp G y pc' L (.ref (zk_nx G h) :: st) (zk_al h (.inl (0, n.toInt.toNat, .inl (fun _ => 0))) n.toInt.toNat) Q) := by
  intro G L st h Q n
  subst hp
  rw [zu_heap hft rfl rfl rfl rfl rfl]
  unfold zk_heap
  dsimp only
  by_cases hc : 0 ≤ n.toInt ∧ n.toInt ≤ 65536
  · rw [if_pos hc]; exact ⟨fun q => ⟨hc, q⟩, And.right⟩
  · rw [if_neg hc]; exact ⟨False.elim, fun q => hc q.1⟩
theorem zu_newj (y pc pc' : Nat) (hft : zk_ft y pc = some (.newarray .long, 2)) (hp : pc + 2 = pc') : ∀ (G : zk_G) (L : zk_L) (st : List Value) (h : zk_H) (Q : Option Value → zk_H → Prop) (n : Int32), zk_wp G y pc L (.int n :: st) h Q ↔ ((0 ≤ n.toInt ∧ n.toInt ≤ 65536) ∧ zk_wp G y pc' L (.ref (zk_nx G h) :: st) (zk_al h (.inl (1, n.toInt.toNat, .inr (.inl (fun _ => 0)))) n.toInt.toNat) Q) := by
  intro G L st h Q n
  subst hp
  rw [zu_heap hft rfl rfl rfl rfl rfl]
  unfold zk_heap
  dsimp only
  by_cases hc : 0 ≤ n.toInt ∧ n.toInt ≤ 65536
  · rw [if_pos hc]; exact ⟨fun q => ⟨hc, q⟩, And.right⟩
  · rw [if_neg hc]; exact ⟨False.elim, fun q => hc q.1⟩
theorem zu_newz (y pc pc' : Nat) (hft : zk_ft y pc = some (.newarray .boolean, 2)) (hp : pc + 2 = pc') : ∀ (G : zk_G) (L : zk_L) (st : List Value) (h : zk_H) (Q : Option Value → zk_H → Prop) (n : Int32), zk_wp G y pc L (.int n :: st) h Q ↔ ((0 ≤ n.toInt ∧ n.toInt ≤ 65536) ∧ zk_wp G y pc' L (.ref (zk_nx G h) :: st) (zk_al h (.inl (2, n.toInt.toNat, .inl (fun _ => 0))) n.toInt.toNat) Q) := by
  intro G L st h Q n
  subst hp
  rw [zu_heap hft rfl rfl rfl rfl rfl]
  unfold zk_heap
  dsimp only
  by_cases hc : 0 ≤ n.toInt ∧ n.toInt ≤ 65536
  · rw [if_pos hc]; exact ⟨fun q => ⟨hc, q⟩, And.right⟩
  · rw [if_neg hc]; exact ⟨False.elim, fun q => hc q.1⟩
theorem zu_anew (y pc pc' i ci t : Nat) (hft : zk_ft y pc = some (.anewarray i, 3)) (hk : zk_kc (zk_c y) i = some ci) (ht : zk_at ci = some t) (hp : pc + 3 = pc') : ∀ (G : zk_G) (L : zk_L) (st : List Value) (h : zk_H) (Q : Option Value → zk_H → Prop) (n : Int32), zk_wp G y pc L (.int n :: st) h Q ↔ ((0 ≤ n.toInt ∧ n.toInt ≤ 65536) ∧ zk_wp G y pc' L (.ref (zk_nx G h) :: st) (zk_al h (.inl (t, n.toInt.toNat, .inr (.inr (.inr (.inr (fun _ => none)))))) n.toInt.toNat) Q) := by
  intro G L st h Q n
  subst hp
  rw [zu_heap hft rfl rfl rfl rfl rfl]
  unfold zk_heap
  dsimp only
  rw [hk]
  dsimp only
  rw [ht]
  dsimp only
  by_cases hc : 0 ≤ n.toInt ∧ n.toInt ≤ 65536
  · rw [if_pos hc]; exact ⟨fun q => ⟨hc, q⟩, And.right⟩
  · rw [if_neg hc]; exact ⟨False.elim, fun q => hc q.1⟩
theorem zu_gets0 (y pc pc' : Nat) (hft : zk_ft y pc = some (.getstatic 15, 3)) (hc : zk_c y = 10) (hp : pc + 3 = pc') : ∀ (G : zk_G) (L : zk_L) (st : List Value) (h : zk_H) (Q : Option Value → zk_H → Prop), zk_wp G y pc L st h Q ↔ zk_wp G y pc' L (.ref (G.2.2 0) :: st) h Q := by
  intro G L st h Q
  subst hp
  rw [zu_heap hft rfl rfl rfl rfl rfl]
  unfold zk_heap
  dsimp only
  rw [if_pos ⟨hc, rfl⟩]
theorem zu_gets1 (y pc pc' : Nat) (hft : zk_ft y pc = some (.getstatic 41, 3)) (hc : zk_c y = 5) (hp : pc + 3 = pc') : ∀ (G : zk_G) (L : zk_L) (st : List Value) (h : zk_H) (Q : Option Value → zk_H → Prop), zk_wp G y pc L st h Q ↔ zk_wp G y pc' L (.ref (G.2.2 1) :: st) h Q := by
  intro G L st h Q
  subst hp
  rw [zu_heap hft rfl rfl rfl rfl rfl]
  unfold zk_heap
  dsimp only
  rw [if_neg (by rw [hc]; decide), if_pos ⟨hc, rfl⟩]
theorem zu_obj (y pc pc' i : Nat) (hft : zk_ft y pc = some (.invokespecial i, 3)) (ho : zk_ob (zk_c y) i = true) (hm : zk_mk (zk_c y) i = none) (hv : 1 ≤ zk_lev y) (hp : pc + 3 = pc') : ∀ (G : zk_G) (L : zk_L) (st : List Value) (h : zk_H) (Q : Option Value → zk_H → Prop) (a : Nat), zk_wp G y pc L (.ref a :: st) h Q ↔ (zk_sum st ≤ 8 ∧ zk_wp G y pc' L st h Q) := by
  intro G L st h Q a
  subst hp
  have e1 : zk_inv G y (.invokespecial i) (.ref a :: st) h = none := by unfold zk_inv; dsimp only; rw [hm]
  rw [zu_heap hft e1 rfl rfl rfl rfl]
  unfold zk_heap
  dsimp only
  by_cases hs : zk_sum st ≤ 8
  · rw [if_pos ⟨ho, hs, hv⟩]; exact ⟨fun q => ⟨hs, q⟩, And.right⟩
  · rw [if_neg (fun q => hs q.2.1)]; exact ⟨False.elim, fun q => hs q.1⟩
theorem zu_inv {ins : Instr} {G : zk_G} {L : zk_L} {st : List Value} {h : zk_H} {Q : Option Value → zk_H → Prop} (hft : zk_ft y pc = some (ins, 3)) {yc : Nat} {As rest : List Value} (hi : zk_inv G y ins st h = some (yc, As, rest)) {E : zk_L} (hE : zk_ent (zk_ml yc) As = E) : zk_wp G y pc L st h Q ↔ zk_wp G yc 0 E [] h (fun r h' => zk_wp G y (pc + 3) L (r.toList ++ rest) h' Q) := by
  subst hE
  rw [zk_wp_iff hft]
  unfold zk_wpI
  rw [hi]
  exact ⟨And.right, And.intro rfl⟩
theorem zu_virt {i yc ci : Nat} {G : zk_G} {L : zk_L} {st stk : List Value} {h : zk_H} {Q : Option Value → zk_H → Prop} {b : Nat} {As : List Value} {E : zk_L} (hft : zk_ft y pc = some (.invokevirtual i, 3)) (hm : zk_mk (zk_c y) i = some (0, yc)) (hn : zk_na yc = As.length) (hl : zk_lev yc < zk_lev y) (hs : (lg_sl (.ref b :: As)).length ≤ zk_ml yc) (hc : zk_c yc = ci) (hst : stk = As.reverse ++ .ref b :: st) (hE : zk_ent (zk_ml yc) (.ref b :: As) = E) (hp : pc + 3 = pc') : zk_wp G y pc L stk h Q ↔ (zk_ic G h b ci ∧ zk_sum st ≤ 8 ∧ zk_wp G yc 0 E [] h (fun r h' => zk_wp G y pc' L (r.toList ++ st) h' Q)) := by
  subst hp
  have e1 : stk.drop (zk_na yc) = .ref b :: st := by rw [hst, hn, ← List.length_reverse, List.drop_left]
  have e2 : (stk.take (zk_na yc)).reverse = As := by rw [hst, hn, ← List.length_reverse, List.take_left, List.reverse_reverse]
  have key : zk_inv G y (.invokevirtual i) stk h = (match zk_rd G h b with
        | some (.inr (cj, _)) => if cj = zk_c yc ∧ zk_fr y yc (.ref b :: As) st then some (yc, .ref b :: As, st) else none
        | _ => none) := by
    unfold zk_inv
    simp [hm, e1, e2]
    cases zk_rd G h b with
    | none => rfl
    | some z =>
      cases z with
      | inl _ => rfl
      | inr _ => rfl
  have hfr : zk_sum st ≤ 8 → zk_fr y yc (.ref b :: As) st = true := by
    intro h8
    unfold zk_fr
    simp only [Bool.and_eq_true, decide_eq_true_eq]
    exact ⟨⟨hl, hs⟩, h8⟩
  by_cases g : zk_ic G h b ci ∧ zk_sum st ≤ 8
  · obtain ⟨⟨fs, hr⟩, g2⟩ := g
    have hi : zk_inv G y (.invokevirtual i) stk h = some (yc, .ref b :: As, st) := by
      rw [key, hr]
      dsimp only
      rw [if_pos ⟨hc.symm, hfr g2⟩]
    exact (zu_inv hft hi hE).trans ⟨fun q => ⟨⟨fs, hr⟩, g2, q⟩, fun q => q.2.2⟩
  · have hi : zk_inv G y (.invokevirtual i) stk h = none := by
      rw [key]
      split
      next cj fs hr =>
        split
        next hcc =>
          refine absurd ⟨⟨fs, ?_⟩, (zk_fr_sp hcc.2).2.2⟩ g
          rw [hr, hcc.1, hc]
        next => rfl
      next => rfl
    rw [zu_heap hft hi rfl rfl rfl rfl]
    exact ⟨False.elim, fun q => g ⟨q.1, q.2.1⟩⟩
theorem zu_stat {i yc : Nat} {G : zk_G} {L : zk_L} {st stk : List Value} {h : zk_H} {Q : Option Value → zk_H → Prop} {As : List Value} {E : zk_L} (hft : zk_ft y pc = some (.invokestatic i, 3)) (hm : zk_mk (zk_c y) i = some (1, yc)) (hne : ¬ (zk_c y = 15 ∧ i = 150)) (hn : zk_na yc = As.length) (hl : zk_lev yc < zk_lev y) (hs : (lg_sl As).length ≤ zk_ml yc) (hst : stk = As.reverse ++ st) (hE : zk_ent (zk_ml yc) As = E) (hp : pc + 3 = pc') : zk_wp G y pc L stk h Q ↔ (zk_sum st ≤ 8 ∧ zk_wp G yc 0 E [] h (fun r h' => zk_wp G y pc' L (r.toList ++ st) h' Q)) := by
  subst hp
  have e1 : stk.drop (zk_na yc) = st := by rw [hst, hn, ← List.length_reverse, List.drop_left]
  have e2 : (stk.take (zk_na yc)).reverse = As := by rw [hst, hn, ← List.length_reverse, List.take_left, List.reverse_reverse]
  have e3 : zk_na yc ≤ stk.length := by rw [hst, hn, List.length_append, List.length_reverse]; omega
  have key : zk_inv G y (.invokestatic i) stk h = (if zk_na yc ≤ stk.length ∧ zk_fr y yc As st then some (yc, As, st) else none) := by
    unfold zk_inv
    simp [hm, e1, e2]
  by_cases g : zk_sum st ≤ 8
  · have hi : zk_inv G y (.invokestatic i) stk h = some (yc, As, st) := by
      rw [key, if_pos]
      refine ⟨e3, ?_⟩
      unfold zk_fr
      simp only [Bool.and_eq_true, decide_eq_true_eq]
      exact ⟨⟨hl, hs⟩, g⟩
    exact (zu_inv hft hi hE).trans ⟨fun q => ⟨g, q⟩, And.right⟩
  · have hi : zk_inv G y (.invokestatic i) stk h = none := by
      rw [key, if_neg]
      exact fun q => g (zk_fr_sp q.2).2.2
    rw [zu_heap hft hi rfl rfl rfl rfl]
    have e4 : zk_heap G (zk_c y) (zk_ini y) (zk_lev y) (.invokestatic i) stk h = none := by
      unfold zk_heap
      dsimp only
      rw [if_neg hne]
    rw [e4]
    exact ⟨False.elim, fun q => g q.1⟩
theorem zu_spec {i k yc : Nat} {G : zk_G} {L : zk_L} {st stk : List Value} {h : zk_H} {Q : Option Value → zk_H → Prop} {b : Nat} {As : List Value} {E : zk_L} (hft : zk_ft y pc = some (.invokespecial i, 3)) (hm : zk_mk (zk_c y) i = some (k, yc)) (hk : 2 ≤ k) (hob : zk_ob (zk_c y) i = false) (hn : zk_na yc = As.length) (hl : zk_lev yc < zk_lev y) (hs : (lg_sl (.ref b :: As)).length ≤ zk_ml yc) (hst : stk = As.reverse ++ .ref b :: st) (hE : zk_ent (zk_ml yc) (.ref b :: As) = E) (hp : pc + 3 = pc') : zk_wp G y pc L stk h Q ↔ (zk_sum st ≤ 8 ∧ zk_wp G yc 0 E [] h (fun r h' => zk_wp G y pc' L (r.toList ++ st) h' Q)) := by
  subst hp
  have e1 : stk.drop (zk_na yc) = .ref b :: st := by rw [hst, hn, ← List.length_reverse, List.drop_left]
  have e2 : (stk.take (zk_na yc)).reverse = As := by rw [hst, hn, ← List.length_reverse, List.take_left, List.reverse_reverse]
  have key : zk_inv G y (.invokespecial i) stk h = (if 2 ≤ k ∧ zk_fr y yc (.ref b :: As) st then some (yc, .ref b :: As, st) else none) := by
    unfold zk_inv
    dsimp only
    rw [hm]
    dsimp only
    rw [e1]
    dsimp only
    rw [e2]
  by_cases g : zk_sum st ≤ 8
  · have hi : zk_inv G y (.invokespecial i) stk h = some (yc, .ref b :: As, st) := by
      rw [key, if_pos]
      refine ⟨hk, ?_⟩
      unfold zk_fr
      simp only [Bool.and_eq_true, decide_eq_true_eq]
      exact ⟨⟨hl, hs⟩, g⟩
    exact (zu_inv hft hi hE).trans ⟨fun q => ⟨g, q⟩, And.right⟩
  · have hi : zk_inv G y (.invokespecial i) stk h = none := by
      rw [key, if_neg]
      exact fun q => g (zk_fr_sp q.2).2.2
    rw [zu_heap hft hi rfl rfl rfl rfl]
    have e4 : zk_heap G (zk_c y) (zk_ini y) (zk_lev y) (.invokespecial i) stk h = none := by
      unfold zk_heap
      dsimp only
      split
      next => rw [if_neg]; rw [hob]; exact fun q => by cases q.1
      next => rfl
    rw [e4]
    exact ⟨False.elim, fun q => g q.1⟩
theorem zu_copy (y pc pc' : Nat) (hft : zk_ft y pc = some (.invokestatic 150, 3)) (hc : zk_c y = 15) (hm : zk_mk (zk_c y) 150 = none) (hv : 1 ≤ zk_lev y) (hp : pc + 3 = pc') : ∀ (G : zk_G) (L : zk_L) (st : List Value) (h : zk_H) (Q : Option Value → zk_H → Prop) (n dp sp : Int32) (a b n0 n1 : Nat) (f g : Nat → Int32), zk_rd G h b = some (.inl (0, n0, .inl f)) → zk_rd G h a = some (.inl (0, n1, .inl g)) → 0 ≤ sp.toInt ∧ 0 ≤ dp.toInt ∧ 0 ≤ n.toInt ∧ sp.toInt + n.toInt ≤ n0 ∧ dp.toInt + n.toInt ≤ n1 ∧ zk_sum st ≤ 8 → (zk_wp G y pc L (.int n :: .int dp :: .ref a :: .int sp :: .ref b :: st) h Q ↔ zk_wp G y pc' L st (zk_wr G h a (.inl (0, n1, .inl (va_cpy f g sp.toInt.toNat dp.toInt.toNat n.toInt.toNat)))) Q) := by
  intro G L st h Q n dp sp a b n0 n1 f g hb ha hq
  subst hp
  have e1 : zk_inv G y (.invokestatic 150) (.int n :: .int dp :: .ref a :: .int sp :: .ref b :: st) h = none := by unfold zk_inv; dsimp only; rw [hm]
  rw [zu_heap hft e1 rfl rfl rfl rfl]
  have e4 : zk_heap G (zk_c y) (zk_ini y) (zk_lev y) (.invokestatic 150) (.int n :: .int dp :: .ref a :: .int sp :: .ref b :: st) h = some (st, zk_wr G h a (.inl (0, n1, .inl (va_cpy f g sp.toInt.toNat dp.toInt.toNat n.toInt.toNat)))) := by
    unfold zk_heap
    simp only [hc, and_self, if_true, hb, ha]
    rw [if_pos ⟨hq.1, hq.2.1, hq.2.2.1, hq.2.2.2.1, hq.2.2.2.2.1, hq.2.2.2.2.2, hv⟩]
    rfl
  rw [e4]
theorem zk_cases_sp {P : Nat → Prop} {x : Int} : ∀ (tl : List Nat) (lo : Int), zk_cases x lo tl P ↔ (∀ (j t : Nat), tl[j]? = some t → x = lo + j → P t) := by
  intro tl
  induction tl with
  | nil => intro lo; unfold zk_cases; simp
  | cons t ts ih =>
    intro lo
    unfold zk_cases
    rw [ih]
    constructor
    · rintro ⟨h1, h2⟩ j u hj hx
      cases j with
      | zero => cases hj; exact h1 (by simpa using hx)
      | succ j => exact h2 j u hj (by omega)
    · intro hh
      exact ⟨fun hx => hh 0 t rfl (by simpa using hx), fun j u hj hx => hh (j + 1) u hj (by omega)⟩
theorem zu_tsw (y pc td : Nat) (dflt lo hi : Int) (offs : Array Int) (len : Nat) (tl : List Nat) (hft : zk_ft y pc = some (.tableswitch dflt lo hi offs, len)) (hd : (pc : Int) + dflt = (td : Int)) (ht : offs.toList.map (fun z => (pc : Int) + z) = tl.map (fun z : Nat => (z : Int))) (hh : hi = lo + (tl.length : Int) - 1) : ∀ (G : zk_G) (L : zk_L) (st : List Value) (h : zk_H) (Q : Option Value → zk_H → Prop) (x : Int32), zk_wp G y pc L (.int x :: st) h Q ↔ ((x.toInt < lo ∨ hi < x.toInt → zk_wp G y td L st h Q) ∧ zk_cases x.toInt lo tl (fun t => zk_wp G y t L st h Q)) := by
  intro G L st h Q x
  rw [zk_cases_sp]
  by_cases hc : x.toInt < lo ∨ hi < x.toInt
  · have e1 : zk_jump (.tableswitch dflt lo hi offs) len pc (.int x :: st) = some (td, st) := by
      unfold zk_jump
      dsimp only
      rw [if_pos hc, zi_tg hd]
      rfl
    rw [zi_jump hft rfl rfl e1]
    refine ⟨fun q => ⟨fun _ => q, fun j t hj hx => ?_⟩, fun q => q.1 hc⟩
    have := (List.getElem?_eq_some_iff.mp hj).1
    omega
  · have hlen : offs.toList.length = tl.length := by
      have := congrArg List.length ht
      simpa using this
    have hj : (x.toInt - lo).toNat < tl.length := by omega
    have hjo : (x.toInt - lo).toNat < offs.toList.length := by omega
    have ht2 := congrArg (fun l => l[(x.toInt - lo).toNat]?) ht
    simp only [List.getElem?_map, List.getElem?_eq_getElem hj, List.getElem?_eq_getElem hjo, Option.map_some, Option.some.injEq] at ht2
    have e0 : offs[(x.toInt - lo).toNat]? = some (offs.toList[(x.toInt - lo).toNat]) := by
      rw [← Array.getElem?_toList, List.getElem?_eq_getElem hjo]
    have e1 : zk_jump (.tableswitch dflt lo hi offs) len pc (.int x :: st) = some (tl[(x.toInt - lo).toNat], st) := by
      unfold zk_jump
      dsimp only
      rw [if_neg hc, e0]
      dsimp only
      rw [zi_tg ht2]
      rfl
    rw [zi_jump hft rfl rfl e1]
    constructor
    · intro q
      refine ⟨fun n => absurd n hc, fun j t hjt hx => ?_⟩
      have hjj : j = (x.toInt - lo).toNat := by omega
      subst hjj
      rw [List.getElem?_eq_getElem hj] at hjt
      cases hjt
      exact q
    · intro q
      exact q.2 (x.toInt - lo).toNat _ (List.getElem?_eq_getElem hj) (by omega)
end ZKU
end
