/-! the tables of this claim as data: classes, fields, methods, links (written by program out of the claim's printed names) -/
def zk_cnl : List String := ["TickKeeper$Job", "TickKeeper$Letter", "TickKeeper$Letters", "TickKeeper$Register", "TickKeeper$Row", "TickKeeper$Rule", "TickKeeper$Run", "TickKeeper$Zone", "TickKeeper", "TickKeeperModel", "TickKeeper$Dates", "TickKeeperLaw", "java/lang/Math", "java/lang/Integer", "java/lang/Long", "java/util/Arrays"]
def zk_cn (i : Nat) : String := zk_cnl.getD i ""
def zk_TL : List (List (String × String × String × Bool)) := [
  [("TickKeeper$Job", "rule", "LTickKeeper$Rule;", true), ("TickKeeper$Job", "minutes", "LTickKeeper$Row;", true), ("TickKeeper$Job", "guards", "LTickKeeper$Row;", true), ("TickKeeper$Job", "mode", "I", false), ("TickKeeper$Job", "lateness", "I", false), ("TickKeeper$Job", "paused", "Z", false), ("TickKeeper$Job", "awaited", "I", false), ("TickKeeper$Job", "unmet", "I", false), ("TickKeeper$Job", "timesPassed", "I", false)],
  [("TickKeeper$Letter", "kind", "I", false), ("TickKeeper$Letter", "from", "I", false), ("TickKeeper$Letter", "to", "I", false), ("TickKeeper$Letter", "job", "I", false), ("TickKeeper$Letter", "ballot", "I", false), ("TickKeeper$Letter", "second", "I", false), ("TickKeeper$Letter", "upTo", "I", false), ("TickKeeper$Letter", "guard", "I", false)],
  [("TickKeeper$Letters", "row", "[LTickKeeper$Letter;", true), ("TickKeeper$Letters", "scrap", "LTickKeeper$Letter;", true), ("TickKeeper$Letters", "taken", "LTickKeeper$Letter;", false), ("TickKeeper$Letters", "size", "I", false), ("TickKeeper$Letters", "lostForRoom", "I", false)],
  [("TickKeeper$Register", "run", "LTickKeeper$Run;", true), ("TickKeeper$Register", "promised", "I", false), ("TickKeeper$Register", "accepted", "I", false), ("TickKeeper$Register", "upTo", "I", false), ("TickKeeper$Register", "guard", "I", false), ("TickKeeper$Register", "refusedBy", "I", false)],
  [("TickKeeper$Row", "limit", "I", true), ("TickKeeper$Row", "items", "[I", false), ("TickKeeper$Row", "size", "I", false)],
  [("TickKeeper$Rule", "zone", "LTickKeeper$Zone;", true), ("TickKeeper$Rule", "masks", "[J", true), ("TickKeeper$Rule", "nthWeekdays", "LTickKeeper$Row;", true), ("TickKeeper$Rule", "nthNumbers", "LTickKeeper$Row;", true), ("TickKeeper$Rule", "exceptions", "LTickKeeper$Row;", true), ("TickKeeper$Rule", "extras", "LTickKeeper$Row;", true), ("TickKeeper$Rule", "way", "I", false)],
  [("TickKeeper$Run", "stage", "I", false), ("TickKeeper$Run", "ballot", "I", false), ("TickKeeper$Run", "accepted", "I", false), ("TickKeeper$Run", "upTo", "I", false), ("TickKeeper$Run", "guard", "I", false), ("TickKeeper$Run", "minute", "I", false), ("TickKeeper$Run", "passesOver", "Z", false)],
  [("TickKeeper$Zone", "starts", "LTickKeeper$Row;", true), ("TickKeeper$Zone", "offsets", "LTickKeeper$Row;", true), ("TickKeeper$Zone", "holidays", "LTickKeeper$Row;", true), ("TickKeeper$Zone", "movedTo", "[I", true)],
  [("TickKeeper", "zones", "[LTickKeeper$Zone;", true), ("TickKeeper", "jobs", "[LTickKeeper$Job;", true), ("TickKeeper", "registers", "[LTickKeeper$Register;", true), ("TickKeeper", "schedulerDown", "[Z", true), ("TickKeeper", "deskDown", "[Z", true), ("TickKeeper", "letters", "LTickKeeper$Letters;", true), ("TickKeeper", "zoneCount", "I", false), ("TickKeeper", "jobCount", "I", false), ("TickKeeper", "minuteNow", "I", false), ("TickKeeper", "refusedEffects", "I", false)],
  [("TickKeeperModel", "now", "I", false), ("TickKeeperModel", "zones", "I", false), ("TickKeeperModel", "shifts", "[I", true), ("TickKeeperModel", "shiftAt", "[I", true), ("TickKeeperModel", "shiftBy", "[I", true), ("TickKeeperModel", "holidays", "[I", true), ("TickKeeperModel", "holidayOf", "[I", true), ("TickKeeperModel", "year", "I", false), ("TickKeeperModel", "month", "I", false), ("TickKeeperModel", "dayOf", "I", false), ("TickKeeperModel", "jobs", "I", false), ("TickKeeperModel", "zoneOf", "[I", true), ("TickKeeperModel", "minutes", "[J", true), ("TickKeeperModel", "hours", "[I", true), ("TickKeeperModel", "days", "[J", true), ("TickKeeperModel", "months", "[I", true), ("TickKeeperModel", "weekdays", "[I", true), ("TickKeeperModel", "nths", "[I", true), ("TickKeeperModel", "nthDay", "[I", true), ("TickKeeperModel", "nthIs", "[I", true), ("TickKeeperModel", "exceptions", "[I", true), ("TickKeeperModel", "exceptionAt", "[I", true), ("TickKeeperModel", "way", "[I", true), ("TickKeeperModel", "mode", "[I", true), ("TickKeeperModel", "lateness", "[I", true), ("TickKeeperModel", "isPaused", "[Z", true), ("TickKeeperModel", "others", "[I", true), ("TickKeeperModel", "otherOf", "[I", true), ("TickKeeperModel", "extras", "[I", true), ("TickKeeperModel", "extraAt", "[I", true), ("TickKeeperModel", "promised", "[I", true), ("TickKeeperModel", "accepted", "[I", true), ("TickKeeperModel", "upTo", "[I", true), ("TickKeeperModel", "guard", "[I", true), ("TickKeeperModel", "seen", "[I", true), ("TickKeeperModel", "run", "[I", true), ("TickKeeperModel", "phase", "[I", true), ("TickKeeperModel", "runAccepted", "[I", true), ("TickKeeperModel", "runUpTo", "[I", true), ("TickKeeperModel", "runGuard", "[I", true), ("TickKeeperModel", "claims", "[I", true), ("TickKeeperModel", "passesOver", "[Z", true), ("TickKeeperModel", "isDown", "[Z", true), ("TickKeeperModel", "isDeskDown", "[Z", true), ("TickKeeperModel", "waitingFor", "[I", true), ("TickKeeperModel", "passedOver", "[I", true), ("TickKeeperModel", "effects", "[I", true), ("TickKeeperModel", "effectMinute", "[I", true), ("TickKeeperModel", "effectGuard", "[I", true), ("TickKeeperModel", "takenMinute", "[I", true), ("TickKeeperModel", "takenGuard", "[I", true), ("TickKeeperModel", "lost", "I", false), ("TickKeeperModel", "refused", "I", false), ("TickKeeperModel", "letters", "I", false), ("TickKeeperModel", "letter", "[I", true), ("TickKeeperModel", "hand", "[I", true)]]
def zk_T (ci : Nat) : u_T := fun k => (zk_TL.getD ci []).getD k ("", "", "", false)
def zk_N (ci : Nat) : Nat := (zk_TL.getD ci []).length
def zk_tyl : List (List FieldType) := [
  [.object "TickKeeper$Rule", .object "TickKeeper$Row", .object "TickKeeper$Row", .int, .int, .boolean, .int, .int, .int],
  [.int, .int, .int, .int, .int, .int, .int, .int],
  [.array (.object "TickKeeper$Letter"), .object "TickKeeper$Letter", .object "TickKeeper$Letter", .int, .int],
  [.object "TickKeeper$Run", .int, .int, .int, .int, .int],
  [.int, .array .int, .int],
  [.object "TickKeeper$Zone", .array .long, .object "TickKeeper$Row", .object "TickKeeper$Row", .object "TickKeeper$Row", .object "TickKeeper$Row", .int],
  [.int, .int, .int, .int, .int, .int, .boolean],
  [.object "TickKeeper$Row", .object "TickKeeper$Row", .object "TickKeeper$Row", .array .int],
  [.array (.object "TickKeeper$Zone"), .array (.object "TickKeeper$Job"), .array (.object "TickKeeper$Register"), .array .boolean, .array .boolean, .object "TickKeeper$Letters", .int, .int, .int, .int],
  [.int, .int, .array .int, .array .int, .array .int, .array .int, .array .int, .int, .int, .int, .int, .array .int, .array .long, .array .int, .array .long, .array .int, .array .int, .array .int, .array .int, .array .int, .array .int, .array .int, .array .int, .array .int, .array .int, .array .boolean, .array .int, .array .int, .array .int, .array .int, .array .int, .array .int, .array .int, .array .int, .array .int, .array .int, .array .int, .array .int, .array .int, .array .int, .array .int, .array .boolean, .array .boolean, .array .boolean, .array .int, .array .int, .array .int, .array .int, .array .int, .array .int, .array .int, .int, .int, .int, .array .int, .array .int]]
def zk_ty (ci k : Nat) : FieldType := (zk_tyl.getD ci []).getD k .int
def zk_CL : List vw_C := (List.range 10).map fun ci => (zk_cn ci, zk_T ci, zk_N ci)
abbrev zk_Row : Type := MethodName × ByteArray × Nat × Option FieldType × Nat × Nat × Nat
def zk_r0 : zk_Row := (⟨"TickKeeper$Job", "<init>", "(LTickKeeper$Rule;)V"⟩, prog_3_method_1_code, 2, none, 0, 1, 2)
def zk_r1 : zk_Row := (⟨"TickKeeper$Job", "latestMinute", "()I"⟩, prog_3_method_3_code, 1, (some Jvm.ClassFile.FieldType.int), 0, 0, 1)
def zk_r2 : zk_Row := (⟨"TickKeeper$Job", "takes", "(II)Z"⟩, prog_3_method_4_code, 4, (some Jvm.ClassFile.FieldType.boolean), 0, 2, 3)
def zk_r3 : zk_Row := (⟨"TickKeeper$Job", "latenessAllowed", "()I"⟩, prog_3_method_2_code, 1, (some Jvm.ClassFile.FieldType.int), 0, 0, 0)
def zk_r4 : zk_Row := (⟨"TickKeeper$Job", "didSomeOf", "(I)Z"⟩, prog_3_method_5_code, 3, (some Jvm.ClassFile.FieldType.boolean), 0, 1, 3)
def zk_r5 : zk_Row := (⟨"TickKeeper$Letter", "<init>", "()V"⟩, prog_4_method_1_code, 1, none, 1, 0, 1)
def zk_r6 : zk_Row := (⟨"TickKeeper$Letter", "address", "(IIII)V"⟩, prog_4_method_2_code, 5, none, 1, 4, 0)
def zk_r7 : zk_Row := (⟨"TickKeeper$Letter", "say", "(IIII)V"⟩, prog_4_method_3_code, 5, none, 1, 4, 0)
def zk_r8 : zk_Row := (⟨"TickKeeper$Letters", "<init>", "()V"⟩, prog_5_method_1_code, 2, none, 2, 0, 2)
def zk_r9 : zk_Row := (⟨"TickKeeper$Letters", "post", "(IIII)LTickKeeper$Letter;"⟩, prog_5_method_3_code, 6, (some (Jvm.ClassFile.FieldType.object "TickKeeper$Letter")), 2, 4, 1)
def zk_r10 : zk_Row := (⟨"TickKeeper$Letters", "take", "(I)LTickKeeper$Letter;"⟩, prog_5_method_4_code, 4, (some (Jvm.ClassFile.FieldType.object "TickKeeper$Letter")), 2, 1, 1)
def zk_r11 : zk_Row := (⟨"TickKeeper$Letters", "at", "(I)LTickKeeper$Letter;"⟩, prog_5_method_2_code, 2, (some (Jvm.ClassFile.FieldType.object "TickKeeper$Letter")), 2, 1, 0)
def zk_r12 : zk_Row := (⟨"TickKeeper$Register", "<init>", "()V"⟩, prog_6_method_1_code, 1, none, 3, 0, 2)
def zk_r13 : zk_Row := (⟨"TickKeeper$Register", "beginRun", "(I)I"⟩, prog_6_method_2_code, 4, (some Jvm.ClassFile.FieldType.int), 3, 1, 1)
def zk_r14 : zk_Row := (⟨"TickKeeper$Register", "accept", "(III)V"⟩, prog_6_method_3_code, 4, none, 3, 3, 0)
def zk_r15 : zk_Row := (⟨"TickKeeper$Register", "beRefused", "(LTickKeeper$Letter;)V"⟩, prog_6_method_4_code, 2, none, 3, 1, 1)
def zk_r16 : zk_Row := (⟨"TickKeeper$Register", "forget", "()V"⟩, prog_6_method_5_code, 1, none, 3, 0, 1)
def zk_r17 : zk_Row := (⟨"TickKeeper$Row", "<init>", "(I)V"⟩, prog_7_method_1_code, 2, none, 4, 1, 1)
def zk_r18 : zk_Row := (⟨"TickKeeper$Row", "add", "(I)Z"⟩, prog_7_method_4_code, 2, (some Jvm.ClassFile.FieldType.boolean), 4, 1, 2)
def zk_r19 : zk_Row := (⟨"TickKeeper$Row", "at", "(I)I"⟩, prog_7_method_2_code, 2, (some Jvm.ClassFile.FieldType.int), 4, 1, 0)
def zk_r20 : zk_Row := (⟨"TickKeeper$Row", "has", "(I)Z"⟩, prog_7_method_3_code, 3, (some Jvm.ClassFile.FieldType.boolean), 4, 1, 0)
def zk_r21 : zk_Row := (⟨"TickKeeper$Row", "countWith", "(I)I"⟩, prog_7_method_5_code, 2, (some Jvm.ClassFile.FieldType.int), 4, 1, 3)
def zk_r22 : zk_Row := (⟨"TickKeeper$Rule", "<init>", "(LTickKeeper$Zone;)V"⟩, prog_8_method_1_code, 2, none, 5, 1, 2)
def zk_r23 : zk_Row := (⟨"TickKeeper$Rule", "setMask", "(IJ)I"⟩, prog_8_method_2_code, 4, (some Jvm.ClassFile.FieldType.int), 5, 2, 1)
def zk_r24 : zk_Row := (⟨"TickKeeper$Rule", "addNth", "(II)I"⟩, prog_8_method_3_code, 3, (some Jvm.ClassFile.FieldType.int), 5, 2, 4)
def zk_r25 : zk_Row := (⟨"TickKeeper$Rule", "addException", "(I)I"⟩, prog_8_method_4_code, 2, (some Jvm.ClassFile.FieldType.int), 5, 1, 4)
def zk_r26 : zk_Row := (⟨"TickKeeper$Rule", "firstDue", "(II)I"⟩, prog_8_method_6_code, 9, (some Jvm.ClassFile.FieldType.int), 5, 2, 4)
def zk_r27 : zk_Row := (⟨"TickKeeper$Rule", "isEmpty", "()Z"⟩, prog_8_method_8_code, 2, (some Jvm.ClassFile.FieldType.boolean), 5, 0, 0)
def zk_r28 : zk_Row := (⟨"TickKeeper$Rule", "nextLocal", "(II)I"⟩, prog_8_method_9_code, 9, (some Jvm.ClassFile.FieldType.int), 5, 2, 3)
def zk_r29 : zk_Row := (⟨"TickKeeper$Rule", "nextTime", "(I)I"⟩, prog_8_method_10_code, 7, (some Jvm.ClassFile.FieldType.int), 5, 1, 2)
def zk_r30 : zk_Row := (⟨"TickKeeper$Rule", "notBelow", "(JI)J"⟩, prog_8_method_14_code, 3, (some Jvm.ClassFile.FieldType.long), 5, 2, 0)
def zk_r31 : zk_Row := (⟨"TickKeeper$Rule", "lowest", "(J)I"⟩, prog_8_method_15_code, 2, (some Jvm.ClassFile.FieldType.int), 5, 1, 1)
def zk_r32 : zk_Row := (⟨"TickKeeper$Rule", "nextFitting", "(II)I"⟩, prog_8_method_11_code, 9, (some Jvm.ClassFile.FieldType.int), 5, 2, 2)
def zk_r33 : zk_Row := (⟨"TickKeeper$Rule", "fitting", "(III)J"⟩, prog_8_method_13_code, 10, (some Jvm.ClassFile.FieldType.long), 5, 3, 1)
def zk_r34 : zk_Row := (⟨"TickKeeper$Rule", "nextMoved", "(I)I"⟩, prog_8_method_12_code, 9, (some Jvm.ClassFile.FieldType.int), 5, 1, 2)
def zk_r35 : zk_Row := (⟨"TickKeeper$Rule", "addExtra", "(I)I"⟩, prog_8_method_5_code, 2, (some Jvm.ClassFile.FieldType.int), 5, 1, 4)
def zk_r36 : zk_Row := (⟨"TickKeeper$Rule", "lastDue", "(II)I"⟩, prog_8_method_7_code, 8, (some Jvm.ClassFile.FieldType.int), 5, 2, 5)
def zk_r37 : zk_Row := (⟨"TickKeeper$Run", "<init>", "()V"⟩, prog_9_method_1_code, 1, none, 6, 0, 1)
def zk_r38 : zk_Row := (⟨"TickKeeper$Run", "begin", "(IIII)V"⟩, prog_9_method_2_code, 5, none, 6, 4, 0)
def zk_r39 : zk_Row := (⟨"TickKeeper$Run", "reads", "(LTickKeeper$Letter;)Z"⟩, prog_9_method_3_code, 2, (some Jvm.ClassFile.FieldType.boolean), 6, 1, 0)
def zk_r40 : zk_Row := (⟨"TickKeeper$Run", "end", "()V"⟩, prog_9_method_5_code, 1, none, 6, 0, 0)
def zk_r41 : zk_Row := (⟨"TickKeeper$Run", "claim", "(IIZ)V"⟩, prog_9_method_4_code, 4, none, 6, 3, 0)
def zk_r42 : zk_Row := (⟨"TickKeeper$Zone", "<init>", "()V"⟩, prog_10_method_1_code, 1, none, 7, 0, 3)
def zk_r43 : zk_Row := (⟨"TickKeeper$Zone", "latestShift", "()I"⟩, prog_10_method_4_code, 1, (some Jvm.ClassFile.FieldType.int), 7, 0, 1)
def zk_r44 : zk_Row := (⟨"TickKeeper$Zone", "shiftCount", "()I"⟩, prog_10_method_3_code, 1, (some Jvm.ClassFile.FieldType.int), 7, 0, 0)
def zk_r45 : zk_Row := (⟨"TickKeeper$Zone", "addShift", "(II)Z"⟩, prog_10_method_5_code, 3, (some Jvm.ClassFile.FieldType.boolean), 7, 2, 3)
def zk_r46 : zk_Row := (⟨"TickKeeper$Zone", "isHoliday", "(I)Z"⟩, prog_10_method_13_code, 2, (some Jvm.ClassFile.FieldType.boolean), 7, 1, 1)
def zk_r47 : zk_Row := (⟨"TickKeeper$Zone", "addHoliday", "(I)Z"⟩, prog_10_method_15_code, 3, (some Jvm.ClassFile.FieldType.boolean), 7, 1, 4)
def zk_r48 : zk_Row := (⟨"TickKeeper$Zone", "workingAfter", "(I)I"⟩, prog_10_method_16_code, 3, (some Jvm.ClassFile.FieldType.int), 7, 1, 3)
def zk_r49 : zk_Row := (⟨"TickKeeper$Zone", "isWorking", "(I)Z"⟩, prog_10_method_14_code, 2, (some Jvm.ClassFile.FieldType.boolean), 7, 1, 2)
def zk_r50 : zk_Row := (⟨"TickKeeper$Zone", "localOf", "(I)I"⟩, prog_10_method_7_code, 4, (some Jvm.ClassFile.FieldType.int), 7, 1, 1)
def zk_r51 : zk_Row := (⟨"TickKeeper$Zone", "momentOf", "(I)I"⟩, prog_10_method_9_code, 5, (some Jvm.ClassFile.FieldType.int), 7, 1, 2)
def zk_r52 : zk_Row := (⟨"TickKeeper$Zone", "endOf", "(I)I"⟩, prog_10_method_6_code, 2, (some Jvm.ClassFile.FieldType.int), 7, 1, 1)
def zk_r53 : zk_Row := (⟨"TickKeeper$Zone", "highestBefore", "(I)I"⟩, prog_10_method_10_code, 5, (some Jvm.ClassFile.FieldType.int), 7, 1, 2)
def zk_r54 : zk_Row := (⟨"TickKeeper$Zone", "holidayBits", "(I)J"⟩, prog_10_method_18_code, 6, (some Jvm.ClassFile.FieldType.long), 7, 1, 1)
def zk_r55 : zk_Row := (⟨"TickKeeper$Zone", "movedFrom", "(I)I"⟩, prog_10_method_17_code, 2, (some Jvm.ClassFile.FieldType.int), 7, 1, 0)
def zk_r56 : zk_Row := (⟨"TickKeeper$Zone", "dayOf", "(I)I"⟩, prog_10_method_8_code, 2, (some Jvm.ClassFile.FieldType.int), 7, 1, 2)
def zk_r57 : zk_Row := (⟨"TickKeeper$Zone", "stretchCount", "()I"⟩, prog_10_method_2_code, 1, (some Jvm.ClassFile.FieldType.int), 7, 0, 0)
def zk_r58 : zk_Row := (⟨"TickKeeper$Zone", "firstOfDay", "(II)I"⟩, prog_10_method_11_code, 3, (some Jvm.ClassFile.FieldType.int), 7, 2, 1)
def zk_r59 : zk_Row := (⟨"TickKeeper$Zone", "lastOfDay", "(II)I"⟩, prog_10_method_12_code, 3, (some Jvm.ClassFile.FieldType.int), 7, 2, 2)
def zk_r60 : zk_Row := (⟨"TickKeeper", "<init>", "()V"⟩, prog_1_method_1_code, 2, none, 8, 0, 3)
def zk_r61 : zk_Row := (⟨"TickKeeper", "zone", "()I"⟩, prog_1_method_2_code, 1, (some Jvm.ClassFile.FieldType.int), 8, 0, 4)
def zk_r62 : zk_Row := (⟨"TickKeeper", "shift", "(III)I"⟩, prog_1_method_3_code, 5, (some Jvm.ClassFile.FieldType.int), 8, 3, 4)
def zk_r63 : zk_Row := (⟨"TickKeeper", "zoneAt", "(I)LTickKeeper$Zone;"⟩, prog_1_method_39_code, 2, (some (Jvm.ClassFile.FieldType.object "TickKeeper$Zone")), 8, 1, 0)
def zk_r64 : zk_Row := (⟨"TickKeeper", "isMinute", "(I)Z"⟩, prog_1_method_35_code, 1, (some Jvm.ClassFile.FieldType.boolean), 8, 1, 0)
def zk_r65 : zk_Row := (⟨"TickKeeper", "holiday", "(II)I"⟩, prog_1_method_4_code, 4, (some Jvm.ClassFile.FieldType.int), 8, 2, 5)
def zk_r66 : zk_Row := (⟨"TickKeeper", "local", "(II)I"⟩, prog_1_method_5_code, 4, (some Jvm.ClassFile.FieldType.int), 8, 2, 2)
def zk_r67 : zk_Row := (⟨"TickKeeper", "moment", "(II)I"⟩, prog_1_method_6_code, 4, (some Jvm.ClassFile.FieldType.int), 8, 2, 3)
def zk_r68 : zk_Row := (⟨"TickKeeper", "orNone", "(I)I"⟩, prog_1_method_38_code, 1, (some Jvm.ClassFile.FieldType.int), 8, 1, 0)
def zk_r69 : zk_Row := (⟨"TickKeeper", "day", "(III)I"⟩, prog_1_method_7_code, 6, (some Jvm.ClassFile.FieldType.int), 8, 3, 3)
def zk_r70 : zk_Row := (⟨"TickKeeper", "job", "(I)I"⟩, prog_1_method_8_code, 3, (some Jvm.ClassFile.FieldType.int), 8, 1, 3)
def zk_r71 : zk_Row := (⟨"TickKeeper", "mask", "(IIJ)I"⟩, prog_1_method_9_code, 6, (some Jvm.ClassFile.FieldType.int), 8, 3, 2)
def zk_r72 : zk_Row := (⟨"TickKeeper", "jobAt", "(I)LTickKeeper$Job;"⟩, prog_1_method_40_code, 2, (some (Jvm.ClassFile.FieldType.object "TickKeeper$Job")), 8, 1, 0)
def zk_r73 : zk_Row := (⟨"TickKeeper", "nth", "(III)I"⟩, prog_1_method_10_code, 5, (some Jvm.ClassFile.FieldType.int), 8, 3, 5)
def zk_r74 : zk_Row := (⟨"TickKeeper", "except", "(II)I"⟩, prog_1_method_11_code, 4, (some Jvm.ClassFile.FieldType.int), 8, 2, 5)
def zk_r75 : zk_Row := (⟨"TickKeeper", "onHoliday", "(II)I"⟩, prog_1_method_12_code, 5, (some Jvm.ClassFile.FieldType.int), 8, 2, 1)
def zk_r76 : zk_Row := (⟨"TickKeeper", "catchUp", "(III)I"⟩, prog_1_method_13_code, 5, (some Jvm.ClassFile.FieldType.int), 8, 3, 1)
def zk_r77 : zk_Row := (⟨"TickKeeper", "after", "(II)I"⟩, prog_1_method_14_code, 4, (some Jvm.ClassFile.FieldType.int), 8, 2, 2)
def zk_r78 : zk_Row := (⟨"TickKeeper", "reaches", "(II)Z"⟩, prog_1_method_42_code, 7, (some Jvm.ClassFile.FieldType.boolean), 8, 2, 1)
def zk_r79 : zk_Row := (⟨"TickKeeper", "pause", "(IZ)I"⟩, prog_1_method_15_code, 5, (some Jvm.ClassFile.FieldType.int), 8, 2, 1)
def zk_r80 : zk_Row := (⟨"TickKeeper", "due", "(II)I"⟩, prog_1_method_16_code, 4, (some Jvm.ClassFile.FieldType.int), 8, 2, 5)
def zk_r81 : zk_Row := (⟨"TickKeeper", "between", "(IIII)I"⟩, prog_1_method_17_code, 8, (some Jvm.ClassFile.FieldType.int), 8, 4, 5)
def zk_r82 : zk_Row := (⟨"TickKeeper", "runNow", "(I)I"⟩, prog_1_method_18_code, 4, (some Jvm.ClassFile.FieldType.int), 8, 1, 5)
def zk_r83 : zk_Row := (⟨"TickKeeper", "highestUpTo", "(I)I"⟩, prog_1_method_43_code, 5, (some Jvm.ClassFile.FieldType.int), 8, 1, 2)
def zk_r84 : zk_Row := (⟨"TickKeeper", "registerOf", "(II)LTickKeeper$Register;"⟩, prog_1_method_41_code, 3, (some (Jvm.ClassFile.FieldType.object "TickKeeper$Register")), 8, 2, 1)
def zk_r85 : zk_Row := (⟨"TickKeeper", "isScheduler", "(I)Z"⟩, prog_1_method_36_code, 1, (some Jvm.ClassFile.FieldType.boolean), 8, 1, 0)
def zk_r86 : zk_Row := (⟨"TickKeeper", "now", "(I)I"⟩, prog_1_method_19_code, 2, (some Jvm.ClassFile.FieldType.int), 8, 1, 1)
def zk_r87 : zk_Row := (⟨"TickKeeper", "wake", "(I)I"⟩, prog_1_method_20_code, 7, (some Jvm.ClassFile.FieldType.int), 8, 1, 5)
def zk_r88 : zk_Row := (⟨"TickKeeper", "sendToOthers", "(IIIIII)V"⟩, prog_1_method_53_code, 9, none, 8, 6, 2)
def zk_r89 : zk_Row := (⟨"TickKeeper", "deliver", "(I)I"⟩, prog_1_method_21_code, 3, (some Jvm.ClassFile.FieldType.int), 8, 1, 7)
def zk_r90 : zk_Row := (⟨"TickKeeper", "handOver", "(LTickKeeper$Letter;)Z"⟩, prog_1_method_45_code, 4, (some Jvm.ClassFile.FieldType.boolean), 8, 1, 5)
def zk_r91 : zk_Row := (⟨"TickKeeper", "handToDesk", "(LTickKeeper$Letter;LTickKeeper$Job;)V"⟩, prog_1_method_46_code, 3, none, 8, 2, 4)
def zk_r92 : zk_Row := (⟨"TickKeeper", "isDesk", "(I)Z"⟩, prog_1_method_37_code, 1, (some Jvm.ClassFile.FieldType.boolean), 8, 1, 0)
def zk_r93 : zk_Row := (⟨"TickKeeper", "answerAsk", "(LTickKeeper$Letter;LTickKeeper$Register;)V"⟩, prog_1_method_47_code, 3, none, 8, 2, 3)
def zk_r94 : zk_Row := (⟨"TickKeeper", "reply", "(LTickKeeper$Letter;IIII)V"⟩, prog_1_method_52_code, 7, none, 8, 5, 2)
def zk_r95 : zk_Row := (⟨"TickKeeper", "answerWrite", "(LTickKeeper$Letter;LTickKeeper$Register;)V"⟩, prog_1_method_48_code, 3, none, 8, 2, 3)
def zk_r96 : zk_Row := (⟨"TickKeeper", "finish", "(LTickKeeper$Letter;LTickKeeper$Job;LTickKeeper$Run;)V"⟩, prog_1_method_49_code, 5, none, 8, 3, 2)
def zk_r97 : zk_Row := (⟨"TickKeeper", "decide", "(II)V"⟩, prog_1_method_50_code, 10, none, 8, 2, 6)
def zk_r98 : zk_Row := (⟨"TickKeeper", "unmetWaits", "(LTickKeeper$Job;I)I"⟩, prog_1_method_51_code, 9, (some Jvm.ClassFile.FieldType.int), 8, 2, 5)
def zk_r99 : zk_Row := (⟨"TickKeeper", "flow", "(I)I"⟩, prog_1_method_22_code, 5, (some Jvm.ClassFile.FieldType.int), 8, 1, 7)
def zk_r100 : zk_Row := (⟨"TickKeeper", "lose", "(I)I"⟩, prog_1_method_23_code, 3, (some Jvm.ClassFile.FieldType.int), 8, 1, 2)
def zk_r101 : zk_Row := (⟨"TickKeeper", "twin", "(I)I"⟩, prog_1_method_24_code, 4, (some Jvm.ClassFile.FieldType.int), 8, 1, 2)
def zk_r102 : zk_Row := (⟨"TickKeeper", "letter", "(II)I"⟩, prog_1_method_25_code, 4, (some Jvm.ClassFile.FieldType.int), 8, 2, 1)
def zk_r103 : zk_Row := (⟨"TickKeeper", "crash", "(I)I"⟩, prog_1_method_26_code, 5, (some Jvm.ClassFile.FieldType.int), 8, 1, 2)
def zk_r104 : zk_Row := (⟨"TickKeeper", "restart", "(I)I"⟩, prog_1_method_27_code, 2, (some Jvm.ClassFile.FieldType.int), 8, 1, 1)
def zk_r105 : zk_Row := (⟨"TickKeeper", "desk", "(IZ)I"⟩, prog_1_method_28_code, 4, (some Jvm.ClassFile.FieldType.int), 8, 2, 1)
def zk_r106 : zk_Row := (⟨"TickKeeper", "register", "(III)I"⟩, prog_1_method_29_code, 5, (some Jvm.ClassFile.FieldType.int), 8, 3, 2)
def zk_r107 : zk_Row := (⟨"TickKeeper", "effects", "(I)I"⟩, prog_1_method_30_code, 3, (some Jvm.ClassFile.FieldType.int), 8, 1, 1)
def zk_r108 : zk_Row := (⟨"TickKeeper", "effect", "(III)I"⟩, prog_1_method_31_code, 5, (some Jvm.ClassFile.FieldType.int), 8, 3, 1)
def zk_r109 : zk_Row := (⟨"TickKeeper", "waiting", "(I)I"⟩, prog_1_method_32_code, 3, (some Jvm.ClassFile.FieldType.int), 8, 1, 1)
def zk_r110 : zk_Row := (⟨"TickKeeper", "passed", "(I)I"⟩, prog_1_method_33_code, 3, (some Jvm.ClassFile.FieldType.int), 8, 1, 1)
def zk_r111 : zk_Row := (⟨"TickKeeper", "count", "(I)I"⟩, prog_1_method_34_code, 2, (some Jvm.ClassFile.FieldType.int), 8, 1, 1)
def zk_r112 : zk_Row := (⟨"TickKeeper", "runCount", "()I"⟩, prog_1_method_44_code, 3, (some Jvm.ClassFile.FieldType.int), 8, 0, 0)
def zk_r113 : zk_Row := (⟨"TickKeeperModel", "<init>", "()V"⟩, prog_12_method_1_code, 2, none, 9, 0, 1)
def zk_r114 : zk_Row := (⟨"TickKeeperModel", "zone", "()I"⟩, prog_12_method_8_code, 1, (some Jvm.ClassFile.FieldType.int), 9, 0, 0)
def zk_r115 : zk_Row := (⟨"TickKeeperModel", "shift", "(III)I"⟩, prog_12_method_9_code, 5, (some Jvm.ClassFile.FieldType.int), 9, 3, 2)
def zk_r116 : zk_Row := (⟨"TickKeeperModel", "isZone", "(I)Z"⟩, prog_12_method_7_code, 2, (some Jvm.ClassFile.FieldType.boolean), 9, 1, 1)
def zk_r117 : zk_Row := (⟨"TickKeeperModel", "in", "(III)Z"⟩, prog_12_method_3_code, 3, (some Jvm.ClassFile.FieldType.boolean), 9, 3, 0)
def zk_r118 : zk_Row := (⟨"TickKeeperModel", "holiday", "(II)I"⟩, prog_12_method_11_code, 3, (some Jvm.ClassFile.FieldType.int), 9, 2, 2)
def zk_r119 : zk_Row := (⟨"TickKeeperModel", "isHoliday", "(II)Z"⟩, prog_12_method_10_code, 5, (some Jvm.ClassFile.FieldType.boolean), 9, 2, 0)
def zk_r120 : zk_Row := (⟨"TickKeeperModel", "local", "(II)I"⟩, prog_12_method_16_code, 3, (some Jvm.ClassFile.FieldType.int), 9, 2, 2)
def zk_r121 : zk_Row := (⟨"TickKeeperModel", "localOf", "(II)I"⟩, prog_12_method_15_code, 5, (some Jvm.ClassFile.FieldType.int), 9, 2, 1)
def zk_r122 : zk_Row := (⟨"TickKeeperModel", "pieceFrom", "(II)I"⟩, prog_12_method_12_code, 3, (some Jvm.ClassFile.FieldType.int), 9, 2, 0)
def zk_r123 : zk_Row := (⟨"TickKeeperModel", "pieceBy", "(II)I"⟩, prog_12_method_14_code, 3, (some Jvm.ClassFile.FieldType.int), 9, 2, 0)
def zk_r124 : zk_Row := (⟨"TickKeeperModel", "moment", "(II)I"⟩, prog_12_method_18_code, 3, (some Jvm.ClassFile.FieldType.int), 9, 2, 3)
def zk_r125 : zk_Row := (⟨"TickKeeperModel", "momentOf", "(II)I"⟩, prog_12_method_17_code, 5, (some Jvm.ClassFile.FieldType.int), 9, 2, 2)
def zk_r126 : zk_Row := (⟨"TickKeeperModel", "more", "(II)I"⟩, prog_12_method_5_code, 2, (some Jvm.ClassFile.FieldType.int), 9, 2, 0)
def zk_r127 : zk_Row := (⟨"TickKeeperModel", "pieceTo", "(II)I"⟩, prog_12_method_13_code, 3, (some Jvm.ClassFile.FieldType.int), 9, 2, 0)
def zk_r128 : zk_Row := (⟨"TickKeeperModel", "day", "(III)I"⟩, prog_12_method_25_code, 4, (some Jvm.ClassFile.FieldType.int), 9, 3, 2)
def zk_r129 : zk_Row := (⟨"TickKeeperModel", "date", "(I)V"⟩, prog_12_method_22_code, 8, none, 9, 1, 0)
def zk_r130 : zk_Row := (⟨"TickKeeperModel", "weekday", "(I)I"⟩, prog_12_method_23_code, 2, (some Jvm.ClassFile.FieldType.int), 9, 1, 0)
def zk_r131 : zk_Row := (⟨"TickKeeperModel", "isWorking", "(II)Z"⟩, prog_12_method_24_code, 3, (some Jvm.ClassFile.FieldType.boolean), 9, 2, 1)
def zk_r132 : zk_Row := (⟨"TickKeeperModel", "job", "(I)I"⟩, prog_12_method_27_code, 2, (some Jvm.ClassFile.FieldType.int), 9, 1, 2)
def zk_r133 : zk_Row := (⟨"TickKeeperModel", "mask", "(IIJ)I"⟩, prog_12_method_29_code, 7, (some Jvm.ClassFile.FieldType.int), 9, 3, 2)
def zk_r134 : zk_Row := (⟨"TickKeeperModel", "isJob", "(I)Z"⟩, prog_12_method_26_code, 2, (some Jvm.ClassFile.FieldType.boolean), 9, 1, 1)
def zk_r135 : zk_Row := (⟨"TickKeeperModel", "bitsOf", "(J)I"⟩, prog_12_method_28_code, 4, (some Jvm.ClassFile.FieldType.int), 9, 1, 0)
def zk_r136 : zk_Row := (⟨"TickKeeperModel", "nth", "(III)I"⟩, prog_12_method_30_code, 4, (some Jvm.ClassFile.FieldType.int), 9, 3, 2)
def zk_r137 : zk_Row := (⟨"TickKeeperModel", "except", "(II)I"⟩, prog_12_method_31_code, 3, (some Jvm.ClassFile.FieldType.int), 9, 2, 2)
def zk_r138 : zk_Row := (⟨"TickKeeperModel", "onHoliday", "(II)I"⟩, prog_12_method_32_code, 4, (some Jvm.ClassFile.FieldType.int), 9, 2, 2)
def zk_r139 : zk_Row := (⟨"TickKeeperModel", "catchUp", "(III)I"⟩, prog_12_method_33_code, 4, (some Jvm.ClassFile.FieldType.int), 9, 3, 2)
def zk_r140 : zk_Row := (⟨"TickKeeperModel", "after", "(II)I"⟩, prog_12_method_35_code, 5, (some Jvm.ClassFile.FieldType.int), 9, 2, 2)
def zk_r141 : zk_Row := (⟨"TickKeeperModel", "waitsFor", "(II)Z"⟩, prog_12_method_34_code, 7, (some Jvm.ClassFile.FieldType.boolean), 9, 2, 0)
def zk_r142 : zk_Row := (⟨"TickKeeperModel", "pause", "(IZ)I"⟩, prog_12_method_36_code, 4, (some Jvm.ClassFile.FieldType.int), 9, 2, 2)
def zk_r143 : zk_Row := (⟨"TickKeeperModel", "due", "(II)I"⟩, prog_12_method_46_code, 4, (some Jvm.ClassFile.FieldType.int), 9, 2, 6)
def zk_r144 : zk_Row := (⟨"TickKeeperModel", "dueFrom", "(III)I"⟩, prog_12_method_44_code, 7, (some Jvm.ClassFile.FieldType.int), 9, 3, 5)
def zk_r145 : zk_Row := (⟨"TickKeeperModel", "byCalendar", "(III)I"⟩, prog_12_method_40_code, 9, (some Jvm.ClassFile.FieldType.int), 9, 3, 4)
def zk_r146 : zk_Row := (⟨"TickKeeperModel", "isNever", "(I)Z"⟩, prog_12_method_41_code, 2, (some Jvm.ClassFile.FieldType.boolean), 9, 1, 0)
def zk_r147 : zk_Row := (⟨"TickKeeperModel", "firstLocal", "(II)I"⟩, prog_12_method_19_code, 5, (some Jvm.ClassFile.FieldType.int), 9, 2, 2)
def zk_r148 : zk_Row := (⟨"TickKeeperModel", "less", "(II)I"⟩, prog_12_method_4_code, 2, (some Jvm.ClassFile.FieldType.int), 9, 2, 0)
def zk_r149 : zk_Row := (⟨"TickKeeperModel", "down", "(II)I"⟩, prog_12_method_6_code, 3, (some Jvm.ClassFile.FieldType.int), 9, 2, 0)
def zk_r150 : zk_Row := (⟨"TickKeeperModel", "isOn", "(II)Z"⟩, prog_12_method_38_code, 6, (some Jvm.ClassFile.FieldType.boolean), 9, 2, 3)
def zk_r151 : zk_Row := (⟨"TickKeeperModel", "fits", "(II)Z"⟩, prog_12_method_37_code, 8, (some Jvm.ClassFile.FieldType.boolean), 9, 2, 2)
def zk_r152 : zk_Row := (⟨"TickKeeperModel", "daysOf", "(II)I"⟩, prog_12_method_21_code, 2, (some Jvm.ClassFile.FieldType.int), 9, 2, 1)
def zk_r153 : zk_Row := (⟨"TickKeeperModel", "isLeap", "(I)Z"⟩, prog_12_method_20_code, 1, (some Jvm.ClassFile.FieldType.boolean), 9, 1, 0)
def zk_r154 : zk_Row := (⟨"TickKeeperModel", "inDay", "(IIII)I"⟩, prog_12_method_43_code, 10, (some Jvm.ClassFile.FieldType.int), 9, 4, 3)
def zk_r155 : zk_Row := (⟨"TickKeeperModel", "isException", "(II)Z"⟩, prog_12_method_39_code, 5, (some Jvm.ClassFile.FieldType.boolean), 9, 2, 0)
def zk_r156 : zk_Row := (⟨"TickKeeperModel", "between", "(IIII)I"⟩, prog_12_method_47_code, 7, (some Jvm.ClassFile.FieldType.int), 9, 4, 6)
def zk_r157 : zk_Row := (⟨"TickKeeperModel", "runNow", "(I)I"⟩, prog_12_method_48_code, 4, (some Jvm.ClassFile.FieldType.int), 9, 1, 6)
def zk_r158 : zk_Row := (⟨"TickKeeperModel", "now", "(I)I"⟩, prog_12_method_50_code, 2, (some Jvm.ClassFile.FieldType.int), 9, 1, 1)
def zk_r159 : zk_Row := (⟨"TickKeeperModel", "wake", "(I)I"⟩, prog_12_method_53_code, 5, (some Jvm.ClassFile.FieldType.int), 9, 1, 6)
def zk_r160 : zk_Row := (⟨"TickKeeperModel", "begins", "(II)V"⟩, prog_12_method_52_code, 7, none, 9, 2, 1)
def zk_r161 : zk_Row := (⟨"TickKeeperModel", "sends", "(IIIIIIII)V"⟩, prog_12_method_49_code, 10, none, 9, 8, 0)
def zk_r162 : zk_Row := (⟨"TickKeeperModel", "deliver", "(I)I"⟩, prog_12_method_67_code, 3, (some Jvm.ClassFile.FieldType.int), 9, 1, 10)
def zk_r163 : zk_Row := (⟨"TickKeeperModel", "isLetter", "(I)Z"⟩, prog_12_method_66_code, 2, (some Jvm.ClassFile.FieldType.boolean), 9, 1, 1)
def zk_r164 : zk_Row := (⟨"TickKeeperModel", "removes", "(I)I"⟩, prog_12_method_65_code, 3, (some Jvm.ClassFile.FieldType.int), 9, 1, 0)
def zk_r165 : zk_Row := (⟨"TickKeeperModel", "delivers", "()V"⟩, prog_12_method_64_code, 3, none, 9, 0, 9)
def zk_r166 : zk_Row := (⟨"TickKeeperModel", "takes", "(II)V"⟩, prog_12_method_63_code, 3, none, 9, 2, 0)
def zk_r167 : zk_Row := (⟨"TickKeeperModel", "asked", "(IIII)V"⟩, prog_12_method_57_code, 6, none, 9, 4, 1)
def zk_r168 : zk_Row := (⟨"TickKeeperModel", "promises", "(II)V"⟩, prog_12_method_58_code, 4, none, 9, 2, 8)
def zk_r169 : zk_Row := (⟨"TickKeeperModel", "decides", "(II)V"⟩, prog_12_method_56_code, 11, none, 9, 2, 7)
def zk_r170 : zk_Row := (⟨"TickKeeperModel", "claimFor", "(II)I"⟩, prog_12_method_55_code, 4, (some Jvm.ClassFile.FieldType.int), 9, 2, 6)
def zk_r171 : zk_Row := (⟨"TickKeeperModel", "dueUpTo", "(III)I"⟩, prog_12_method_45_code, 7, (some Jvm.ClassFile.FieldType.int), 9, 3, 5)
def zk_r172 : zk_Row := (⟨"TickKeeperModel", "lastByCalendar", "(III)I"⟩, prog_12_method_42_code, 11, (some Jvm.ClassFile.FieldType.int), 9, 3, 4)
def zk_r173 : zk_Row := (⟨"TickKeeperModel", "mustWait", "(II)Z"⟩, prog_12_method_54_code, 8, (some Jvm.ClassFile.FieldType.boolean), 9, 2, 6)
def zk_r174 : zk_Row := (⟨"TickKeeperModel", "ends", "(I)V"⟩, prog_12_method_51_code, 2, none, 9, 1, 0)
def zk_r175 : zk_Row := (⟨"TickKeeperModel", "writes", "(IIII)V"⟩, prog_12_method_59_code, 6, none, 9, 4, 1)
def zk_r176 : zk_Row := (⟨"TickKeeperModel", "written", "(II)V"⟩, prog_12_method_60_code, 4, none, 9, 2, 1)
def zk_r177 : zk_Row := (⟨"TickKeeperModel", "guard1", "(I)I"⟩, prog_12_method_61_code, 2, (some Jvm.ClassFile.FieldType.int), 9, 1, 0)
def zk_r178 : zk_Row := (⟨"TickKeeperModel", "refuses", "(II)V"⟩, prog_12_method_62_code, 4, none, 9, 2, 1)
def zk_r179 : zk_Row := (⟨"TickKeeperModel", "flow", "(I)I"⟩, prog_12_method_68_code, 4, (some Jvm.ClassFile.FieldType.int), 9, 1, 10)
def zk_r180 : zk_Row := (⟨"TickKeeperModel", "lose", "(I)I"⟩, prog_12_method_69_code, 2, (some Jvm.ClassFile.FieldType.int), 9, 1, 2)
def zk_r181 : zk_Row := (⟨"TickKeeperModel", "twin", "(I)I"⟩, prog_12_method_70_code, 3, (some Jvm.ClassFile.FieldType.int), 9, 1, 2)
def zk_r182 : zk_Row := (⟨"TickKeeperModel", "letter", "(II)I"⟩, prog_12_method_71_code, 3, (some Jvm.ClassFile.FieldType.int), 9, 2, 2)
def zk_r183 : zk_Row := (⟨"TickKeeperModel", "crash", "(I)I"⟩, prog_12_method_72_code, 4, (some Jvm.ClassFile.FieldType.int), 9, 1, 1)
def zk_r184 : zk_Row := (⟨"TickKeeperModel", "restart", "(I)I"⟩, prog_12_method_73_code, 2, (some Jvm.ClassFile.FieldType.int), 9, 1, 1)
def zk_r185 : zk_Row := (⟨"TickKeeperModel", "desk", "(IZ)I"⟩, prog_12_method_74_code, 4, (some Jvm.ClassFile.FieldType.int), 9, 2, 1)
def zk_r186 : zk_Row := (⟨"TickKeeperModel", "register", "(III)I"⟩, prog_12_method_75_code, 5, (some Jvm.ClassFile.FieldType.int), 9, 3, 2)
def zk_r187 : zk_Row := (⟨"TickKeeperModel", "effects", "(I)I"⟩, prog_12_method_76_code, 2, (some Jvm.ClassFile.FieldType.int), 9, 1, 2)
def zk_r188 : zk_Row := (⟨"TickKeeperModel", "effect", "(III)I"⟩, prog_12_method_77_code, 4, (some Jvm.ClassFile.FieldType.int), 9, 3, 2)
def zk_r189 : zk_Row := (⟨"TickKeeperModel", "waiting", "(I)I"⟩, prog_12_method_78_code, 2, (some Jvm.ClassFile.FieldType.int), 9, 1, 2)
def zk_r190 : zk_Row := (⟨"TickKeeperModel", "passed", "(I)I"⟩, prog_12_method_79_code, 2, (some Jvm.ClassFile.FieldType.int), 9, 1, 2)
def zk_r191 : zk_Row := (⟨"TickKeeperModel", "count", "(I)I"⟩, prog_12_method_80_code, 4, (some Jvm.ClassFile.FieldType.int), 9, 1, 0)
def zk_r192 : zk_Row := (⟨"TickKeeper$Dates", "weekdayOf", "(I)I"⟩, prog_2_method_2_code, 1, (some Jvm.ClassFile.FieldType.int), 10, 1, 1)
def zk_r193 : zk_Row := (⟨"TickKeeper$Dates", "monthOf", "(I)I"⟩, prog_2_method_3_code, 3, (some Jvm.ClassFile.FieldType.int), 10, 1, 1)
def zk_r194 : zk_Row := (⟨"TickKeeper$Dates", "yearOf", "(I)I"⟩, prog_2_method_6_code, 1, (some Jvm.ClassFile.FieldType.int), 10, 1, 1)
def zk_r195 : zk_Row := (⟨"TickKeeper$Dates", "monthOfYear", "(I)I"⟩, prog_2_method_5_code, 1, (some Jvm.ClassFile.FieldType.int), 10, 1, 1)
def zk_r196 : zk_Row := (⟨"TickKeeper$Dates", "startOf", "(I)I"⟩, prog_2_method_4_code, 1, (some Jvm.ClassFile.FieldType.int), 10, 1, 1)
def zk_r197 : zk_Row := (⟨"java/lang/Math", "max", "(II)I"⟩, prog_16_method_65_code, 2, (some Jvm.ClassFile.FieldType.int), 12, 2, 0)
def zk_r198 : zk_Row := (⟨"java/lang/Math", "min", "(II)I"⟩, prog_16_method_69_code, 2, (some Jvm.ClassFile.FieldType.int), 12, 2, 0)
def zk_r199 : zk_Row := (⟨"java/lang/Math", "floorMod", "(II)I"⟩, prog_16_method_50_code, 3, (some Jvm.ClassFile.FieldType.int), 12, 2, 0)
def zk_r200 : zk_Row := (⟨"java/lang/Math", "max", "(JJ)J"⟩, prog_16_method_66_code, 4, (some Jvm.ClassFile.FieldType.long), 12, 2, 0)
def zk_r201 : zk_Row := (⟨"java/lang/Math", "floorDiv", "(II)I"⟩, prog_16_method_47_code, 3, (some Jvm.ClassFile.FieldType.int), 12, 2, 0)
def zk_r202 : zk_Row := (⟨"java/lang/Integer", "bitCount", "(I)I"⟩, prog_14_method_49_code, 1, (some Jvm.ClassFile.FieldType.int), 13, 1, 0)
def zk_r203 : zk_Row := (⟨"java/lang/Long", "bitCount", "(J)I"⟩, prog_15_method_50_code, 2, (some Jvm.ClassFile.FieldType.int), 14, 1, 0)
def zk_r204 : zk_Row := (⟨"java/util/Arrays", "copyOf", "([II)[I"⟩, prog_18_method_123_code, 3, (some (Jvm.ClassFile.FieldType.array Jvm.ClassFile.FieldType.int)), 15, 2, 1)
def zk_r205 : zk_Row := (x, code, maxLocals, ret, 11, 1, 11)
def zk_MT0 : List zk_Row := [zk_r0, zk_r1, zk_r2, zk_r3, zk_r4, zk_r5, zk_r6, zk_r7, zk_r8, zk_r9, zk_r10, zk_r11, zk_r12, zk_r13, zk_r14, zk_r15, zk_r16, zk_r17, zk_r18, zk_r19, zk_r20, zk_r21, zk_r22, zk_r23, zk_r24, zk_r25, zk_r26, zk_r27, zk_r28, zk_r29, zk_r30, zk_r31, zk_r32, zk_r33, zk_r34, zk_r35, zk_r36, zk_r37, zk_r38, zk_r39, zk_r40, zk_r41, zk_r42, zk_r43, zk_r44, zk_r45, zk_r46, zk_r47, zk_r48, zk_r49, zk_r50, zk_r51, zk_r52, zk_r53, zk_r54, zk_r55, zk_r56, zk_r57, zk_r58, zk_r59, zk_r60, zk_r61, zk_r62, zk_r63, zk_r64, zk_r65, zk_r66, zk_r67, zk_r68, zk_r69, zk_r70, zk_r71, zk_r72, zk_r73, zk_r74, zk_r75, zk_r76, zk_r77, zk_r78, zk_r79, zk_r80, zk_r81, zk_r82, zk_r83, zk_r84, zk_r85, zk_r86, zk_r87, zk_r88, zk_r89, zk_r90, zk_r91, zk_r92, zk_r93, zk_r94, zk_r95, zk_r96, zk_r97, zk_r98, zk_r99, zk_r100, zk_r101, zk_r102, zk_r103, zk_r104, zk_r105, zk_r106, zk_r107, zk_r108, zk_r109, zk_r110, zk_r111, zk_r112, zk_r113, zk_r114, zk_r115, zk_r116, zk_r117, zk_r118, zk_r119, zk_r120, zk_r121, zk_r122, zk_r123, zk_r124, zk_r125, zk_r126, zk_r127, zk_r128, zk_r129, zk_r130, zk_r131, zk_r132, zk_r133, zk_r134, zk_r135, zk_r136, zk_r137, zk_r138, zk_r139, zk_r140, zk_r141, zk_r142, zk_r143, zk_r144, zk_r145, zk_r146, zk_r147, zk_r148, zk_r149, zk_r150, zk_r151, zk_r152, zk_r153, zk_r154, zk_r155, zk_r156, zk_r157, zk_r158, zk_r159, zk_r160, zk_r161, zk_r162, zk_r163, zk_r164, zk_r165, zk_r166, zk_r167, zk_r168, zk_r169, zk_r170, zk_r171, zk_r172, zk_r173, zk_r174, zk_r175, zk_r176, zk_r177, zk_r178, zk_r179, zk_r180, zk_r181, zk_r182, zk_r183, zk_r184, zk_r185, zk_r186, zk_r187, zk_r188, zk_r189, zk_r190, zk_r191, zk_r192, zk_r193, zk_r194, zk_r195, zk_r196, zk_r197, zk_r198, zk_r199, zk_r200, zk_r201, zk_r202, zk_r203, zk_r204]
def zk_MT : List zk_Row := zk_MT0 ++ [zk_r205]
def zk_okM (q : zk_Row) : Prop := Cond.code q.1 q.2.1 q.2.2.1 q.2.2.2.1 ∈ lw_tbl ∧ plainFor q.1 = true ∧ q.1.cls = zk_cn q.2.2.2.2.1 ∧ Cond.initialized q.1.cls ∈ lw_tbl ∧ q.1.cls ≠ "java/lang/invoke/MethodHandle" ∧ q.1.cls ≠ "java/lang/invoke/VarHandle" ∧ (parseMethodDescriptor q.1.desc).map (fun d => d.parameters.length) = some q.2.2.2.2.2.1
theorem zk_in1 {w : Cond} (h : w ∈ tables_1_1) : w ∈ lw_tbl := by simp only [lw_tbl, tables_1, List.mem_append]; simp only [h, true_or, or_true]
theorem zk_in2 {w : Cond} (h : w ∈ tables_1_2) : w ∈ lw_tbl := by simp only [lw_tbl, tables_1, List.mem_append]; simp only [h, true_or, or_true]
theorem zk_in3 {w : Cond} (h : w ∈ tables_1_3) : w ∈ lw_tbl := by simp only [lw_tbl, tables_1, List.mem_append]; simp only [h, true_or, or_true]
theorem zk_in4 {w : Cond} (h : w ∈ tables_1_4) : w ∈ lw_tbl := by simp only [lw_tbl, tables_1, List.mem_append]; simp only [h, true_or, or_true]
theorem zk_in5 {w : Cond} (h : w ∈ tables_1_5) : w ∈ lw_tbl := by simp only [lw_tbl, tables_1, List.mem_append]; simp only [h, true_or, or_true]
theorem zk_in6 {w : Cond} (h : w ∈ tables_1_6) : w ∈ lw_tbl := by simp only [lw_tbl, tables_1, List.mem_append]; simp only [h, true_or, or_true]
set_option maxRecDepth 20000 in
theorem zk_m0 : zk_okM zk_r0 := ⟨zk_in2 (List.mem_of_getElem? (i := 182) rfl), by decide +kernel, by decide +kernel, List.mem_of_getElem? (i := 73) (by decide +kernel), by decide +kernel, by decide +kernel, by decide +kernel⟩
set_option maxRecDepth 20000 in
theorem zk_m1 : zk_okM zk_r1 := ⟨zk_in3 (List.mem_of_getElem? (i := 134) rfl), by decide +kernel, by decide +kernel, List.mem_of_getElem? (i := 73) (by decide +kernel), by decide +kernel, by decide +kernel, by decide +kernel⟩
set_option maxRecDepth 20000 in
theorem zk_m2 : zk_okM zk_r2 := ⟨zk_in3 (List.mem_of_getElem? (i := 200) rfl), by decide +kernel, by decide +kernel, List.mem_of_getElem? (i := 73) (by decide +kernel), by decide +kernel, by decide +kernel, by decide +kernel⟩
set_option maxRecDepth 20000 in
theorem zk_m3 : zk_okM zk_r3 := ⟨zk_in4 (List.mem_of_getElem? (i := 3) rfl), by decide +kernel, by decide +kernel, List.mem_of_getElem? (i := 73) (by decide +kernel), by decide +kernel, by decide +kernel, by decide +kernel⟩
set_option maxRecDepth 20000 in
theorem zk_m4 : zk_okM zk_r4 := ⟨zk_in4 (List.mem_of_getElem? (i := 21) rfl), by decide +kernel, by decide +kernel, List.mem_of_getElem? (i := 73) (by decide +kernel), by decide +kernel, by decide +kernel, by decide +kernel⟩
set_option maxRecDepth 20000 in
theorem zk_m5 : zk_okM zk_r5 := ⟨zk_in1 (List.mem_of_getElem? (i := 42) rfl), by decide +kernel, by decide +kernel, List.mem_of_getElem? (i := 63) (by decide +kernel), by decide +kernel, by decide +kernel, by decide +kernel⟩
set_option maxRecDepth 20000 in
theorem zk_m6 : zk_okM zk_r6 := ⟨zk_in3 (List.mem_of_getElem? (i := 169) rfl), by decide +kernel, by decide +kernel, List.mem_of_getElem? (i := 63) (by decide +kernel), by decide +kernel, by decide +kernel, by decide +kernel⟩
set_option maxRecDepth 20000 in
theorem zk_m7 : zk_okM zk_r7 := ⟨zk_in3 (List.mem_of_getElem? (i := 173) rfl), by decide +kernel, by decide +kernel, List.mem_of_getElem? (i := 63) (by decide +kernel), by decide +kernel, by decide +kernel, by decide +kernel⟩
set_option maxRecDepth 20000 in
theorem zk_m8 : zk_okM zk_r8 := ⟨zk_in1 (List.mem_of_getElem? (i := 35) rfl), by decide +kernel, by decide +kernel, List.mem_of_getElem? (i := 62) (by decide +kernel), by decide +kernel, by decide +kernel, by decide +kernel⟩
set_option maxRecDepth 20000 in
theorem zk_m9 : zk_okM zk_r9 := ⟨zk_in3 (List.mem_of_getElem? (i := 165) rfl), by decide +kernel, by decide +kernel, List.mem_of_getElem? (i := 62) (by decide +kernel), by decide +kernel, by decide +kernel, by decide +kernel⟩
set_option maxRecDepth 20000 in
theorem zk_m10 : zk_okM zk_r10 := ⟨zk_in3 (List.mem_of_getElem? (i := 181) rfl), by decide +kernel, by decide +kernel, List.mem_of_getElem? (i := 62) (by decide +kernel), by decide +kernel, by decide +kernel, by decide +kernel⟩
set_option maxRecDepth 20000 in
theorem zk_m11 : zk_okM zk_r11 := ⟨zk_in3 (List.mem_of_getElem? (i := 185) rfl), by decide +kernel, by decide +kernel, List.mem_of_getElem? (i := 62) (by decide +kernel), by decide +kernel, by decide +kernel, by decide +kernel⟩
set_option maxRecDepth 20000 in
theorem zk_m12 : zk_okM zk_r12 := ⟨zk_in1 (List.mem_of_getElem? (i := 105) rfl), by decide +kernel, by decide +kernel, List.mem_of_getElem? (i := 64) (by decide +kernel), by decide +kernel, by decide +kernel, by decide +kernel⟩
set_option maxRecDepth 20000 in
theorem zk_m13 : zk_okM zk_r13 := ⟨zk_in3 (List.mem_of_getElem? (i := 151) rfl), by decide +kernel, by decide +kernel, List.mem_of_getElem? (i := 64) (by decide +kernel), by decide +kernel, by decide +kernel, by decide +kernel⟩
set_option maxRecDepth 20000 in
theorem zk_m14 : zk_okM zk_r14 := ⟨zk_in3 (List.mem_of_getElem? (i := 222) rfl), by decide +kernel, by decide +kernel, List.mem_of_getElem? (i := 64) (by decide +kernel), by decide +kernel, by decide +kernel, by decide +kernel⟩
set_option maxRecDepth 20000 in
theorem zk_m15 : zk_okM zk_r15 := ⟨zk_in3 (List.mem_of_getElem? (i := 234) rfl), by decide +kernel, by decide +kernel, List.mem_of_getElem? (i := 64) (by decide +kernel), by decide +kernel, by decide +kernel, by decide +kernel⟩
set_option maxRecDepth 20000 in
theorem zk_m16 : zk_okM zk_r16 := ⟨zk_in4 (List.mem_of_getElem? (i := 63) rfl), by decide +kernel, by decide +kernel, List.mem_of_getElem? (i := 64) (by decide +kernel), by decide +kernel, by decide +kernel, by decide +kernel⟩
set_option maxRecDepth 20000 in
theorem zk_m17 : zk_okM zk_r17 := ⟨zk_in1 (List.mem_of_getElem? (i := 212) rfl), by decide +kernel, by decide +kernel, List.mem_of_getElem? (i := 68) (by decide +kernel), by decide +kernel, by decide +kernel, by decide +kernel⟩
set_option maxRecDepth 20000 in
theorem zk_m18 : zk_okM zk_r18 := ⟨zk_in1 (List.mem_of_getElem? (i := 238) rfl), by decide +kernel, by decide +kernel, List.mem_of_getElem? (i := 68) (by decide +kernel), by decide +kernel, by decide +kernel, by decide +kernel⟩
set_option maxRecDepth 20000 in
theorem zk_m19 : zk_okM zk_r19 := ⟨zk_in2 (List.mem_of_getElem? (i := 50) rfl), by decide +kernel, by decide +kernel, List.mem_of_getElem? (i := 68) (by decide +kernel), by decide +kernel, by decide +kernel, by decide +kernel⟩
set_option maxRecDepth 20000 in
theorem zk_m20 : zk_okM zk_r20 := ⟨zk_in2 (List.mem_of_getElem? (i := 67) rfl), by decide +kernel, by decide +kernel, List.mem_of_getElem? (i := 68) (by decide +kernel), by decide +kernel, by decide +kernel, by decide +kernel⟩
set_option maxRecDepth 20000 in
theorem zk_m21 : zk_okM zk_r21 := ⟨zk_in3 (List.mem_of_getElem? (i := 11) rfl), by decide +kernel, by decide +kernel, List.mem_of_getElem? (i := 68) (by decide +kernel), by decide +kernel, by decide +kernel, by decide +kernel⟩
set_option maxRecDepth 20000 in
theorem zk_m22 : zk_okM zk_r22 := ⟨zk_in2 (List.mem_of_getElem? (i := 150) rfl), by decide +kernel, by decide +kernel, List.mem_of_getElem? (i := 74) (by decide +kernel), by decide +kernel, by decide +kernel, by decide +kernel⟩
set_option maxRecDepth 20000 in
theorem zk_m23 : zk_okM zk_r23 := ⟨zk_in2 (List.mem_of_getElem? (i := 230) rfl), by decide +kernel, by decide +kernel, List.mem_of_getElem? (i := 74) (by decide +kernel), by decide +kernel, by decide +kernel, by decide +kernel⟩
set_option maxRecDepth 20000 in
theorem zk_m24 : zk_okM zk_r24 := ⟨zk_in3 (List.mem_of_getElem? (i := 6) rfl), by decide +kernel, by decide +kernel, List.mem_of_getElem? (i := 74) (by decide +kernel), by decide +kernel, by decide +kernel, by decide +kernel⟩
set_option maxRecDepth 20000 in
theorem zk_m25 : zk_okM zk_r25 := ⟨zk_in3 (List.mem_of_getElem? (i := 20) rfl), by decide +kernel, by decide +kernel, List.mem_of_getElem? (i := 74) (by decide +kernel), by decide +kernel, by decide +kernel, by decide +kernel⟩
set_option maxRecDepth 20000 in
theorem zk_m26 : zk_okM zk_r26 := ⟨zk_in3 (List.mem_of_getElem? (i := 54) rfl), by decide +kernel, by decide +kernel, List.mem_of_getElem? (i := 74) (by decide +kernel), by decide +kernel, by decide +kernel, by decide +kernel⟩
set_option maxRecDepth 20000 in
theorem zk_m27 : zk_okM zk_r27 := ⟨zk_in3 (List.mem_of_getElem? (i := 61) rfl), by decide +kernel, by decide +kernel, List.mem_of_getElem? (i := 74) (by decide +kernel), by decide +kernel, by decide +kernel, by decide +kernel⟩
set_option maxRecDepth 20000 in
theorem zk_m28 : zk_okM zk_r28 := ⟨zk_in3 (List.mem_of_getElem? (i := 71) rfl), by decide +kernel, by decide +kernel, List.mem_of_getElem? (i := 74) (by decide +kernel), by decide +kernel, by decide +kernel, by decide +kernel⟩
set_option maxRecDepth 20000 in
theorem zk_m29 : zk_okM zk_r29 := ⟨zk_in3 (List.mem_of_getElem? (i := 76) rfl), by decide +kernel, by decide +kernel, List.mem_of_getElem? (i := 74) (by decide +kernel), by decide +kernel, by decide +kernel, by decide +kernel⟩
set_option maxRecDepth 20000 in
theorem zk_m30 : zk_okM zk_r30 := ⟨zk_in3 (List.mem_of_getElem? (i := 79) rfl), by decide +kernel, by decide +kernel, List.mem_of_getElem? (i := 74) (by decide +kernel), by decide +kernel, by decide +kernel, by decide +kernel⟩
set_option maxRecDepth 20000 in
theorem zk_m31 : zk_okM zk_r31 := ⟨zk_in3 (List.mem_of_getElem? (i := 82) rfl), by decide +kernel, by decide +kernel, List.mem_of_getElem? (i := 74) (by decide +kernel), by decide +kernel, by decide +kernel, by decide +kernel⟩
set_option maxRecDepth 20000 in
theorem zk_m32 : zk_okM zk_r32 := ⟨zk_in3 (List.mem_of_getElem? (i := 86) rfl), by decide +kernel, by decide +kernel, List.mem_of_getElem? (i := 74) (by decide +kernel), by decide +kernel, by decide +kernel, by decide +kernel⟩
set_option maxRecDepth 20000 in
theorem zk_m33 : zk_okM zk_r33 := ⟨zk_in3 (List.mem_of_getElem? (i := 92) rfl), by decide +kernel, by decide +kernel, List.mem_of_getElem? (i := 74) (by decide +kernel), by decide +kernel, by decide +kernel, by decide +kernel⟩
set_option maxRecDepth 20000 in
theorem zk_m34 : zk_okM zk_r34 := ⟨zk_in3 (List.mem_of_getElem? (i := 104) rfl), by decide +kernel, by decide +kernel, List.mem_of_getElem? (i := 74) (by decide +kernel), by decide +kernel, by decide +kernel, by decide +kernel⟩
set_option maxRecDepth 20000 in
theorem zk_m35 : zk_okM zk_r35 := ⟨zk_in3 (List.mem_of_getElem? (i := 139) rfl), by decide +kernel, by decide +kernel, List.mem_of_getElem? (i := 74) (by decide +kernel), by decide +kernel, by decide +kernel, by decide +kernel⟩
set_option maxRecDepth 20000 in
theorem zk_m36 : zk_okM zk_r36 := ⟨zk_in4 (List.mem_of_getElem? (i := 7) rfl), by decide +kernel, by decide +kernel, List.mem_of_getElem? (i := 74) (by decide +kernel), by decide +kernel, by decide +kernel, by decide +kernel⟩
set_option maxRecDepth 20000 in
theorem zk_m37 : zk_okM zk_r37 := ⟨zk_in1 (List.mem_of_getElem? (i := 111) rfl), by decide +kernel, by decide +kernel, List.mem_of_getElem? (i := 65) (by decide +kernel), by decide +kernel, by decide +kernel, by decide +kernel⟩
set_option maxRecDepth 20000 in
theorem zk_m38 : zk_okM zk_r38 := ⟨zk_in3 (List.mem_of_getElem? (i := 157) rfl), by decide +kernel, by decide +kernel, List.mem_of_getElem? (i := 65) (by decide +kernel), by decide +kernel, by decide +kernel, by decide +kernel⟩
set_option maxRecDepth 20000 in
theorem zk_m39 : zk_okM zk_r39 := ⟨zk_in3 (List.mem_of_getElem? (i := 214) rfl), by decide +kernel, by decide +kernel, List.mem_of_getElem? (i := 65) (by decide +kernel), by decide +kernel, by decide +kernel, by decide +kernel⟩
set_option maxRecDepth 20000 in
theorem zk_m40 : zk_okM zk_r40 := ⟨zk_in3 (List.mem_of_getElem? (i := 230) rfl), by decide +kernel, by decide +kernel, List.mem_of_getElem? (i := 65) (by decide +kernel), by decide +kernel, by decide +kernel, by decide +kernel⟩
set_option maxRecDepth 20000 in
theorem zk_m41 : zk_okM zk_r41 := ⟨zk_in4 (List.mem_of_getElem? (i := 38) rfl), by decide +kernel, by decide +kernel, List.mem_of_getElem? (i := 65) (by decide +kernel), by decide +kernel, by decide +kernel, by decide +kernel⟩
set_option maxRecDepth 20000 in
theorem zk_m42 : zk_okM zk_r42 := ⟨zk_in1 (List.mem_of_getElem? (i := 206) rfl), by decide +kernel, by decide +kernel, List.mem_of_getElem? (i := 67) (by decide +kernel), by decide +kernel, by decide +kernel, by decide +kernel⟩
set_option maxRecDepth 20000 in
theorem zk_m43 : zk_okM zk_r43 := ⟨zk_in2 (List.mem_of_getElem? (i := 42) rfl), by decide +kernel, by decide +kernel, List.mem_of_getElem? (i := 67) (by decide +kernel), by decide +kernel, by decide +kernel, by decide +kernel⟩
set_option maxRecDepth 20000 in
theorem zk_m44 : zk_okM zk_r44 := ⟨zk_in2 (List.mem_of_getElem? (i := 46) rfl), by decide +kernel, by decide +kernel, List.mem_of_getElem? (i := 67) (by decide +kernel), by decide +kernel, by decide +kernel, by decide +kernel⟩
set_option maxRecDepth 20000 in
theorem zk_m45 : zk_okM zk_r45 := ⟨zk_in2 (List.mem_of_getElem? (i := 54) rfl), by decide +kernel, by decide +kernel, List.mem_of_getElem? (i := 67) (by decide +kernel), by decide +kernel, by decide +kernel, by decide +kernel⟩
set_option maxRecDepth 20000 in
theorem zk_m46 : zk_okM zk_r46 := ⟨zk_in2 (List.mem_of_getElem? (i := 63) rfl), by decide +kernel, by decide +kernel, List.mem_of_getElem? (i := 67) (by decide +kernel), by decide +kernel, by decide +kernel, by decide +kernel⟩
set_option maxRecDepth 20000 in
theorem zk_m47 : zk_okM zk_r47 := ⟨zk_in2 (List.mem_of_getElem? (i := 71) rfl), by decide +kernel, by decide +kernel, List.mem_of_getElem? (i := 67) (by decide +kernel), by decide +kernel, by decide +kernel, by decide +kernel⟩
set_option maxRecDepth 20000 in
theorem zk_m48 : zk_okM zk_r48 := ⟨zk_in2 (List.mem_of_getElem? (i := 75) rfl), by decide +kernel, by decide +kernel, List.mem_of_getElem? (i := 67) (by decide +kernel), by decide +kernel, by decide +kernel, by decide +kernel⟩
set_option maxRecDepth 20000 in
theorem zk_m49 : zk_okM zk_r49 := ⟨zk_in2 (List.mem_of_getElem? (i := 79) rfl), by decide +kernel, by decide +kernel, List.mem_of_getElem? (i := 67) (by decide +kernel), by decide +kernel, by decide +kernel, by decide +kernel⟩
set_option maxRecDepth 20000 in
theorem zk_m50 : zk_okM zk_r50 := ⟨zk_in2 (List.mem_of_getElem? (i := 96) rfl), by decide +kernel, by decide +kernel, List.mem_of_getElem? (i := 67) (by decide +kernel), by decide +kernel, by decide +kernel, by decide +kernel⟩
set_option maxRecDepth 20000 in
theorem zk_m51 : zk_okM zk_r51 := ⟨zk_in2 (List.mem_of_getElem? (i := 104) rfl), by decide +kernel, by decide +kernel, List.mem_of_getElem? (i := 67) (by decide +kernel), by decide +kernel, by decide +kernel, by decide +kernel⟩
set_option maxRecDepth 20000 in
theorem zk_m52 : zk_okM zk_r52 := ⟨zk_in2 (List.mem_of_getElem? (i := 112) rfl), by decide +kernel, by decide +kernel, List.mem_of_getElem? (i := 67) (by decide +kernel), by decide +kernel, by decide +kernel, by decide +kernel⟩
set_option maxRecDepth 20000 in
theorem zk_m53 : zk_okM zk_r53 := ⟨zk_in3 (List.mem_of_getElem? (i := 65) rfl), by decide +kernel, by decide +kernel, List.mem_of_getElem? (i := 67) (by decide +kernel), by decide +kernel, by decide +kernel, by decide +kernel⟩
set_option maxRecDepth 20000 in
theorem zk_m54 : zk_okM zk_r54 := ⟨zk_in3 (List.mem_of_getElem? (i := 99) rfl), by decide +kernel, by decide +kernel, List.mem_of_getElem? (i := 67) (by decide +kernel), by decide +kernel, by decide +kernel, by decide +kernel⟩
set_option maxRecDepth 20000 in
theorem zk_m55 : zk_okM zk_r55 := ⟨zk_in3 (List.mem_of_getElem? (i := 108) rfl), by decide +kernel, by decide +kernel, List.mem_of_getElem? (i := 67) (by decide +kernel), by decide +kernel, by decide +kernel, by decide +kernel⟩
set_option maxRecDepth 20000 in
theorem zk_m56 : zk_okM zk_r56 := ⟨zk_in4 (List.mem_of_getElem? (i := 16) rfl), by decide +kernel, by decide +kernel, List.mem_of_getElem? (i := 67) (by decide +kernel), by decide +kernel, by decide +kernel, by decide +kernel⟩
set_option maxRecDepth 20000 in
theorem zk_m57 : zk_okM zk_r57 := ⟨zk_in4 (List.mem_of_getElem? (i := 26) rfl), by decide +kernel, by decide +kernel, List.mem_of_getElem? (i := 67) (by decide +kernel), by decide +kernel, by decide +kernel, by decide +kernel⟩
set_option maxRecDepth 20000 in
theorem zk_m58 : zk_okM zk_r58 := ⟨zk_in4 (List.mem_of_getElem? (i := 30) rfl), by decide +kernel, by decide +kernel, List.mem_of_getElem? (i := 67) (by decide +kernel), by decide +kernel, by decide +kernel, by decide +kernel⟩
set_option maxRecDepth 20000 in
theorem zk_m59 : zk_okM zk_r59 := ⟨zk_in4 (List.mem_of_getElem? (i := 34) rfl), by decide +kernel, by decide +kernel, List.mem_of_getElem? (i := 67) (by decide +kernel), by decide +kernel, by decide +kernel, by decide +kernel⟩
set_option maxRecDepth 20000 in
theorem zk_m60 : zk_okM zk_r60 := ⟨zk_in1 (List.mem_of_getElem? (i := 21) rfl), by decide +kernel, by decide +kernel, List.mem_of_getElem? (i := 61) (by decide +kernel), by decide +kernel, by decide +kernel, by decide +kernel⟩
set_option maxRecDepth 20000 in
theorem zk_m61 : zk_okM zk_r61 := ⟨zk_in1 (List.mem_of_getElem? (i := 202) rfl), by decide +kernel, by decide +kernel, List.mem_of_getElem? (i := 61) (by decide +kernel), by decide +kernel, by decide +kernel, by decide +kernel⟩
set_option maxRecDepth 20000 in
theorem zk_m62 : zk_okM zk_r62 := ⟨zk_in2 (List.mem_of_getElem? (i := 30) rfl), by decide +kernel, by decide +kernel, List.mem_of_getElem? (i := 61) (by decide +kernel), by decide +kernel, by decide +kernel, by decide +kernel⟩
set_option maxRecDepth 20000 in
theorem zk_m63 : zk_okM zk_r63 := ⟨zk_in2 (List.mem_of_getElem? (i := 34) rfl), by decide +kernel, by decide +kernel, List.mem_of_getElem? (i := 61) (by decide +kernel), by decide +kernel, by decide +kernel, by decide +kernel⟩
set_option maxRecDepth 20000 in
theorem zk_m64 : zk_okM zk_r64 := ⟨zk_in2 (List.mem_of_getElem? (i := 37) rfl), by decide +kernel, by decide +kernel, List.mem_of_getElem? (i := 61) (by decide +kernel), by decide +kernel, by decide +kernel, by decide +kernel⟩
set_option maxRecDepth 20000 in
theorem zk_m65 : zk_okM zk_r65 := ⟨zk_in2 (List.mem_of_getElem? (i := 59) rfl), by decide +kernel, by decide +kernel, List.mem_of_getElem? (i := 61) (by decide +kernel), by decide +kernel, by decide +kernel, by decide +kernel⟩
set_option maxRecDepth 20000 in
theorem zk_m66 : zk_okM zk_r66 := ⟨zk_in2 (List.mem_of_getElem? (i := 91) rfl), by decide +kernel, by decide +kernel, List.mem_of_getElem? (i := 61) (by decide +kernel), by decide +kernel, by decide +kernel, by decide +kernel⟩
set_option maxRecDepth 20000 in
theorem zk_m67 : zk_okM zk_r67 := ⟨zk_in2 (List.mem_of_getElem? (i := 100) rfl), by decide +kernel, by decide +kernel, List.mem_of_getElem? (i := 61) (by decide +kernel), by decide +kernel, by decide +kernel, by decide +kernel⟩
set_option maxRecDepth 20000 in
theorem zk_m68 : zk_okM zk_r68 := ⟨zk_in2 (List.mem_of_getElem? (i := 116) rfl), by decide +kernel, by decide +kernel, List.mem_of_getElem? (i := 61) (by decide +kernel), by decide +kernel, by decide +kernel, by decide +kernel⟩
set_option maxRecDepth 20000 in
theorem zk_m69 : zk_okM zk_r69 := ⟨zk_in2 (List.mem_of_getElem? (i := 121) rfl), by decide +kernel, by decide +kernel, List.mem_of_getElem? (i := 61) (by decide +kernel), by decide +kernel, by decide +kernel, by decide +kernel⟩
set_option maxRecDepth 20000 in
theorem zk_m70 : zk_okM zk_r70 := ⟨zk_in2 (List.mem_of_getElem? (i := 144) rfl), by decide +kernel, by decide +kernel, List.mem_of_getElem? (i := 61) (by decide +kernel), by decide +kernel, by decide +kernel, by decide +kernel⟩
set_option maxRecDepth 20000 in
theorem zk_m71 : zk_okM zk_r71 := ⟨zk_in2 (List.mem_of_getElem? (i := 222) rfl), by decide +kernel, by decide +kernel, List.mem_of_getElem? (i := 61) (by decide +kernel), by decide +kernel, by decide +kernel, by decide +kernel⟩
set_option maxRecDepth 20000 in
theorem zk_m72 : zk_okM zk_r72 := ⟨zk_in2 (List.mem_of_getElem? (i := 226) rfl), by decide +kernel, by decide +kernel, List.mem_of_getElem? (i := 61) (by decide +kernel), by decide +kernel, by decide +kernel, by decide +kernel⟩
set_option maxRecDepth 20000 in
theorem zk_m73 : zk_okM zk_r73 := ⟨zk_in3 (List.mem_of_getElem? (i := 2) rfl), by decide +kernel, by decide +kernel, List.mem_of_getElem? (i := 61) (by decide +kernel), by decide +kernel, by decide +kernel, by decide +kernel⟩
set_option maxRecDepth 20000 in
theorem zk_m74 : zk_okM zk_r74 := ⟨zk_in3 (List.mem_of_getElem? (i := 16) rfl), by decide +kernel, by decide +kernel, List.mem_of_getElem? (i := 61) (by decide +kernel), by decide +kernel, by decide +kernel, by decide +kernel⟩
set_option maxRecDepth 20000 in
theorem zk_m75 : zk_okM zk_r75 := ⟨zk_in3 (List.mem_of_getElem? (i := 24) rfl), by decide +kernel, by decide +kernel, List.mem_of_getElem? (i := 61) (by decide +kernel), by decide +kernel, by decide +kernel, by decide +kernel⟩
set_option maxRecDepth 20000 in
theorem zk_m76 : zk_okM zk_r76 := ⟨zk_in3 (List.mem_of_getElem? (i := 28) rfl), by decide +kernel, by decide +kernel, List.mem_of_getElem? (i := 61) (by decide +kernel), by decide +kernel, by decide +kernel, by decide +kernel⟩
set_option maxRecDepth 20000 in
theorem zk_m77 : zk_okM zk_r77 := ⟨zk_in3 (List.mem_of_getElem? (i := 32) rfl), by decide +kernel, by decide +kernel, List.mem_of_getElem? (i := 61) (by decide +kernel), by decide +kernel, by decide +kernel, by decide +kernel⟩
set_option maxRecDepth 20000 in
theorem zk_m78 : zk_okM zk_r78 := ⟨zk_in3 (List.mem_of_getElem? (i := 36) rfl), by decide +kernel, by decide +kernel, List.mem_of_getElem? (i := 61) (by decide +kernel), by decide +kernel, by decide +kernel, by decide +kernel⟩
set_option maxRecDepth 20000 in
theorem zk_m79 : zk_okM zk_r79 := ⟨zk_in3 (List.mem_of_getElem? (i := 46) rfl), by decide +kernel, by decide +kernel, List.mem_of_getElem? (i := 61) (by decide +kernel), by decide +kernel, by decide +kernel, by decide +kernel⟩
set_option maxRecDepth 20000 in
theorem zk_m80 : zk_okM zk_r80 := ⟨zk_in3 (List.mem_of_getElem? (i := 50) rfl), by decide +kernel, by decide +kernel, List.mem_of_getElem? (i := 61) (by decide +kernel), by decide +kernel, by decide +kernel, by decide +kernel⟩
set_option maxRecDepth 20000 in
theorem zk_m81 : zk_okM zk_r81 := ⟨zk_in3 (List.mem_of_getElem? (i := 114) rfl), by decide +kernel, by decide +kernel, List.mem_of_getElem? (i := 61) (by decide +kernel), by decide +kernel, by decide +kernel, by decide +kernel⟩
set_option maxRecDepth 20000 in
theorem zk_m82 : zk_okM zk_r82 := ⟨zk_in3 (List.mem_of_getElem? (i := 118) rfl), by decide +kernel, by decide +kernel, List.mem_of_getElem? (i := 61) (by decide +kernel), by decide +kernel, by decide +kernel, by decide +kernel⟩
set_option maxRecDepth 20000 in
theorem zk_m83 : zk_okM zk_r83 := ⟨zk_in3 (List.mem_of_getElem? (i := 122) rfl), by decide +kernel, by decide +kernel, List.mem_of_getElem? (i := 61) (by decide +kernel), by decide +kernel, by decide +kernel, by decide +kernel⟩
set_option maxRecDepth 20000 in
theorem zk_m84 : zk_okM zk_r84 := ⟨zk_in3 (List.mem_of_getElem? (i := 126) rfl), by decide +kernel, by decide +kernel, List.mem_of_getElem? (i := 61) (by decide +kernel), by decide +kernel, by decide +kernel, by decide +kernel⟩
set_option maxRecDepth 20000 in
theorem zk_m85 : zk_okM zk_r85 := ⟨zk_in3 (List.mem_of_getElem? (i := 129) rfl), by decide +kernel, by decide +kernel, List.mem_of_getElem? (i := 61) (by decide +kernel), by decide +kernel, by decide +kernel, by decide +kernel⟩
set_option maxRecDepth 20000 in
theorem zk_m86 : zk_okM zk_r86 := ⟨zk_in3 (List.mem_of_getElem? (i := 143) rfl), by decide +kernel, by decide +kernel, List.mem_of_getElem? (i := 61) (by decide +kernel), by decide +kernel, by decide +kernel, by decide +kernel⟩
set_option maxRecDepth 20000 in
theorem zk_m87 : zk_okM zk_r87 := ⟨zk_in3 (List.mem_of_getElem? (i := 147) rfl), by decide +kernel, by decide +kernel, List.mem_of_getElem? (i := 61) (by decide +kernel), by decide +kernel, by decide +kernel, by decide +kernel⟩
set_option maxRecDepth 20000 in
theorem zk_m88 : zk_okM zk_r88 := ⟨zk_in3 (List.mem_of_getElem? (i := 161) rfl), by decide +kernel, by decide +kernel, List.mem_of_getElem? (i := 61) (by decide +kernel), by decide +kernel, by decide +kernel, by decide +kernel⟩
set_option maxRecDepth 20000 in
theorem zk_m89 : zk_okM zk_r89 := ⟨zk_in3 (List.mem_of_getElem? (i := 177) rfl), by decide +kernel, by decide +kernel, List.mem_of_getElem? (i := 61) (by decide +kernel), by decide +kernel, by decide +kernel, by decide +kernel⟩
set_option maxRecDepth 20000 in
theorem zk_m90 : zk_okM zk_r90 := ⟨zk_in3 (List.mem_of_getElem? (i := 189) rfl), by decide +kernel, by decide +kernel, List.mem_of_getElem? (i := 61) (by decide +kernel), by decide +kernel, by decide +kernel, by decide +kernel⟩
set_option maxRecDepth 20000 in
theorem zk_m91 : zk_okM zk_r91 := ⟨zk_in3 (List.mem_of_getElem? (i := 193) rfl), by decide +kernel, by decide +kernel, List.mem_of_getElem? (i := 61) (by decide +kernel), by decide +kernel, by decide +kernel, by decide +kernel⟩
set_option maxRecDepth 20000 in
theorem zk_m92 : zk_okM zk_r92 := ⟨zk_in3 (List.mem_of_getElem? (i := 196) rfl), by decide +kernel, by decide +kernel, List.mem_of_getElem? (i := 61) (by decide +kernel), by decide +kernel, by decide +kernel, by decide +kernel⟩
set_option maxRecDepth 20000 in
theorem zk_m93 : zk_okM zk_r93 := ⟨zk_in3 (List.mem_of_getElem? (i := 206) rfl), by decide +kernel, by decide +kernel, List.mem_of_getElem? (i := 61) (by decide +kernel), by decide +kernel, by decide +kernel, by decide +kernel⟩
set_option maxRecDepth 20000 in
theorem zk_m94 : zk_okM zk_r94 := ⟨zk_in3 (List.mem_of_getElem? (i := 210) rfl), by decide +kernel, by decide +kernel, List.mem_of_getElem? (i := 61) (by decide +kernel), by decide +kernel, by decide +kernel, by decide +kernel⟩
set_option maxRecDepth 20000 in
theorem zk_m95 : zk_okM zk_r95 := ⟨zk_in3 (List.mem_of_getElem? (i := 218) rfl), by decide +kernel, by decide +kernel, List.mem_of_getElem? (i := 61) (by decide +kernel), by decide +kernel, by decide +kernel, by decide +kernel⟩
set_option maxRecDepth 20000 in
theorem zk_m96 : zk_okM zk_r96 := ⟨zk_in3 (List.mem_of_getElem? (i := 226) rfl), by decide +kernel, by decide +kernel, List.mem_of_getElem? (i := 61) (by decide +kernel), by decide +kernel, by decide +kernel, by decide +kernel⟩
set_option maxRecDepth 20000 in
theorem zk_m97 : zk_okM zk_r97 := ⟨zk_in3 (List.mem_of_getElem? (i := 239) rfl), by decide +kernel, by decide +kernel, List.mem_of_getElem? (i := 61) (by decide +kernel), by decide +kernel, by decide +kernel, by decide +kernel⟩
set_option maxRecDepth 20000 in
theorem zk_m98 : zk_okM zk_r98 := ⟨zk_in4 (List.mem_of_getElem? (i := 12) rfl), by decide +kernel, by decide +kernel, List.mem_of_getElem? (i := 61) (by decide +kernel), by decide +kernel, by decide +kernel, by decide +kernel⟩
set_option maxRecDepth 20000 in
theorem zk_m99 : zk_okM zk_r99 := ⟨zk_in4 (List.mem_of_getElem? (i := 42) rfl), by decide +kernel, by decide +kernel, List.mem_of_getElem? (i := 61) (by decide +kernel), by decide +kernel, by decide +kernel, by decide +kernel⟩
set_option maxRecDepth 20000 in
theorem zk_m100 : zk_okM zk_r100 := ⟨zk_in4 (List.mem_of_getElem? (i := 46) rfl), by decide +kernel, by decide +kernel, List.mem_of_getElem? (i := 61) (by decide +kernel), by decide +kernel, by decide +kernel, by decide +kernel⟩
set_option maxRecDepth 20000 in
theorem zk_m101 : zk_okM zk_r101 := ⟨zk_in4 (List.mem_of_getElem? (i := 50) rfl), by decide +kernel, by decide +kernel, List.mem_of_getElem? (i := 61) (by decide +kernel), by decide +kernel, by decide +kernel, by decide +kernel⟩
set_option maxRecDepth 20000 in
theorem zk_m102 : zk_okM zk_r102 := ⟨zk_in4 (List.mem_of_getElem? (i := 55) rfl), by decide +kernel, by decide +kernel, List.mem_of_getElem? (i := 61) (by decide +kernel), by decide +kernel, by decide +kernel, by decide +kernel⟩
set_option maxRecDepth 20000 in
theorem zk_m103 : zk_okM zk_r103 := ⟨zk_in4 (List.mem_of_getElem? (i := 59) rfl), by decide +kernel, by decide +kernel, List.mem_of_getElem? (i := 61) (by decide +kernel), by decide +kernel, by decide +kernel, by decide +kernel⟩
set_option maxRecDepth 20000 in
theorem zk_m104 : zk_okM zk_r104 := ⟨zk_in4 (List.mem_of_getElem? (i := 67) rfl), by decide +kernel, by decide +kernel, List.mem_of_getElem? (i := 61) (by decide +kernel), by decide +kernel, by decide +kernel, by decide +kernel⟩
set_option maxRecDepth 20000 in
theorem zk_m105 : zk_okM zk_r105 := ⟨zk_in4 (List.mem_of_getElem? (i := 71) rfl), by decide +kernel, by decide +kernel, List.mem_of_getElem? (i := 61) (by decide +kernel), by decide +kernel, by decide +kernel, by decide +kernel⟩
set_option maxRecDepth 20000 in
theorem zk_m106 : zk_okM zk_r106 := ⟨zk_in4 (List.mem_of_getElem? (i := 75) rfl), by decide +kernel, by decide +kernel, List.mem_of_getElem? (i := 61) (by decide +kernel), by decide +kernel, by decide +kernel, by decide +kernel⟩
set_option maxRecDepth 20000 in
theorem zk_m107 : zk_okM zk_r107 := ⟨zk_in4 (List.mem_of_getElem? (i := 79) rfl), by decide +kernel, by decide +kernel, List.mem_of_getElem? (i := 61) (by decide +kernel), by decide +kernel, by decide +kernel, by decide +kernel⟩
set_option maxRecDepth 20000 in
theorem zk_m108 : zk_okM zk_r108 := ⟨zk_in4 (List.mem_of_getElem? (i := 83) rfl), by decide +kernel, by decide +kernel, List.mem_of_getElem? (i := 61) (by decide +kernel), by decide +kernel, by decide +kernel, by decide +kernel⟩
set_option maxRecDepth 20000 in
theorem zk_m109 : zk_okM zk_r109 := ⟨zk_in4 (List.mem_of_getElem? (i := 88) rfl), by decide +kernel, by decide +kernel, List.mem_of_getElem? (i := 61) (by decide +kernel), by decide +kernel, by decide +kernel, by decide +kernel⟩
set_option maxRecDepth 20000 in
theorem zk_m110 : zk_okM zk_r110 := ⟨zk_in4 (List.mem_of_getElem? (i := 92) rfl), by decide +kernel, by decide +kernel, List.mem_of_getElem? (i := 61) (by decide +kernel), by decide +kernel, by decide +kernel, by decide +kernel⟩
set_option maxRecDepth 20000 in
theorem zk_m111 : zk_okM zk_r111 := ⟨zk_in4 (List.mem_of_getElem? (i := 96) rfl), by decide +kernel, by decide +kernel, List.mem_of_getElem? (i := 61) (by decide +kernel), by decide +kernel, by decide +kernel, by decide +kernel⟩
set_option maxRecDepth 20000 in
theorem zk_m112 : zk_okM zk_r112 := ⟨zk_in4 (List.mem_of_getElem? (i := 100) rfl), by decide +kernel, by decide +kernel, List.mem_of_getElem? (i := 61) (by decide +kernel), by decide +kernel, by decide +kernel, by decide +kernel⟩
set_option maxRecDepth 20000 in
theorem zk_m113 : zk_okM zk_r113 := ⟨zk_in4 (List.mem_of_getElem? (i := 105) rfl), by decide +kernel, by decide +kernel, List.mem_of_getElem? (i := 66) (by decide +kernel), by decide +kernel, by decide +kernel, by decide +kernel⟩
set_option maxRecDepth 20000 in
theorem zk_m114 : zk_okM zk_r114 := ⟨zk_in5 (List.mem_of_getElem? (i := 39) rfl), by decide +kernel, by decide +kernel, List.mem_of_getElem? (i := 66) (by decide +kernel), by decide +kernel, by decide +kernel, by decide +kernel⟩
set_option maxRecDepth 20000 in
theorem zk_m115 : zk_okM zk_r115 := ⟨zk_in5 (List.mem_of_getElem? (i := 43) rfl), by decide +kernel, by decide +kernel, List.mem_of_getElem? (i := 66) (by decide +kernel), by decide +kernel, by decide +kernel, by decide +kernel⟩
set_option maxRecDepth 20000 in
theorem zk_m116 : zk_okM zk_r116 := ⟨zk_in5 (List.mem_of_getElem? (i := 47) rfl), by decide +kernel, by decide +kernel, List.mem_of_getElem? (i := 66) (by decide +kernel), by decide +kernel, by decide +kernel, by decide +kernel⟩
set_option maxRecDepth 20000 in
theorem zk_m117 : zk_okM zk_r117 := ⟨zk_in5 (List.mem_of_getElem? (i := 50) rfl), by decide +kernel, by decide +kernel, List.mem_of_getElem? (i := 66) (by decide +kernel), by decide +kernel, by decide +kernel, by decide +kernel⟩
set_option maxRecDepth 20000 in
theorem zk_m118 : zk_okM zk_r118 := ⟨zk_in5 (List.mem_of_getElem? (i := 55) rfl), by decide +kernel, by decide +kernel, List.mem_of_getElem? (i := 66) (by decide +kernel), by decide +kernel, by decide +kernel, by decide +kernel⟩
set_option maxRecDepth 20000 in
theorem zk_m119 : zk_okM zk_r119 := ⟨zk_in5 (List.mem_of_getElem? (i := 59) rfl), by decide +kernel, by decide +kernel, List.mem_of_getElem? (i := 66) (by decide +kernel), by decide +kernel, by decide +kernel, by decide +kernel⟩
set_option maxRecDepth 20000 in
theorem zk_m120 : zk_okM zk_r120 := ⟨zk_in5 (List.mem_of_getElem? (i := 63) rfl), by decide +kernel, by decide +kernel, List.mem_of_getElem? (i := 66) (by decide +kernel), by decide +kernel, by decide +kernel, by decide +kernel⟩
set_option maxRecDepth 20000 in
theorem zk_m121 : zk_okM zk_r121 := ⟨zk_in5 (List.mem_of_getElem? (i := 67) rfl), by decide +kernel, by decide +kernel, List.mem_of_getElem? (i := 66) (by decide +kernel), by decide +kernel, by decide +kernel, by decide +kernel⟩
set_option maxRecDepth 20000 in
theorem zk_m122 : zk_okM zk_r122 := ⟨zk_in5 (List.mem_of_getElem? (i := 71) rfl), by decide +kernel, by decide +kernel, List.mem_of_getElem? (i := 66) (by decide +kernel), by decide +kernel, by decide +kernel, by decide +kernel⟩
set_option maxRecDepth 20000 in
theorem zk_m123 : zk_okM zk_r123 := ⟨zk_in5 (List.mem_of_getElem? (i := 75) rfl), by decide +kernel, by decide +kernel, List.mem_of_getElem? (i := 66) (by decide +kernel), by decide +kernel, by decide +kernel, by decide +kernel⟩
set_option maxRecDepth 20000 in
theorem zk_m124 : zk_okM zk_r124 := ⟨zk_in5 (List.mem_of_getElem? (i := 80) rfl), by decide +kernel, by decide +kernel, List.mem_of_getElem? (i := 66) (by decide +kernel), by decide +kernel, by decide +kernel, by decide +kernel⟩
set_option maxRecDepth 20000 in
theorem zk_m125 : zk_okM zk_r125 := ⟨zk_in5 (List.mem_of_getElem? (i := 85) rfl), by decide +kernel, by decide +kernel, List.mem_of_getElem? (i := 66) (by decide +kernel), by decide +kernel, by decide +kernel, by decide +kernel⟩
set_option maxRecDepth 20000 in
theorem zk_m126 : zk_okM zk_r126 := ⟨zk_in5 (List.mem_of_getElem? (i := 88) rfl), by decide +kernel, by decide +kernel, List.mem_of_getElem? (i := 66) (by decide +kernel), by decide +kernel, by decide +kernel, by decide +kernel⟩
set_option maxRecDepth 20000 in
theorem zk_m127 : zk_okM zk_r127 := ⟨zk_in5 (List.mem_of_getElem? (i := 92) rfl), by decide +kernel, by decide +kernel, List.mem_of_getElem? (i := 66) (by decide +kernel), by decide +kernel, by decide +kernel, by decide +kernel⟩
set_option maxRecDepth 20000 in
theorem zk_m128 : zk_okM zk_r128 := ⟨zk_in5 (List.mem_of_getElem? (i := 96) rfl), by decide +kernel, by decide +kernel, List.mem_of_getElem? (i := 66) (by decide +kernel), by decide +kernel, by decide +kernel, by decide +kernel⟩
set_option maxRecDepth 20000 in
theorem zk_m129 : zk_okM zk_r129 := ⟨zk_in5 (List.mem_of_getElem? (i := 100) rfl), by decide +kernel, by decide +kernel, List.mem_of_getElem? (i := 66) (by decide +kernel), by decide +kernel, by decide +kernel, by decide +kernel⟩
set_option maxRecDepth 20000 in
theorem zk_m130 : zk_okM zk_r130 := ⟨zk_in5 (List.mem_of_getElem? (i := 107) rfl), by decide +kernel, by decide +kernel, List.mem_of_getElem? (i := 66) (by decide +kernel), by decide +kernel, by decide +kernel, by decide +kernel⟩
set_option maxRecDepth 20000 in
theorem zk_m131 : zk_okM zk_r131 := ⟨zk_in5 (List.mem_of_getElem? (i := 111) rfl), by decide +kernel, by decide +kernel, List.mem_of_getElem? (i := 66) (by decide +kernel), by decide +kernel, by decide +kernel, by decide +kernel⟩
set_option maxRecDepth 20000 in
theorem zk_m132 : zk_okM zk_r132 := ⟨zk_in5 (List.mem_of_getElem? (i := 115) rfl), by decide +kernel, by decide +kernel, List.mem_of_getElem? (i := 66) (by decide +kernel), by decide +kernel, by decide +kernel, by decide +kernel⟩
set_option maxRecDepth 20000 in
theorem zk_m133 : zk_okM zk_r133 := ⟨zk_in5 (List.mem_of_getElem? (i := 119) rfl), by decide +kernel, by decide +kernel, List.mem_of_getElem? (i := 66) (by decide +kernel), by decide +kernel, by decide +kernel, by decide +kernel⟩
set_option maxRecDepth 20000 in
theorem zk_m134 : zk_okM zk_r134 := ⟨zk_in5 (List.mem_of_getElem? (i := 123) rfl), by decide +kernel, by decide +kernel, List.mem_of_getElem? (i := 66) (by decide +kernel), by decide +kernel, by decide +kernel, by decide +kernel⟩
set_option maxRecDepth 20000 in
theorem zk_m135 : zk_okM zk_r135 := ⟨zk_in5 (List.mem_of_getElem? (i := 131) rfl), by decide +kernel, by decide +kernel, List.mem_of_getElem? (i := 66) (by decide +kernel), by decide +kernel, by decide +kernel, by decide +kernel⟩
set_option maxRecDepth 20000 in
theorem zk_m136 : zk_okM zk_r136 := ⟨zk_in5 (List.mem_of_getElem? (i := 135) rfl), by decide +kernel, by decide +kernel, List.mem_of_getElem? (i := 66) (by decide +kernel), by decide +kernel, by decide +kernel, by decide +kernel⟩
set_option maxRecDepth 20000 in
theorem zk_m137 : zk_okM zk_r137 := ⟨zk_in5 (List.mem_of_getElem? (i := 139) rfl), by decide +kernel, by decide +kernel, List.mem_of_getElem? (i := 66) (by decide +kernel), by decide +kernel, by decide +kernel, by decide +kernel⟩
set_option maxRecDepth 20000 in
theorem zk_m138 : zk_okM zk_r138 := ⟨zk_in5 (List.mem_of_getElem? (i := 143) rfl), by decide +kernel, by decide +kernel, List.mem_of_getElem? (i := 66) (by decide +kernel), by decide +kernel, by decide +kernel, by decide +kernel⟩
set_option maxRecDepth 20000 in
theorem zk_m139 : zk_okM zk_r139 := ⟨zk_in5 (List.mem_of_getElem? (i := 147) rfl), by decide +kernel, by decide +kernel, List.mem_of_getElem? (i := 66) (by decide +kernel), by decide +kernel, by decide +kernel, by decide +kernel⟩
set_option maxRecDepth 20000 in
theorem zk_m140 : zk_okM zk_r140 := ⟨zk_in5 (List.mem_of_getElem? (i := 151) rfl), by decide +kernel, by decide +kernel, List.mem_of_getElem? (i := 66) (by decide +kernel), by decide +kernel, by decide +kernel, by decide +kernel⟩
set_option maxRecDepth 20000 in
theorem zk_m141 : zk_okM zk_r141 := ⟨zk_in5 (List.mem_of_getElem? (i := 155) rfl), by decide +kernel, by decide +kernel, List.mem_of_getElem? (i := 66) (by decide +kernel), by decide +kernel, by decide +kernel, by decide +kernel⟩
set_option maxRecDepth 20000 in
theorem zk_m142 : zk_okM zk_r142 := ⟨zk_in5 (List.mem_of_getElem? (i := 159) rfl), by decide +kernel, by decide +kernel, List.mem_of_getElem? (i := 66) (by decide +kernel), by decide +kernel, by decide +kernel, by decide +kernel⟩
set_option maxRecDepth 20000 in
theorem zk_m143 : zk_okM zk_r143 := ⟨zk_in5 (List.mem_of_getElem? (i := 163) rfl), by decide +kernel, by decide +kernel, List.mem_of_getElem? (i := 66) (by decide +kernel), by decide +kernel, by decide +kernel, by decide +kernel⟩
set_option maxRecDepth 20000 in
theorem zk_m144 : zk_okM zk_r144 := ⟨zk_in5 (List.mem_of_getElem? (i := 167) rfl), by decide +kernel, by decide +kernel, List.mem_of_getElem? (i := 66) (by decide +kernel), by decide +kernel, by decide +kernel, by decide +kernel⟩
set_option maxRecDepth 20000 in
theorem zk_m145 : zk_okM zk_r145 := ⟨zk_in5 (List.mem_of_getElem? (i := 171) rfl), by decide +kernel, by decide +kernel, List.mem_of_getElem? (i := 66) (by decide +kernel), by decide +kernel, by decide +kernel, by decide +kernel⟩
set_option maxRecDepth 20000 in
theorem zk_m146 : zk_okM zk_r146 := ⟨zk_in5 (List.mem_of_getElem? (i := 175) rfl), by decide +kernel, by decide +kernel, List.mem_of_getElem? (i := 66) (by decide +kernel), by decide +kernel, by decide +kernel, by decide +kernel⟩
set_option maxRecDepth 20000 in
theorem zk_m147 : zk_okM zk_r147 := ⟨zk_in5 (List.mem_of_getElem? (i := 179) rfl), by decide +kernel, by decide +kernel, List.mem_of_getElem? (i := 66) (by decide +kernel), by decide +kernel, by decide +kernel, by decide +kernel⟩
set_option maxRecDepth 20000 in
theorem zk_m148 : zk_okM zk_r148 := ⟨zk_in5 (List.mem_of_getElem? (i := 182) rfl), by decide +kernel, by decide +kernel, List.mem_of_getElem? (i := 66) (by decide +kernel), by decide +kernel, by decide +kernel, by decide +kernel⟩
set_option maxRecDepth 20000 in
theorem zk_m149 : zk_okM zk_r149 := ⟨zk_in5 (List.mem_of_getElem? (i := 185) rfl), by decide +kernel, by decide +kernel, List.mem_of_getElem? (i := 66) (by decide +kernel), by decide +kernel, by decide +kernel, by decide +kernel⟩
set_option maxRecDepth 20000 in
theorem zk_m150 : zk_okM zk_r150 := ⟨zk_in5 (List.mem_of_getElem? (i := 189) rfl), by decide +kernel, by decide +kernel, List.mem_of_getElem? (i := 66) (by decide +kernel), by decide +kernel, by decide +kernel, by decide +kernel⟩
set_option maxRecDepth 20000 in
theorem zk_m151 : zk_okM zk_r151 := ⟨zk_in5 (List.mem_of_getElem? (i := 193) rfl), by decide +kernel, by decide +kernel, List.mem_of_getElem? (i := 66) (by decide +kernel), by decide +kernel, by decide +kernel, by decide +kernel⟩
set_option maxRecDepth 20000 in
theorem zk_m152 : zk_okM zk_r152 := ⟨zk_in5 (List.mem_of_getElem? (i := 196) rfl), by decide +kernel, by decide +kernel, List.mem_of_getElem? (i := 66) (by decide +kernel), by decide +kernel, by decide +kernel, by decide +kernel⟩
set_option maxRecDepth 20000 in
theorem zk_m153 : zk_okM zk_r153 := ⟨zk_in5 (List.mem_of_getElem? (i := 199) rfl), by decide +kernel, by decide +kernel, List.mem_of_getElem? (i := 66) (by decide +kernel), by decide +kernel, by decide +kernel, by decide +kernel⟩
set_option maxRecDepth 20000 in
theorem zk_m154 : zk_okM zk_r154 := ⟨zk_in5 (List.mem_of_getElem? (i := 203) rfl), by decide +kernel, by decide +kernel, List.mem_of_getElem? (i := 66) (by decide +kernel), by decide +kernel, by decide +kernel, by decide +kernel⟩
set_option maxRecDepth 20000 in
theorem zk_m155 : zk_okM zk_r155 := ⟨zk_in5 (List.mem_of_getElem? (i := 207) rfl), by decide +kernel, by decide +kernel, List.mem_of_getElem? (i := 66) (by decide +kernel), by decide +kernel, by decide +kernel, by decide +kernel⟩
set_option maxRecDepth 20000 in
theorem zk_m156 : zk_okM zk_r156 := ⟨zk_in5 (List.mem_of_getElem? (i := 211) rfl), by decide +kernel, by decide +kernel, List.mem_of_getElem? (i := 66) (by decide +kernel), by decide +kernel, by decide +kernel, by decide +kernel⟩
set_option maxRecDepth 20000 in
theorem zk_m157 : zk_okM zk_r157 := ⟨zk_in5 (List.mem_of_getElem? (i := 215) rfl), by decide +kernel, by decide +kernel, List.mem_of_getElem? (i := 66) (by decide +kernel), by decide +kernel, by decide +kernel, by decide +kernel⟩
set_option maxRecDepth 20000 in
theorem zk_m158 : zk_okM zk_r158 := ⟨zk_in5 (List.mem_of_getElem? (i := 219) rfl), by decide +kernel, by decide +kernel, List.mem_of_getElem? (i := 66) (by decide +kernel), by decide +kernel, by decide +kernel, by decide +kernel⟩
set_option maxRecDepth 20000 in
theorem zk_m159 : zk_okM zk_r159 := ⟨zk_in5 (List.mem_of_getElem? (i := 223) rfl), by decide +kernel, by decide +kernel, List.mem_of_getElem? (i := 66) (by decide +kernel), by decide +kernel, by decide +kernel, by decide +kernel⟩
set_option maxRecDepth 20000 in
theorem zk_m160 : zk_okM zk_r160 := ⟨zk_in5 (List.mem_of_getElem? (i := 227) rfl), by decide +kernel, by decide +kernel, List.mem_of_getElem? (i := 66) (by decide +kernel), by decide +kernel, by decide +kernel, by decide +kernel⟩
set_option maxRecDepth 20000 in
theorem zk_m161 : zk_okM zk_r161 := ⟨zk_in5 (List.mem_of_getElem? (i := 231) rfl), by decide +kernel, by decide +kernel, List.mem_of_getElem? (i := 66) (by decide +kernel), by decide +kernel, by decide +kernel, by decide +kernel⟩
set_option maxRecDepth 20000 in
theorem zk_m162 : zk_okM zk_r162 := ⟨zk_in5 (List.mem_of_getElem? (i := 235) rfl), by decide +kernel, by decide +kernel, List.mem_of_getElem? (i := 66) (by decide +kernel), by decide +kernel, by decide +kernel, by decide +kernel⟩
set_option maxRecDepth 20000 in
theorem zk_m163 : zk_okM zk_r163 := ⟨zk_in5 (List.mem_of_getElem? (i := 239) rfl), by decide +kernel, by decide +kernel, List.mem_of_getElem? (i := 66) (by decide +kernel), by decide +kernel, by decide +kernel, by decide +kernel⟩
set_option maxRecDepth 20000 in
theorem zk_m164 : zk_okM zk_r164 := ⟨zk_in6 (List.mem_of_getElem? (i := 3) rfl), by decide +kernel, by decide +kernel, List.mem_of_getElem? (i := 66) (by decide +kernel), by decide +kernel, by decide +kernel, by decide +kernel⟩
set_option maxRecDepth 20000 in
theorem zk_m165 : zk_okM zk_r165 := ⟨zk_in6 (List.mem_of_getElem? (i := 7) rfl), by decide +kernel, by decide +kernel, List.mem_of_getElem? (i := 66) (by decide +kernel), by decide +kernel, by decide +kernel, by decide +kernel⟩
set_option maxRecDepth 20000 in
theorem zk_m166 : zk_okM zk_r166 := ⟨zk_in6 (List.mem_of_getElem? (i := 11) rfl), by decide +kernel, by decide +kernel, List.mem_of_getElem? (i := 66) (by decide +kernel), by decide +kernel, by decide +kernel, by decide +kernel⟩
set_option maxRecDepth 20000 in
theorem zk_m167 : zk_okM zk_r167 := ⟨zk_in6 (List.mem_of_getElem? (i := 15) rfl), by decide +kernel, by decide +kernel, List.mem_of_getElem? (i := 66) (by decide +kernel), by decide +kernel, by decide +kernel, by decide +kernel⟩
set_option maxRecDepth 20000 in
theorem zk_m168 : zk_okM zk_r168 := ⟨zk_in6 (List.mem_of_getElem? (i := 19) rfl), by decide +kernel, by decide +kernel, List.mem_of_getElem? (i := 66) (by decide +kernel), by decide +kernel, by decide +kernel, by decide +kernel⟩
set_option maxRecDepth 20000 in
theorem zk_m169 : zk_okM zk_r169 := ⟨zk_in6 (List.mem_of_getElem? (i := 23) rfl), by decide +kernel, by decide +kernel, List.mem_of_getElem? (i := 66) (by decide +kernel), by decide +kernel, by decide +kernel, by decide +kernel⟩
set_option maxRecDepth 20000 in
theorem zk_m170 : zk_okM zk_r170 := ⟨zk_in6 (List.mem_of_getElem? (i := 27) rfl), by decide +kernel, by decide +kernel, List.mem_of_getElem? (i := 66) (by decide +kernel), by decide +kernel, by decide +kernel, by decide +kernel⟩
set_option maxRecDepth 20000 in
theorem zk_m171 : zk_okM zk_r171 := ⟨zk_in6 (List.mem_of_getElem? (i := 31) rfl), by decide +kernel, by decide +kernel, List.mem_of_getElem? (i := 66) (by decide +kernel), by decide +kernel, by decide +kernel, by decide +kernel⟩
set_option maxRecDepth 20000 in
theorem zk_m172 : zk_okM zk_r172 := ⟨zk_in6 (List.mem_of_getElem? (i := 35) rfl), by decide +kernel, by decide +kernel, List.mem_of_getElem? (i := 66) (by decide +kernel), by decide +kernel, by decide +kernel, by decide +kernel⟩
set_option maxRecDepth 20000 in
theorem zk_m173 : zk_okM zk_r173 := ⟨zk_in6 (List.mem_of_getElem? (i := 39) rfl), by decide +kernel, by decide +kernel, List.mem_of_getElem? (i := 66) (by decide +kernel), by decide +kernel, by decide +kernel, by decide +kernel⟩
set_option maxRecDepth 20000 in
theorem zk_m174 : zk_okM zk_r174 := ⟨zk_in6 (List.mem_of_getElem? (i := 43) rfl), by decide +kernel, by decide +kernel, List.mem_of_getElem? (i := 66) (by decide +kernel), by decide +kernel, by decide +kernel, by decide +kernel⟩
set_option maxRecDepth 20000 in
theorem zk_m175 : zk_okM zk_r175 := ⟨zk_in6 (List.mem_of_getElem? (i := 47) rfl), by decide +kernel, by decide +kernel, List.mem_of_getElem? (i := 66) (by decide +kernel), by decide +kernel, by decide +kernel, by decide +kernel⟩
set_option maxRecDepth 20000 in
theorem zk_m176 : zk_okM zk_r176 := ⟨zk_in6 (List.mem_of_getElem? (i := 51) rfl), by decide +kernel, by decide +kernel, List.mem_of_getElem? (i := 66) (by decide +kernel), by decide +kernel, by decide +kernel, by decide +kernel⟩
set_option maxRecDepth 20000 in
theorem zk_m177 : zk_okM zk_r177 := ⟨zk_in6 (List.mem_of_getElem? (i := 55) rfl), by decide +kernel, by decide +kernel, List.mem_of_getElem? (i := 66) (by decide +kernel), by decide +kernel, by decide +kernel, by decide +kernel⟩
set_option maxRecDepth 20000 in
theorem zk_m178 : zk_okM zk_r178 := ⟨zk_in6 (List.mem_of_getElem? (i := 59) rfl), by decide +kernel, by decide +kernel, List.mem_of_getElem? (i := 66) (by decide +kernel), by decide +kernel, by decide +kernel, by decide +kernel⟩
set_option maxRecDepth 20000 in
theorem zk_m179 : zk_okM zk_r179 := ⟨zk_in6 (List.mem_of_getElem? (i := 63) rfl), by decide +kernel, by decide +kernel, List.mem_of_getElem? (i := 66) (by decide +kernel), by decide +kernel, by decide +kernel, by decide +kernel⟩
set_option maxRecDepth 20000 in
theorem zk_m180 : zk_okM zk_r180 := ⟨zk_in6 (List.mem_of_getElem? (i := 67) rfl), by decide +kernel, by decide +kernel, List.mem_of_getElem? (i := 66) (by decide +kernel), by decide +kernel, by decide +kernel, by decide +kernel⟩
set_option maxRecDepth 20000 in
theorem zk_m181 : zk_okM zk_r181 := ⟨zk_in6 (List.mem_of_getElem? (i := 71) rfl), by decide +kernel, by decide +kernel, List.mem_of_getElem? (i := 66) (by decide +kernel), by decide +kernel, by decide +kernel, by decide +kernel⟩
set_option maxRecDepth 20000 in
theorem zk_m182 : zk_okM zk_r182 := ⟨zk_in6 (List.mem_of_getElem? (i := 75) rfl), by decide +kernel, by decide +kernel, List.mem_of_getElem? (i := 66) (by decide +kernel), by decide +kernel, by decide +kernel, by decide +kernel⟩
set_option maxRecDepth 20000 in
theorem zk_m183 : zk_okM zk_r183 := ⟨zk_in6 (List.mem_of_getElem? (i := 79) rfl), by decide +kernel, by decide +kernel, List.mem_of_getElem? (i := 66) (by decide +kernel), by decide +kernel, by decide +kernel, by decide +kernel⟩
set_option maxRecDepth 20000 in
theorem zk_m184 : zk_okM zk_r184 := ⟨zk_in6 (List.mem_of_getElem? (i := 83) rfl), by decide +kernel, by decide +kernel, List.mem_of_getElem? (i := 66) (by decide +kernel), by decide +kernel, by decide +kernel, by decide +kernel⟩
set_option maxRecDepth 20000 in
theorem zk_m185 : zk_okM zk_r185 := ⟨zk_in6 (List.mem_of_getElem? (i := 87) rfl), by decide +kernel, by decide +kernel, List.mem_of_getElem? (i := 66) (by decide +kernel), by decide +kernel, by decide +kernel, by decide +kernel⟩
set_option maxRecDepth 20000 in
theorem zk_m186 : zk_okM zk_r186 := ⟨zk_in6 (List.mem_of_getElem? (i := 91) rfl), by decide +kernel, by decide +kernel, List.mem_of_getElem? (i := 66) (by decide +kernel), by decide +kernel, by decide +kernel, by decide +kernel⟩
set_option maxRecDepth 20000 in
theorem zk_m187 : zk_okM zk_r187 := ⟨zk_in6 (List.mem_of_getElem? (i := 95) rfl), by decide +kernel, by decide +kernel, List.mem_of_getElem? (i := 66) (by decide +kernel), by decide +kernel, by decide +kernel, by decide +kernel⟩
set_option maxRecDepth 20000 in
theorem zk_m188 : zk_okM zk_r188 := ⟨zk_in6 (List.mem_of_getElem? (i := 99) rfl), by decide +kernel, by decide +kernel, List.mem_of_getElem? (i := 66) (by decide +kernel), by decide +kernel, by decide +kernel, by decide +kernel⟩
set_option maxRecDepth 20000 in
theorem zk_m189 : zk_okM zk_r189 := ⟨zk_in6 (List.mem_of_getElem? (i := 103) rfl), by decide +kernel, by decide +kernel, List.mem_of_getElem? (i := 66) (by decide +kernel), by decide +kernel, by decide +kernel, by decide +kernel⟩
set_option maxRecDepth 20000 in
theorem zk_m190 : zk_okM zk_r190 := ⟨zk_in6 (List.mem_of_getElem? (i := 107) rfl), by decide +kernel, by decide +kernel, List.mem_of_getElem? (i := 66) (by decide +kernel), by decide +kernel, by decide +kernel, by decide +kernel⟩
set_option maxRecDepth 20000 in
theorem zk_m191 : zk_okM zk_r191 := ⟨zk_in6 (List.mem_of_getElem? (i := 111) rfl), by decide +kernel, by decide +kernel, List.mem_of_getElem? (i := 66) (by decide +kernel), by decide +kernel, by decide +kernel, by decide +kernel⟩
set_option maxRecDepth 20000 in
theorem zk_m192 : zk_okM zk_r192 := ⟨zk_in2 (List.mem_of_getElem? (i := 82) rfl), by decide +kernel, by decide +kernel, List.mem_of_getElem? (i := 72) (by decide +kernel), by decide +kernel, by decide +kernel, by decide +kernel⟩
set_option maxRecDepth 20000 in
theorem zk_m193 : zk_okM zk_r193 := ⟨zk_in2 (List.mem_of_getElem? (i := 124) rfl), by decide +kernel, by decide +kernel, List.mem_of_getElem? (i := 72) (by decide +kernel), by decide +kernel, by decide +kernel, by decide +kernel⟩
set_option maxRecDepth 20000 in
theorem zk_m194 : zk_okM zk_r194 := ⟨zk_in2 (List.mem_of_getElem? (i := 132) rfl), by decide +kernel, by decide +kernel, List.mem_of_getElem? (i := 72) (by decide +kernel), by decide +kernel, by decide +kernel, by decide +kernel⟩
set_option maxRecDepth 20000 in
theorem zk_m195 : zk_okM zk_r195 := ⟨zk_in2 (List.mem_of_getElem? (i := 135) rfl), by decide +kernel, by decide +kernel, List.mem_of_getElem? (i := 72) (by decide +kernel), by decide +kernel, by decide +kernel, by decide +kernel⟩
set_option maxRecDepth 20000 in
theorem zk_m196 : zk_okM zk_r196 := ⟨zk_in2 (List.mem_of_getElem? (i := 138) rfl), by decide +kernel, by decide +kernel, List.mem_of_getElem? (i := 72) (by decide +kernel), by decide +kernel, by decide +kernel, by decide +kernel⟩
set_option maxRecDepth 20000 in
theorem zk_m197 : zk_okM zk_r197 := ⟨zk_in1 (List.mem_of_getElem? (i := 216) rfl), by decide +kernel, by decide +kernel, List.mem_of_getElem? (i := 69) (by decide +kernel), by decide +kernel, by decide +kernel, by decide +kernel⟩
set_option maxRecDepth 20000 in
theorem zk_m198 : zk_okM zk_r198 := ⟨zk_in1 (List.mem_of_getElem? (i := 219) rfl), by decide +kernel, by decide +kernel, List.mem_of_getElem? (i := 69) (by decide +kernel), by decide +kernel, by decide +kernel, by decide +kernel⟩
set_option maxRecDepth 20000 in
theorem zk_m199 : zk_okM zk_r199 := ⟨zk_in2 (List.mem_of_getElem? (i := 85) rfl), by decide +kernel, by decide +kernel, List.mem_of_getElem? (i := 69) (by decide +kernel), by decide +kernel, by decide +kernel, by decide +kernel⟩
set_option maxRecDepth 20000 in
theorem zk_m200 : zk_okM zk_r200 := ⟨zk_in2 (List.mem_of_getElem? (i := 108) rfl), by decide +kernel, by decide +kernel, List.mem_of_getElem? (i := 69) (by decide +kernel), by decide +kernel, by decide +kernel, by decide +kernel⟩
set_option maxRecDepth 20000 in
theorem zk_m201 : zk_okM zk_r201 := ⟨zk_in2 (List.mem_of_getElem? (i := 129) rfl), by decide +kernel, by decide +kernel, List.mem_of_getElem? (i := 69) (by decide +kernel), by decide +kernel, by decide +kernel, by decide +kernel⟩
set_option maxRecDepth 20000 in
theorem zk_m202 : zk_okM zk_r202 := ⟨zk_in3 (List.mem_of_getElem? (i := 39) rfl), by decide +kernel, by decide +kernel, List.mem_of_getElem? (i := 76) (by decide +kernel), by decide +kernel, by decide +kernel, by decide +kernel⟩
set_option maxRecDepth 20000 in
theorem zk_m203 : zk_okM zk_r203 := ⟨zk_in2 (List.mem_of_getElem? (i := 235) rfl), by decide +kernel, by decide +kernel, List.mem_of_getElem? (i := 75) (by decide +kernel), by decide +kernel, by decide +kernel, by decide +kernel⟩
set_option maxRecDepth 20000 in
theorem zk_m204 : zk_okM zk_r204 := ⟨zk_in2 (List.mem_of_getElem? (i := 1) rfl), by decide +kernel, by decide +kernel, List.mem_of_getElem? (i := 70) (by decide +kernel), by decide +kernel, by decide +kernel, by decide +kernel⟩
theorem zk_mc0 : ∀ q ∈ [zk_r0, zk_r1, zk_r2, zk_r3, zk_r4, zk_r5, zk_r6, zk_r7, zk_r8, zk_r9, zk_r10, zk_r11, zk_r12, zk_r13, zk_r14, zk_r15, zk_r16, zk_r17, zk_r18, zk_r19], zk_okM q := List.forall_mem_cons.mpr ⟨zk_m0, List.forall_mem_cons.mpr ⟨zk_m1, List.forall_mem_cons.mpr ⟨zk_m2, List.forall_mem_cons.mpr ⟨zk_m3, List.forall_mem_cons.mpr ⟨zk_m4, List.forall_mem_cons.mpr ⟨zk_m5, List.forall_mem_cons.mpr ⟨zk_m6, List.forall_mem_cons.mpr ⟨zk_m7, List.forall_mem_cons.mpr ⟨zk_m8, List.forall_mem_cons.mpr ⟨zk_m9, List.forall_mem_cons.mpr ⟨zk_m10, List.forall_mem_cons.mpr ⟨zk_m11, List.forall_mem_cons.mpr ⟨zk_m12, List.forall_mem_cons.mpr ⟨zk_m13, List.forall_mem_cons.mpr ⟨zk_m14, List.forall_mem_cons.mpr ⟨zk_m15, List.forall_mem_cons.mpr ⟨zk_m16, List.forall_mem_cons.mpr ⟨zk_m17, List.forall_mem_cons.mpr ⟨zk_m18, List.forall_mem_cons.mpr ⟨zk_m19, fun _ h => absurd h List.not_mem_nil⟩⟩⟩⟩⟩⟩⟩⟩⟩⟩⟩⟩⟩⟩⟩⟩⟩⟩⟩⟩
theorem zk_mc1 : ∀ q ∈ [zk_r20, zk_r21, zk_r22, zk_r23, zk_r24, zk_r25, zk_r26, zk_r27, zk_r28, zk_r29, zk_r30, zk_r31, zk_r32, zk_r33, zk_r34, zk_r35, zk_r36, zk_r37, zk_r38, zk_r39], zk_okM q := List.forall_mem_cons.mpr ⟨zk_m20, List.forall_mem_cons.mpr ⟨zk_m21, List.forall_mem_cons.mpr ⟨zk_m22, List.forall_mem_cons.mpr ⟨zk_m23, List.forall_mem_cons.mpr ⟨zk_m24, List.forall_mem_cons.mpr ⟨zk_m25, List.forall_mem_cons.mpr ⟨zk_m26, List.forall_mem_cons.mpr ⟨zk_m27, List.forall_mem_cons.mpr ⟨zk_m28, List.forall_mem_cons.mpr ⟨zk_m29, List.forall_mem_cons.mpr ⟨zk_m30, List.forall_mem_cons.mpr ⟨zk_m31, List.forall_mem_cons.mpr ⟨zk_m32, List.forall_mem_cons.mpr ⟨zk_m33, List.forall_mem_cons.mpr ⟨zk_m34, List.forall_mem_cons.mpr ⟨zk_m35, List.forall_mem_cons.mpr ⟨zk_m36, List.forall_mem_cons.mpr ⟨zk_m37, List.forall_mem_cons.mpr ⟨zk_m38, List.forall_mem_cons.mpr ⟨zk_m39, fun _ h => absurd h List.not_mem_nil⟩⟩⟩⟩⟩⟩⟩⟩⟩⟩⟩⟩⟩⟩⟩⟩⟩⟩⟩⟩
theorem zk_mc2 : ∀ q ∈ [zk_r40, zk_r41, zk_r42, zk_r43, zk_r44, zk_r45, zk_r46, zk_r47, zk_r48, zk_r49, zk_r50, zk_r51, zk_r52, zk_r53, zk_r54, zk_r55, zk_r56, zk_r57, zk_r58, zk_r59], zk_okM q := List.forall_mem_cons.mpr ⟨zk_m40, List.forall_mem_cons.mpr ⟨zk_m41, List.forall_mem_cons.mpr ⟨zk_m42, List.forall_mem_cons.mpr ⟨zk_m43, List.forall_mem_cons.mpr ⟨zk_m44, List.forall_mem_cons.mpr ⟨zk_m45, List.forall_mem_cons.mpr ⟨zk_m46, List.forall_mem_cons.mpr ⟨zk_m47, List.forall_mem_cons.mpr ⟨zk_m48, List.forall_mem_cons.mpr ⟨zk_m49, List.forall_mem_cons.mpr ⟨zk_m50, List.forall_mem_cons.mpr ⟨zk_m51, List.forall_mem_cons.mpr ⟨zk_m52, List.forall_mem_cons.mpr ⟨zk_m53, List.forall_mem_cons.mpr ⟨zk_m54, List.forall_mem_cons.mpr ⟨zk_m55, List.forall_mem_cons.mpr ⟨zk_m56, List.forall_mem_cons.mpr ⟨zk_m57, List.forall_mem_cons.mpr ⟨zk_m58, List.forall_mem_cons.mpr ⟨zk_m59, fun _ h => absurd h List.not_mem_nil⟩⟩⟩⟩⟩⟩⟩⟩⟩⟩⟩⟩⟩⟩⟩⟩⟩⟩⟩⟩
theorem zk_mc3 : ∀ q ∈ [zk_r60, zk_r61, zk_r62, zk_r63, zk_r64, zk_r65, zk_r66, zk_r67, zk_r68, zk_r69, zk_r70, zk_r71, zk_r72, zk_r73, zk_r74, zk_r75, zk_r76, zk_r77, zk_r78, zk_r79], zk_okM q := List.forall_mem_cons.mpr ⟨zk_m60, List.forall_mem_cons.mpr ⟨zk_m61, List.forall_mem_cons.mpr ⟨zk_m62, List.forall_mem_cons.mpr ⟨zk_m63, List.forall_mem_cons.mpr ⟨zk_m64, List.forall_mem_cons.mpr ⟨zk_m65, List.forall_mem_cons.mpr ⟨zk_m66, List.forall_mem_cons.mpr ⟨zk_m67, List.forall_mem_cons.mpr ⟨zk_m68, List.forall_mem_cons.mpr ⟨zk_m69, List.forall_mem_cons.mpr ⟨zk_m70, List.forall_mem_cons.mpr ⟨zk_m71, List.forall_mem_cons.mpr ⟨zk_m72, List.forall_mem_cons.mpr ⟨zk_m73, List.forall_mem_cons.mpr ⟨zk_m74, List.forall_mem_cons.mpr ⟨zk_m75, List.forall_mem_cons.mpr ⟨zk_m76, List.forall_mem_cons.mpr ⟨zk_m77, List.forall_mem_cons.mpr ⟨zk_m78, List.forall_mem_cons.mpr ⟨zk_m79, fun _ h => absurd h List.not_mem_nil⟩⟩⟩⟩⟩⟩⟩⟩⟩⟩⟩⟩⟩⟩⟩⟩⟩⟩⟩⟩
theorem zk_mc4 : ∀ q ∈ [zk_r80, zk_r81, zk_r82, zk_r83, zk_r84, zk_r85, zk_r86, zk_r87, zk_r88, zk_r89, zk_r90, zk_r91, zk_r92, zk_r93, zk_r94, zk_r95, zk_r96, zk_r97, zk_r98, zk_r99], zk_okM q := List.forall_mem_cons.mpr ⟨zk_m80, List.forall_mem_cons.mpr ⟨zk_m81, List.forall_mem_cons.mpr ⟨zk_m82, List.forall_mem_cons.mpr ⟨zk_m83, List.forall_mem_cons.mpr ⟨zk_m84, List.forall_mem_cons.mpr ⟨zk_m85, List.forall_mem_cons.mpr ⟨zk_m86, List.forall_mem_cons.mpr ⟨zk_m87, List.forall_mem_cons.mpr ⟨zk_m88, List.forall_mem_cons.mpr ⟨zk_m89, List.forall_mem_cons.mpr ⟨zk_m90, List.forall_mem_cons.mpr ⟨zk_m91, List.forall_mem_cons.mpr ⟨zk_m92, List.forall_mem_cons.mpr ⟨zk_m93, List.forall_mem_cons.mpr ⟨zk_m94, List.forall_mem_cons.mpr ⟨zk_m95, List.forall_mem_cons.mpr ⟨zk_m96, List.forall_mem_cons.mpr ⟨zk_m97, List.forall_mem_cons.mpr ⟨zk_m98, List.forall_mem_cons.mpr ⟨zk_m99, fun _ h => absurd h List.not_mem_nil⟩⟩⟩⟩⟩⟩⟩⟩⟩⟩⟩⟩⟩⟩⟩⟩⟩⟩⟩⟩
theorem zk_mc5 : ∀ q ∈ [zk_r100, zk_r101, zk_r102, zk_r103, zk_r104, zk_r105, zk_r106, zk_r107, zk_r108, zk_r109, zk_r110, zk_r111, zk_r112, zk_r113, zk_r114, zk_r115, zk_r116, zk_r117, zk_r118, zk_r119], zk_okM q := List.forall_mem_cons.mpr ⟨zk_m100, List.forall_mem_cons.mpr ⟨zk_m101, List.forall_mem_cons.mpr ⟨zk_m102, List.forall_mem_cons.mpr ⟨zk_m103, List.forall_mem_cons.mpr ⟨zk_m104, List.forall_mem_cons.mpr ⟨zk_m105, List.forall_mem_cons.mpr ⟨zk_m106, List.forall_mem_cons.mpr ⟨zk_m107, List.forall_mem_cons.mpr ⟨zk_m108, List.forall_mem_cons.mpr ⟨zk_m109, List.forall_mem_cons.mpr ⟨zk_m110, List.forall_mem_cons.mpr ⟨zk_m111, List.forall_mem_cons.mpr ⟨zk_m112, List.forall_mem_cons.mpr ⟨zk_m113, List.forall_mem_cons.mpr ⟨zk_m114, List.forall_mem_cons.mpr ⟨zk_m115, List.forall_mem_cons.mpr ⟨zk_m116, List.forall_mem_cons.mpr ⟨zk_m117, List.forall_mem_cons.mpr ⟨zk_m118, List.forall_mem_cons.mpr ⟨zk_m119, fun _ h => absurd h List.not_mem_nil⟩⟩⟩⟩⟩⟩⟩⟩⟩⟩⟩⟩⟩⟩⟩⟩⟩⟩⟩⟩
theorem zk_mc6 : ∀ q ∈ [zk_r120, zk_r121, zk_r122, zk_r123, zk_r124, zk_r125, zk_r126, zk_r127, zk_r128, zk_r129, zk_r130, zk_r131, zk_r132, zk_r133, zk_r134, zk_r135, zk_r136, zk_r137, zk_r138, zk_r139], zk_okM q := List.forall_mem_cons.mpr ⟨zk_m120, List.forall_mem_cons.mpr ⟨zk_m121, List.forall_mem_cons.mpr ⟨zk_m122, List.forall_mem_cons.mpr ⟨zk_m123, List.forall_mem_cons.mpr ⟨zk_m124, List.forall_mem_cons.mpr ⟨zk_m125, List.forall_mem_cons.mpr ⟨zk_m126, List.forall_mem_cons.mpr ⟨zk_m127, List.forall_mem_cons.mpr ⟨zk_m128, List.forall_mem_cons.mpr ⟨zk_m129, List.forall_mem_cons.mpr ⟨zk_m130, List.forall_mem_cons.mpr ⟨zk_m131, List.forall_mem_cons.mpr ⟨zk_m132, List.forall_mem_cons.mpr ⟨zk_m133, List.forall_mem_cons.mpr ⟨zk_m134, List.forall_mem_cons.mpr ⟨zk_m135, List.forall_mem_cons.mpr ⟨zk_m136, List.forall_mem_cons.mpr ⟨zk_m137, List.forall_mem_cons.mpr ⟨zk_m138, List.forall_mem_cons.mpr ⟨zk_m139, fun _ h => absurd h List.not_mem_nil⟩⟩⟩⟩⟩⟩⟩⟩⟩⟩⟩⟩⟩⟩⟩⟩⟩⟩⟩⟩
theorem zk_mc7 : ∀ q ∈ [zk_r140, zk_r141, zk_r142, zk_r143, zk_r144, zk_r145, zk_r146, zk_r147, zk_r148, zk_r149, zk_r150, zk_r151, zk_r152, zk_r153, zk_r154, zk_r155, zk_r156, zk_r157, zk_r158, zk_r159], zk_okM q := List.forall_mem_cons.mpr ⟨zk_m140, List.forall_mem_cons.mpr ⟨zk_m141, List.forall_mem_cons.mpr ⟨zk_m142, List.forall_mem_cons.mpr ⟨zk_m143, List.forall_mem_cons.mpr ⟨zk_m144, List.forall_mem_cons.mpr ⟨zk_m145, List.forall_mem_cons.mpr ⟨zk_m146, List.forall_mem_cons.mpr ⟨zk_m147, List.forall_mem_cons.mpr ⟨zk_m148, List.forall_mem_cons.mpr ⟨zk_m149, List.forall_mem_cons.mpr ⟨zk_m150, List.forall_mem_cons.mpr ⟨zk_m151, List.forall_mem_cons.mpr ⟨zk_m152, List.forall_mem_cons.mpr ⟨zk_m153, List.forall_mem_cons.mpr ⟨zk_m154, List.forall_mem_cons.mpr ⟨zk_m155, List.forall_mem_cons.mpr ⟨zk_m156, List.forall_mem_cons.mpr ⟨zk_m157, List.forall_mem_cons.mpr ⟨zk_m158, List.forall_mem_cons.mpr ⟨zk_m159, fun _ h => absurd h List.not_mem_nil⟩⟩⟩⟩⟩⟩⟩⟩⟩⟩⟩⟩⟩⟩⟩⟩⟩⟩⟩⟩
theorem zk_mc8 : ∀ q ∈ [zk_r160, zk_r161, zk_r162, zk_r163, zk_r164, zk_r165, zk_r166, zk_r167, zk_r168, zk_r169, zk_r170, zk_r171, zk_r172, zk_r173, zk_r174, zk_r175, zk_r176, zk_r177, zk_r178, zk_r179], zk_okM q := List.forall_mem_cons.mpr ⟨zk_m160, List.forall_mem_cons.mpr ⟨zk_m161, List.forall_mem_cons.mpr ⟨zk_m162, List.forall_mem_cons.mpr ⟨zk_m163, List.forall_mem_cons.mpr ⟨zk_m164, List.forall_mem_cons.mpr ⟨zk_m165, List.forall_mem_cons.mpr ⟨zk_m166, List.forall_mem_cons.mpr ⟨zk_m167, List.forall_mem_cons.mpr ⟨zk_m168, List.forall_mem_cons.mpr ⟨zk_m169, List.forall_mem_cons.mpr ⟨zk_m170, List.forall_mem_cons.mpr ⟨zk_m171, List.forall_mem_cons.mpr ⟨zk_m172, List.forall_mem_cons.mpr ⟨zk_m173, List.forall_mem_cons.mpr ⟨zk_m174, List.forall_mem_cons.mpr ⟨zk_m175, List.forall_mem_cons.mpr ⟨zk_m176, List.forall_mem_cons.mpr ⟨zk_m177, List.forall_mem_cons.mpr ⟨zk_m178, List.forall_mem_cons.mpr ⟨zk_m179, fun _ h => absurd h List.not_mem_nil⟩⟩⟩⟩⟩⟩⟩⟩⟩⟩⟩⟩⟩⟩⟩⟩⟩⟩⟩⟩
theorem zk_mc9 : ∀ q ∈ [zk_r180, zk_r181, zk_r182, zk_r183, zk_r184, zk_r185, zk_r186, zk_r187, zk_r188, zk_r189, zk_r190, zk_r191, zk_r192, zk_r193, zk_r194, zk_r195, zk_r196, zk_r197, zk_r198, zk_r199], zk_okM q := List.forall_mem_cons.mpr ⟨zk_m180, List.forall_mem_cons.mpr ⟨zk_m181, List.forall_mem_cons.mpr ⟨zk_m182, List.forall_mem_cons.mpr ⟨zk_m183, List.forall_mem_cons.mpr ⟨zk_m184, List.forall_mem_cons.mpr ⟨zk_m185, List.forall_mem_cons.mpr ⟨zk_m186, List.forall_mem_cons.mpr ⟨zk_m187, List.forall_mem_cons.mpr ⟨zk_m188, List.forall_mem_cons.mpr ⟨zk_m189, List.forall_mem_cons.mpr ⟨zk_m190, List.forall_mem_cons.mpr ⟨zk_m191, List.forall_mem_cons.mpr ⟨zk_m192, List.forall_mem_cons.mpr ⟨zk_m193, List.forall_mem_cons.mpr ⟨zk_m194, List.forall_mem_cons.mpr ⟨zk_m195, List.forall_mem_cons.mpr ⟨zk_m196, List.forall_mem_cons.mpr ⟨zk_m197, List.forall_mem_cons.mpr ⟨zk_m198, List.forall_mem_cons.mpr ⟨zk_m199, fun _ h => absurd h List.not_mem_nil⟩⟩⟩⟩⟩⟩⟩⟩⟩⟩⟩⟩⟩⟩⟩⟩⟩⟩⟩⟩
theorem zk_mc10 : ∀ q ∈ [zk_r200, zk_r201, zk_r202, zk_r203, zk_r204], zk_okM q := List.forall_mem_cons.mpr ⟨zk_m200, List.forall_mem_cons.mpr ⟨zk_m201, List.forall_mem_cons.mpr ⟨zk_m202, List.forall_mem_cons.mpr ⟨zk_m203, List.forall_mem_cons.mpr ⟨zk_m204, fun _ h => absurd h List.not_mem_nil⟩⟩⟩⟩⟩
theorem zk_MT0_ok : ∀ q ∈ zk_MT0, zk_okM q := by
  intro q hq
  have h : q ∈ [zk_r0, zk_r1, zk_r2, zk_r3, zk_r4, zk_r5, zk_r6, zk_r7, zk_r8, zk_r9, zk_r10, zk_r11, zk_r12, zk_r13, zk_r14, zk_r15, zk_r16, zk_r17, zk_r18, zk_r19] ++ [zk_r20, zk_r21, zk_r22, zk_r23, zk_r24, zk_r25, zk_r26, zk_r27, zk_r28, zk_r29, zk_r30, zk_r31, zk_r32, zk_r33, zk_r34, zk_r35, zk_r36, zk_r37, zk_r38, zk_r39] ++ [zk_r40, zk_r41, zk_r42, zk_r43, zk_r44, zk_r45, zk_r46, zk_r47, zk_r48, zk_r49, zk_r50, zk_r51, zk_r52, zk_r53, zk_r54, zk_r55, zk_r56, zk_r57, zk_r58, zk_r59] ++ [zk_r60, zk_r61, zk_r62, zk_r63, zk_r64, zk_r65, zk_r66, zk_r67, zk_r68, zk_r69, zk_r70, zk_r71, zk_r72, zk_r73, zk_r74, zk_r75, zk_r76, zk_r77, zk_r78, zk_r79] ++ [zk_r80, zk_r81, zk_r82, zk_r83, zk_r84, zk_r85, zk_r86, zk_r87, zk_r88, zk_r89, zk_r90, zk_r91, zk_r92, zk_r93, zk_r94, zk_r95, zk_r96, zk_r97, zk_r98, zk_r99] ++ [zk_r100, zk_r101, zk_r102, zk_r103, zk_r104, zk_r105, zk_r106, zk_r107, zk_r108, zk_r109, zk_r110, zk_r111, zk_r112, zk_r113, zk_r114, zk_r115, zk_r116, zk_r117, zk_r118, zk_r119] ++ [zk_r120, zk_r121, zk_r122, zk_r123, zk_r124, zk_r125, zk_r126, zk_r127, zk_r128, zk_r129, zk_r130, zk_r131, zk_r132, zk_r133, zk_r134, zk_r135, zk_r136, zk_r137, zk_r138, zk_r139] ++ [zk_r140, zk_r141, zk_r142, zk_r143, zk_r144, zk_r145, zk_r146, zk_r147, zk_r148, zk_r149, zk_r150, zk_r151, zk_r152, zk_r153, zk_r154, zk_r155, zk_r156, zk_r157, zk_r158, zk_r159] ++ [zk_r160, zk_r161, zk_r162, zk_r163, zk_r164, zk_r165, zk_r166, zk_r167, zk_r168, zk_r169, zk_r170, zk_r171, zk_r172, zk_r173, zk_r174, zk_r175, zk_r176, zk_r177, zk_r178, zk_r179] ++ [zk_r180, zk_r181, zk_r182, zk_r183, zk_r184, zk_r185, zk_r186, zk_r187, zk_r188, zk_r189, zk_r190, zk_r191, zk_r192, zk_r193, zk_r194, zk_r195, zk_r196, zk_r197, zk_r198, zk_r199] ++ [zk_r200, zk_r201, zk_r202, zk_r203, zk_r204] := hq
  simp only [List.mem_append] at h
  rcases h with (((((((((h | h) | h) | h) | h) | h) | h) | h) | h) | h) | h
  · exact zk_mc0 q h
  · exact zk_mc1 q h
  · exact zk_mc2 q h
  · exact zk_mc3 q h
  · exact zk_mc4 q h
  · exact zk_mc5 q h
  · exact zk_mc6 q h
  · exact zk_mc7 q h
  · exact zk_mc8 q h
  · exact zk_mc9 q h
  · exact zk_mc10 q h
/-- (class, entry, nest mate, class of the field, its place, place of the word) -/
def zk_FL : List (Nat × Nat × Bool × Nat × Nat × Nat) := [(1, 7, false, 1, 0, 104), (8, 220, true, 1, 0, 105), (1, 13, false, 1, 1, 106), (8, 229, true, 1, 1, 107), (1, 16, false, 1, 2, 108), (8, 208, true, 1, 2, 109), (1, 19, false, 1, 3, 110), (8, 213, true, 1, 3, 111), (1, 22, false, 1, 4, 112), (6, 31, true, 1, 4, 113), (3, 58, true, 1, 4, 114), (8, 236, true, 1, 4, 115), (1, 25, false, 1, 5, 116), (6, 34, true, 1, 5, 117), (3, 47, true, 1, 5, 118), (8, 239, true, 1, 5, 119), (1, 28, false, 1, 6, 120), (6, 37, true, 1, 6, 121), (8, 242, true, 1, 6, 122), (1, 31, false, 1, 7, 123), (6, 38, true, 1, 7, 124), (8, 243, true, 1, 7, 125), (2, 11, false, 2, 0, 144), (2, 18, false, 2, 1, 145), (2, 22, false, 2, 2, 146), (2, 25, false, 2, 3, 147), (8, 226, true, 2, 3, 148), (2, 29, false, 2, 4, 149), (8, 288, true, 2, 4, 150), (6, 9, false, 6, 0, 174), (3, 52, true, 6, 0, 175), (8, 185, true, 6, 0, 176), (6, 19, false, 6, 1, 177), (3, 55, true, 6, 1, 178), (8, 263, true, 6, 1, 179), (6, 22, false, 6, 2, 180), (6, 25, false, 6, 3, 181), (8, 339, true, 6, 3, 182), (6, 28, false, 6, 4, 183), (8, 335, true, 6, 4, 184), (6, 16, false, 6, 5, 185), (8, 264, true, 6, 5, 186), (6, 39, false, 6, 6, 187), (8, 332, true, 6, 6, 188), (3, 12, false, 3, 0, 204), (8, 181, true, 3, 0, 205), (3, 22, false, 3, 1, 206), (8, 256, true, 3, 1, 207), (3, 37, false, 3, 2, 208), (8, 259, true, 3, 2, 209), (3, 18, false, 3, 3, 210), (8, 190, true, 3, 3, 211), (3, 40, false, 3, 4, 212), (8, 262, true, 3, 4, 213), (3, 25, false, 3, 5, 214), (8, 11, false, 8, 0, 228), (8, 17, false, 8, 1, 229), (8, 23, false, 8, 2, 230), (8, 27, false, 8, 3, 231), (8, 31, false, 8, 4, 232), (8, 37, false, 8, 5, 233), (8, 42, false, 8, 6, 234), (8, 103, false, 8, 7, 235), (8, 165, false, 8, 8, 236), (8, 291, false, 8, 9, 237), (4, 15, false, 4, 0, 280), (4, 24, false, 4, 1, 281), (7, 34, true, 4, 2, 282), (4, 28, false, 4, 2, 283), (0, 34, true, 4, 2, 284), (5, 59, true, 4, 2, 285), (8, 271, true, 4, 2, 286), (7, 14, false, 7, 0, 313), (7, 20, false, 7, 1, 314), (7, 23, false, 7, 2, 315), (5, 129, true, 7, 2, 316), (7, 26, false, 7, 3, 317), (5, 37, false, 5, 0, 454), (0, 49, true, 5, 0, 455), (8, 354, true, 5, 0, 456), (5, 9, false, 5, 1, 457), (5, 20, false, 5, 2, 458), (5, 24, false, 5, 3, 459), (5, 27, false, 5, 4, 460), (5, 30, false, 5, 5, 461), (5, 33, false, 5, 6, 462), (8, 133, true, 5, 6, 463), (0, 23, false, 0, 0, 486), (8, 118, true, 0, 0, 487), (0, 14, false, 0, 1, 488), (8, 267, true, 0, 1, 489), (0, 20, false, 0, 2, 490), (8, 276, true, 0, 2, 491), (0, 27, false, 0, 3, 492), (8, 136, true, 0, 3, 493), (0, 31, false, 0, 4, 494), (8, 139, true, 0, 4, 495), (8, 153, true, 0, 5, 496), (8, 145, true, 0, 6, 497), (8, 279, true, 0, 7, 498), (8, 282, true, 0, 8, 499), (9, 279, false, 9, 0, 887), (9, 153, false, 9, 1, 888), (9, 7, false, 9, 2, 889), (9, 13, false, 9, 3, 890), (9, 16, false, 9, 4, 891), (9, 19, false, 9, 5, 892), (9, 22, false, 9, 6, 893), (9, 207, false, 9, 7, 894), (9, 204, false, 9, 8, 895), (9, 201, false, 9, 9, 896), (9, 221, false, 9, 10, 897), (9, 25, false, 9, 11, 898), (9, 28, false, 9, 12, 899), (9, 32, false, 9, 13, 900), (9, 35, false, 9, 14, 901), (9, 38, false, 9, 15, 902), (9, 41, false, 9, 16, 903), (9, 44, false, 9, 17, 904), (9, 47, false, 9, 18, 905), (9, 50, false, 9, 19, 906), (9, 53, false, 9, 20, 907), (9, 56, false, 9, 21, 908), (9, 59, false, 9, 22, 909), (9, 62, false, 9, 23, 910), (9, 65, false, 9, 24, 911), (9, 68, false, 9, 25, 912), (9, 72, false, 9, 26, 913), (9, 75, false, 9, 27, 914), (9, 78, false, 9, 28, 915), (9, 81, false, 9, 29, 916), (9, 84, false, 9, 30, 917), (9, 87, false, 9, 31, 918), (9, 90, false, 9, 32, 919), (9, 93, false, 9, 33, 920), (9, 96, false, 9, 34, 921), (9, 99, false, 9, 35, 922), (9, 102, false, 9, 36, 923), (9, 105, false, 9, 37, 924), (9, 108, false, 9, 38, 925), (9, 111, false, 9, 39, 926), (9, 114, false, 9, 40, 927), (9, 117, false, 9, 41, 928), (9, 120, false, 9, 42, 929), (9, 123, false, 9, 43, 930), (9, 126, false, 9, 44, 931), (9, 129, false, 9, 45, 932), (9, 132, false, 9, 46, 933), (9, 135, false, 9, 47, 934), (9, 138, false, 9, 48, 935), (9, 141, false, 9, 49, 936), (9, 144, false, 9, 50, 937), (9, 285, false, 9, 51, 938), (9, 314, false, 9, 52, 939), (9, 282, false, 9, 53, 940), (9, 147, false, 9, 54, 941), (9, 150, false, 9, 55, 942)]
def zk_fw (q : Nat × Nat × Bool × Nat × Nat × Nat) : Cond := if q.2.2.1 then .fieldLinkNest (zk_cn q.1) q.2.1 (zk_T q.2.2.2.1 q.2.2.2.2.1).1 (zk_T q.2.2.2.1 q.2.2.2.2.1).2.1 (zk_T q.2.2.2.1 q.2.2.2.2.1).2.2.1 "TickKeeper" else .fieldLink (zk_cn q.1) q.2.1 (zk_T q.2.2.2.1 q.2.2.2.2.1).1 (zk_T q.2.2.2.1 q.2.2.2.2.1).2.1 (zk_T q.2.2.2.1 q.2.2.2.2.1).2.2.1
theorem zk_FL_ok : zk_FL.all (fun q => decide (lw_tbl[q.2.2.2.2.2]? = some (zk_fw q)) && decide (q.2.2.2.1 < 10) && decide (q.2.2.2.2.1 < zk_N q.2.2.2.1)) = true := by decide +kernel
/-- (class, entry, kind: 0 virtual, 1 static, 2 constructor, 3 a nest mate's constructor; the method; places of words) -/
def zk_ML : List (Nat × Nat × Nat × Nat × Nat × Nat × Nat) := [(11, 9, 2, 60, 79, 80, 0), (8, 36, 2, 8, 93, 94, 0), (2, 17, 3, 5, 100, 101, 0), (8, 41, 3, 12, 163, 164, 0), (3, 11, 3, 37, 169, 170, 0), (11, 13, 0, 61, 259, 260, 261), (8, 46, 2, 42, 264, 265, 0), (7, 11, 2, 17, 270, 271, 0), (4, 9, 1, 197, 274, 275, 0), (4, 21, 1, 198, 277, 278, 0), (7, 30, 0, 18, 295, 296, 297), (4, 31, 1, 204, 299, 300, 0), (15, 304, 1, 198, 309, 278, 0), (11, 18, 0, 62, 327, 328, 329), (8, 47, 0, 63, 331, 333, 0), (8, 51, 1, 64, 335, 336, 0), (8, 55, 0, 43, 339, 340, 341), (7, 38, 0, 44, 343, 344, 345), (7, 42, 0, 19, 347, 348, 349), (8, 59, 0, 45, 351, 352, 353), (8, 63, 0, 44, 355, 344, 345), (11, 23, 0, 65, 356, 357, 358), (8, 66, 0, 46, 360, 361, 362), (7, 69, 0, 20, 364, 365, 366), (8, 69, 0, 47, 368, 369, 370), (7, 80, 0, 48, 372, 374, 1), (7, 83, 0, 49, 376, 377, 378), (7, 72, 1, 192, 380, 381, 0), (10, 9, 1, 199, 383, 384, 0), (7, 77, 0, 46, 386, 361, 362), (11, 28, 0, 66, 388, 389, 390), (8, 73, 0, 50, 393, 394, 395), (11, 32, 0, 67, 397, 398, 399), (8, 77, 0, 51, 401, 402, 403), (7, 47, 0, 50, 405, 394, 395), (7, 57, 1, 200, 406, 407, 0), (7, 61, 0, 52, 409, 411, 2), (8, 80, 1, 68, 414, 415, 0), (11, 36, 0, 69, 418, 419, 420), (8, 83, 1, 193, 422, 423, 0), (10, 19, 1, 201, 427, 428, 0), (8, 88, 1, 194, 430, 431, 0), (8, 91, 1, 195, 433, 434, 0), (8, 94, 1, 196, 436, 437, 0), (8, 97, 1, 192, 439, 381, 0), (8, 100, 0, 49, 440, 377, 378), (11, 40, 0, 70, 441, 442, 443), (8, 108, 2, 22, 448, 449, 0), (5, 17, 2, 17, 453, 271, 0), (8, 111, 2, 0, 480, 481, 0), (0, 11, 2, 17, 485, 271, 0), (11, 47, 0, 71, 519, 520, 521), (8, 114, 0, 72, 523, 525, 3), (8, 122, 0, 23, 527, 528, 529), (5, 44, 1, 203, 533, 534, 0), (11, 52, 0, 73, 539, 540, 541), (8, 126, 0, 24, 543, 544, 545), (5, 50, 0, 18, 547, 296, 297), (5, 54, 0, 21, 548, 549, 550), (4, 37, 0, 18, 552, 296, 297), (11, 56, 0, 74, 553, 554, 555), (8, 130, 0, 25, 557, 558, 559), (11, 60, 0, 75, 561, 562, 563), (11, 64, 0, 76, 565, 566, 567), (11, 68, 0, 77, 569, 570, 571), (8, 142, 0, 78, 573, 575, 4), (8, 148, 1, 202, 577, 578, 0), (11, 72, 0, 79, 583, 584, 585), (11, 77, 0, 80, 587, 588, 589), (8, 158, 0, 26, 591, 592, 593), (5, 62, 0, 19, 596, 348, 349), (5, 65, 1, 198, 597, 278, 0), (5, 71, 0, 27, 598, 600, 5), (5, 75, 0, 53, 602, 603, 604), (7, 64, 1, 198, 606, 278, 0), (7, 67, 1, 197, 607, 275, 0), (5, 80, 0, 28, 608, 610, 6), (5, 92, 1, 201, 612, 428, 0), (5, 95, 0, 29, 613, 615, 7), (5, 104, 1, 30, 617, 618, 0), (5, 108, 1, 31, 620, 621, 0), (5, 98, 0, 32, 623, 625, 8), (5, 111, 1, 193, 627, 423, 0), (5, 116, 1, 196, 628, 437, 0), (5, 119, 0, 33, 629, 631, 9), (5, 135, 1, 199, 633, 384, 0), (5, 123, 0, 54, 636, 637, 638), (5, 101, 0, 34, 641, 643, 10), (5, 132, 0, 55, 645, 646, 647), (5, 83, 0, 51, 649, 402, 403), (5, 86, 0, 20, 650, 365, 366), (11, 81, 0, 81, 651, 652, 653), (11, 86, 0, 82, 655, 656, 657), (8, 162, 0, 83, 659, 661, 11), (8, 177, 0, 84, 663, 665, 12), (8, 174, 1, 85, 667, 668, 0), (8, 294, 1, 197, 670, 275, 0), (8, 168, 0, 1, 671, 672, 673), (0, 37, 0, 19, 675, 348, 349), (8, 171, 0, 35, 676, 677, 678), (11, 90, 0, 86, 680, 681, 682), (11, 94, 0, 87, 684, 685, 686), (8, 193, 0, 13, 688, 689, 690), (3, 28, 1, 197, 692, 275, 0), (3, 34, 1, 201, 693, 428, 0), (3, 43, 0, 38, 694, 695, 696), (8, 196, 0, 88, 698, 700, 13), (8, 232, 0, 9, 702, 703, 704), (2, 32, 0, 6, 706, 707, 708), (8, 246, 0, 7, 710, 711, 712), (11, 98, 0, 89, 714, 715, 716), (8, 200, 0, 10, 718, 719, 720), (2, 36, 0, 11, 722, 723, 724), (8, 204, 0, 90, 726, 728, 14), (8, 299, 0, 91, 730, 732, 15), (8, 253, 1, 92, 734, 735, 0), (8, 321, 0, 2, 737, 738, 739), (0, 41, 0, 1, 741, 672, 673), (0, 45, 0, 18, 742, 296, 297), (8, 303, 0, 93, 743, 745, 16), (8, 324, 0, 94, 747, 749, 17), (8, 307, 0, 39, 751, 752, 753), (8, 310, 0, 95, 755, 757, 18), (8, 328, 0, 14, 759, 760, 761), (8, 313, 0, 96, 763, 765, 19), (8, 336, 0, 40, 767, 768, 769), (8, 317, 0, 15, 771, 772, 773), (3, 59, 0, 40, 775, 768, 769), (8, 216, 0, 97, 776, 778, 20), (8, 340, 0, 3, 780, 781, 782), (8, 343, 0, 36, 784, 785, 786), (5, 89, 0, 26, 788, 592, 593), (8, 346, 0, 98, 789, 791, 21), (8, 358, 0, 56, 793, 794, 795), (7, 50, 1, 201, 797, 428, 0), (8, 361, 0, 4, 798, 799, 800), (0, 55, 0, 56, 802, 794, 795), (8, 364, 0, 57, 803, 804, 805), (8, 367, 0, 58, 807, 808, 809), (8, 370, 0, 59, 811, 812, 813), (8, 350, 0, 41, 815, 816, 817), (11, 102, 0, 99, 819, 820, 821), (11, 106, 0, 100, 823, 824, 825), (11, 110, 0, 101, 827, 828, 829), (8, 223, 0, 11, 831, 723, 724), (11, 114, 0, 102, 832, 833, 834), (11, 118, 0, 103, 836, 837, 838), (8, 250, 0, 16, 840, 841, 842), (11, 122, 0, 104, 844, 845, 846), (11, 126, 0, 105, 848, 849, 850), (11, 130, 0, 106, 852, 853, 854), (11, 134, 0, 107, 856, 857, 858), (11, 138, 0, 108, 860, 861, 862), (8, 274, 0, 19, 864, 348, 349), (11, 142, 0, 109, 865, 866, 867), (11, 146, 0, 110, 869, 870, 871), (11, 150, 0, 111, 873, 874, 875), (8, 285, 0, 112, 877, 879, 22), (11, 12, 2, 113, 883, 884, 0), (11, 17, 0, 114, 1056, 1057, 1058), (11, 22, 0, 115, 1060, 1061, 1062), (9, 161, 0, 116, 1064, 1066, 23), (9, 157, 1, 117, 1068, 1069, 0), (11, 27, 0, 118, 1072, 1073, 1074), (9, 166, 0, 119, 1076, 1078, 24), (11, 31, 0, 120, 1080, 1081, 1082), (9, 177, 0, 121, 1084, 1086, 25), (9, 170, 0, 122, 1088, 1090, 26), (9, 174, 0, 123, 1092, 1094, 27), (11, 35, 0, 124, 1097, 1098, 1099), (9, 188, 0, 125, 1102, 1104, 28), (9, 181, 1, 126, 1106, 1107, 0), (9, 184, 0, 127, 1109, 1111, 29), (11, 39, 0, 128, 1113, 1114, 1115), (9, 214, 0, 129, 1117, 1119, 30), (9, 210, 1, 130, 1125, 1126, 0), (9, 218, 0, 131, 1128, 1130, 31), (11, 44, 0, 132, 1132, 1133, 1134), (11, 51, 0, 133, 1136, 1137, 1138), (9, 224, 0, 134, 1140, 1142, 32), (9, 237, 1, 135, 1149, 1150, 0), (11, 55, 0, 136, 1152, 1153, 1154), (11, 59, 0, 137, 1156, 1157, 1158), (11, 63, 0, 138, 1160, 1161, 1162), (11, 67, 0, 139, 1164, 1165, 1166), (11, 71, 0, 140, 1168, 1169, 1170), (9, 241, 0, 141, 1172, 1174, 33), (11, 76, 0, 142, 1176, 1177, 1178), (11, 80, 0, 143, 1180, 1181, 1182), (9, 276, 0, 144, 1184, 1186, 34), (9, 269, 0, 145, 1188, 1190, 35), (9, 250, 0, 146, 1192, 1194, 36), (9, 253, 0, 147, 1196, 1198, 37), (9, 191, 1, 148, 1200, 1201, 0), (9, 256, 1, 149, 1203, 1204, 0), (9, 259, 0, 150, 1206, 1208, 38), (9, 247, 0, 151, 1210, 1212, 39), (9, 244, 1, 152, 1214, 1215, 0), (9, 194, 1, 153, 1217, 1218, 0), (9, 262, 0, 154, 1220, 1222, 40), (9, 266, 0, 155, 1224, 1226, 41), (11, 85, 0, 156, 1228, 1229, 1230), (11, 89, 0, 157, 1232, 1233, 1234), (11, 93, 0, 158, 1236, 1237, 1238), (11, 97, 0, 159, 1240, 1241, 1242), (9, 292, 0, 160, 1244, 1246, 42), (9, 288, 0, 161, 1248, 1250, 43), (11, 101, 0, 162, 1252, 1253, 1254), (9, 336, 0, 163, 1256, 1258, 44), (9, 339, 0, 164, 1260, 1262, 45), (9, 342, 0, 165, 1264, 1266, 46), (9, 317, 0, 166, 1268, 1270, 47), (9, 320, 0, 167, 1272, 1274, 48), (9, 324, 0, 168, 1276, 1278, 49), (9, 308, 0, 169, 1280, 1282, 50), (9, 299, 0, 170, 1284, 1286, 51), (9, 296, 0, 171, 1288, 1290, 52), (9, 273, 0, 172, 1292, 1294, 53), (9, 302, 0, 173, 1296, 1298, 54), (9, 305, 0, 174, 1300, 1302, 55), (9, 327, 0, 175, 1304, 1306, 56), (9, 330, 0, 176, 1308, 1310, 57), (9, 311, 0, 177, 1312, 1314, 58), (9, 333, 0, 178, 1316, 1318, 59), (11, 105, 0, 179, 1320, 1321, 1322), (11, 109, 0, 180, 1324, 1325, 1326), (11, 113, 0, 181, 1328, 1329, 1330), (11, 117, 0, 182, 1332, 1333, 1334), (11, 121, 0, 183, 1336, 1337, 1338), (11, 125, 0, 184, 1340, 1341, 1342), (11, 129, 0, 185, 1344, 1345, 1346), (11, 133, 0, 186, 1348, 1349, 1350), (11, 137, 0, 187, 1352, 1353, 1354), (11, 141, 0, 188, 1356, 1357, 1358), (11, 145, 0, 189, 1360, 1361, 1362), (11, 149, 0, 190, 1364, 1365, 1366), (11, 153, 0, 191, 1368, 1369, 1370)]
def zk_mw (q : Nat × Nat × Nat × Nat × Nat × Nat × Nat) : Bool := match zk_MT0[q.2.2.2.1]? with
  | none => false
  | some r => match q.2.2.1 with
    | 0 => decide (lw_tbl[q.2.2.2.2.1]? = some (.methodLink (zk_cn q.1) q.2.1 r.1)) && decide (lw_tbl[q.2.2.2.2.2.1]? = some (.instanceMethod r.1)) && decide (lw_tbl[q.2.2.2.2.2.2]? = some (.selects r.1.cls r.1 r.1)) && decide (r.2.2.2.2.1 < 10)
    | 1 => decide (lw_tbl[q.2.2.2.2.1]? = some (.methodLink (zk_cn q.1) q.2.1 r.1)) && decide (lw_tbl[q.2.2.2.2.2.1]? = some (.static r.1))
    | 2 => decide (lw_tbl[q.2.2.2.2.1]? = some (.methodLink (zk_cn q.1) q.2.1 r.1)) && decide (lw_tbl[q.2.2.2.2.2.1]? = some (.instanceMethod r.1)) && decide (r.1.name = "<init>") && decide (r.2.2.2.1 = none)
    | _ => decide (lw_tbl[q.2.2.2.2.1]? = some (.methodLinkNest (zk_cn q.1) q.2.1 r.1 "TickKeeper")) && decide (lw_tbl[q.2.2.2.2.2.1]? = some (.instanceMethod r.1)) && decide (r.1.name = "<init>") && decide (r.2.2.2.1 = none)
theorem zk_ML_ok : zk_ML.all zk_mw = true := by decide +kernel
def zk_OL : List (Nat × Nat × Nat) := [(8, 1, 82), (2, 3, 96), (1, 1, 103), (3, 3, 166), (6, 3, 172), (7, 3, 267), (4, 3, 273), (5, 3, 451), (0, 3, 483), (9, 1, 886)]
theorem zk_OL_ok : zk_OL.all (fun q => decide (lw_tbl[q.2.2]? = some (.methodLink (zk_cn q.1) q.2.1 Lib.objectInit))) = true := by decide +kernel
def zk_KI : List (Nat × Nat × Int32 × Nat) := [(6, 15, 2147483647, 173), (8, 157, 21038399, 338), (7, 56, 2147483647, 387), (8, 72, (-1000000), 392), (7, 46, 21038399, 413), (8, 161, 2147483647, 417), (13, 265, 1431655765, 580), (13, 266, 858993459, 581), (13, 267, 252645135, 582), (5, 58, 2147483647, 595), (9, 165, 21038399, 1071), (9, 180, (-1000000), 1096), (9, 187, 21040399, 1101), (9, 197, 730425, 1121), (9, 198, 146097, 1122), (9, 199, 36524, 1123), (9, 200, 146096, 1124)]
theorem zk_KI_ok : zk_KI.all (fun q => decide (lw_tbl[q.2.2.2]? = some (.constant (zk_cn q.1) q.2.1 q.2.2.1))) = true := by decide +kernel
def zk_KL : List (Nat × Nat × Int64 × Nat) := [(14, 314, 6148914691236517205, 536), (14, 316, 3689348814741910323, 537), (14, 318, 1085102592571150095, 538), (5, 138, 541098242, 634), (5, 140, 2, 635), (5, 127, (-1), 640), (9, 227, 1152921504606846975, 1144), (9, 229, 16777215, 1145), (9, 231, 4294967294, 1146), (9, 233, 8190, 1147), (9, 235, 127, 1148), (11, 45, 4294967295, 1372)]
theorem zk_KL_ok : zk_KL.all (fun q => decide (lw_tbl[q.2.2.2]? = some (.constantLong (zk_cn q.1) q.2.1 q.2.2.1))) = true := by decide +kernel
def zk_KC : List (Nat × Nat × Nat × Nat) := [(11, 7, 8, 77), (8, 9, 7, 85), (8, 15, 0, 87), (8, 21, 3, 89), (8, 34, 2, 91), (2, 9, 1, 97), (3, 9, 6, 167), (7, 9, 4, 268), (8, 106, 5, 446), (5, 15, 4, 452), (0, 9, 4, 484), (11, 10, 9, 881)]
theorem zk_KC_ok : zk_KC.all (fun q => decide (lw_tbl[q.2.2.2]? = some (.classLink (zk_cn q.1) q.2.1 (zk_cn q.2.2.1))) && decide (q.2.2.1 < 10)) = true := by decide +kernel
theorem zk_ws_ok : (List.range 10).all (fun ci => (u_ws (zk_cn ci) (zk_T ci) (zk_N ci)).all (fun w => decide (w ∈ lw_tbl)) && decide (Cond.instantiable (zk_cn ci) (zk_N ci) ∈ lw_tbl) && decide (Cond.initialized (zk_cn ci) ∈ lw_tbl)) = true := by decide +kernel
theorem zk_ty_ok : (List.range 10).all (fun ci => (List.range (zk_N ci)).all (fun k => decide (parseFieldDescriptor (zk_T ci k).2.2.1 = some (zk_ty ci k)) && decide ((zk_T ci k).1 = zk_cn ci))) = true := by decide +kernel
theorem zk_nm_ok : (List.range 10).all (fun ci => (List.range (zk_N ci)).all (fun a => (List.range (zk_N ci)).all (fun b => decide (a = b) || decide ((zk_T ci a).2.1 ≠ (zk_T ci b).2.1)))) = true := by decide +kernel
