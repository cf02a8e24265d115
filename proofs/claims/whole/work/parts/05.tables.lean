/-! THE TABLES of the evaluator: classes, methods, what the pools say (printed by wip/whole/gen_parts.py out of the Statement) -/
def zt_cns : List String := ["ZoneDeskLaw", "ZoneDeskModel", "ZoneDesk", "ZoneDesk$Calendar", "ZoneDesk$Clock", "ZoneDesk$DateText", "ZoneDesk$Day", "ZoneDesk$Era", "ZoneDesk$Held", "ZoneDesk$Image", "ZoneDesk$Line", "ZoneDesk$Rule", "ZoneDesk$RuleSet", "ZoneDesk$Word", "java/lang/StringBuilder", "java/lang/AbstractStringBuilder", "java/lang/String", "java/lang/StringLatin1", "java/lang/Math", "java/util/Arrays", "jdk/internal/util/ArraysSupport", "jdk/internal/util/Preconditions"]
def zt_cn (o : Nat) : String := zt_cns.getD o ""
def zt_F0 : u_T := fun k => match k with
  | 0 => ("ZoneDesk", "draft", "Ljava/lang/StringBuilder;", true)
  | 1 => ("ZoneDesk", "sets", "[LZoneDesk$RuleSet;", true)
  | 2 => ("ZoneDesk", "eraRow", "[LZoneDesk$Era;", true)
  | 3 => ("ZoneDesk", "eraCount", "I", false)
  | 4 => ("ZoneDesk", "held", "LZoneDesk$Held;", true)
  | 5 => ("ZoneDesk", "compiled", "LZoneDesk$Image;", true)
  | 6 => ("ZoneDesk", "found", "[J", true)
  | _ => ("ZoneDesk", "foundCount", "I", false)
def zt_T0 : List FieldType := [.object "java/lang/StringBuilder", .array (.object "ZoneDesk$RuleSet"), .array (.object "ZoneDesk$Era"), .int, .object "ZoneDesk$Held", .object "ZoneDesk$Image", .array .long, .int]
def zt_F1 : u_T := fun k => match k with
  | 0 => ("java/lang/AbstractStringBuilder", "value", "[B", false)
  | 1 => ("java/lang/AbstractStringBuilder", "coder", "B", false)
  | 2 => ("java/lang/AbstractStringBuilder", "maybeLatin1", "Z", false)
  | _ => ("java/lang/AbstractStringBuilder", "count", "I", false)
def zt_T1 : List FieldType := [.array .byte, .byte, .boolean, .int]
def zt_F2 : u_T := fun k => match k with
  | 0 => ("java/lang/String", "value", "[B", true)
  | 1 => ("java/lang/String", "coder", "B", true)
  | 2 => ("java/lang/String", "hash", "I", false)
  | _ => ("java/lang/String", "hashIsZero", "Z", false)
def zt_T2 : List FieldType := [.array .byte, .byte, .int, .boolean]
def zt_F3 : u_T := fun k => match k with
  | 0 => ("ZoneDesk$Held", "row", "[B", true)
  | _ => ("ZoneDesk$Held", "end", "I", false)
def zt_T3 : List FieldType := [.array .byte, .int]
def zt_F4 : u_T := fun k => match k with
  | 0 => ("ZoneDesk$Image", "row", "[B", true)
  | 1 => ("ZoneDesk$Image", "length", "I", false)
  | 2 => ("ZoneDesk$Image", "changeCount", "I", false)
  | 3 => ("ZoneDesk$Image", "steps", "I", false)
  | 4 => ("ZoneDesk$Image", "changeTypes", "[B", true)
  | 5 => ("ZoneDesk$Image", "types", "[B", true)
  | 6 => ("ZoneDesk$Image", "typeCount", "I", false)
  | _ => ("ZoneDesk$Image", "lastType", "I", false)
def zt_T4 : List FieldType := [.array .byte, .int, .int, .int, .array .byte, .array .byte, .int, .int]
def zt_F5 : u_T := fun k => match k with
  | 0 => ("ZoneDesk$RuleSet", "ruleRow", "[LZoneDesk$Rule;", true)
  | 1 => ("ZoneDesk$RuleSet", "ruleCount", "I", false)
  | 2 => ("ZoneDesk$RuleSet", "firings", "[J", true)
  | _ => ("ZoneDesk$RuleSet", "firingCount", "I", false)
def zt_T5 : List FieldType := [.array (.object "ZoneDesk$Rule"), .int, .array .long, .int]
def zt_F6 : u_T := fun k => match k with
  | 0 => ("ZoneDesk$Line", "text", "Ljava/lang/String;", true)
  | 1 => ("ZoneDesk$Line", "starts", "[I", true)
  | 2 => ("ZoneDesk$Line", "ends", "[I", true)
  | _ => ("ZoneDesk$Line", "count", "I", true)
def zt_T6 : List FieldType := [.object "java/lang/String", .array .int, .array .int, .int]
def zt_F7 : u_T := fun k => match k with
  | 0 => ("ZoneDesk$Day", "form", "I", true)
  | 1 => ("ZoneDesk$Day", "weekday", "I", true)
  | _ => ("ZoneDesk$Day", "number", "I", true)
def zt_T7 : List FieldType := [.int, .int, .int]
def zt_F8 : u_T := fun k => match k with
  | 0 => ("ZoneDesk$Clock", "seconds", "I", true)
  | _ => ("ZoneDesk$Clock", "base", "I", true)
def zt_T8 : List FieldType := [.int, .int]
def zt_F9 : u_T := fun k => match k with
  | 0 => ("ZoneDesk$Rule", "set", "I", true)
  | 1 => ("ZoneDesk$Rule", "from", "I", true)
  | 2 => ("ZoneDesk$Rule", "to", "I", true)
  | 3 => ("ZoneDesk$Rule", "month", "I", true)
  | 4 => ("ZoneDesk$Rule", "day", "LZoneDesk$Day;", true)
  | 5 => ("ZoneDesk$Rule", "clock", "LZoneDesk$Clock;", true)
  | 6 => ("ZoneDesk$Rule", "save", "I", true)
  | _ => ("ZoneDesk$Rule", "letters", "Ljava/lang/String;", true)
def zt_T9 : List FieldType := [.int, .int, .int, .int, .object "ZoneDesk$Day", .object "ZoneDesk$Clock", .int, .object "java/lang/String"]
def zt_F10 : u_T := fun k => match k with
  | 0 => ("ZoneDesk$Era", "off", "I", true)
  | 1 => ("ZoneDesk$Era", "set", "I", true)
  | 2 => ("ZoneDesk$Era", "ownSave", "I", true)
  | 3 => ("ZoneDesk$Era", "format", "Ljava/lang/String;", true)
  | 4 => ("ZoneDesk$Era", "hasUntil", "Z", true)
  | 5 => ("ZoneDesk$Era", "until", "J", true)
  | _ => ("ZoneDesk$Era", "untilClock", "LZoneDesk$Clock;", true)
def zt_T10 : List FieldType := [.int, .int, .int, .object "java/lang/String", .boolean, .long, .object "ZoneDesk$Clock"]
def zt_F11 : u_T := fun k => match k with
  | 0 => ("ZoneDeskModel", "months", "[C", true)
  | 1 => ("ZoneDeskModel", "weekdays", "[C", true)
  | 2 => ("ZoneDeskModel", "monthAt", "[I", true)
  | 3 => ("ZoneDeskModel", "weekdayAt", "[I", true)
  | 4 => ("ZoneDeskModel", "fault", "I", false)
  | 5 => ("ZoneDeskModel", "draft", "[C", true)
  | 6 => ("ZoneDeskModel", "drafted", "I", false)
  | 7 => ("ZoneDeskModel", "words", "I", false)
  | 8 => ("ZoneDeskModel", "begin", "[I", true)
  | 9 => ("ZoneDeskModel", "end", "[I", true)
  | 10 => ("ZoneDeskModel", "value", "I", false)
  | 11 => ("ZoneDeskModel", "clockKind", "I", false)
  | 12 => ("ZoneDeskModel", "dayKind", "I", false)
  | 13 => ("ZoneDeskModel", "dayNumber", "I", false)
  | 14 => ("ZoneDeskModel", "dayName", "I", false)
  | 15 => ("ZoneDeskModel", "colon", "Z", false)
  | 16 => ("ZoneDeskModel", "rules", "[I", true)
  | 17 => ("ZoneDeskModel", "yearFrom", "[I", true)
  | 18 => ("ZoneDeskModel", "yearTo", "[I", true)
  | 19 => ("ZoneDeskModel", "month", "[I", true)
  | 20 => ("ZoneDeskModel", "dayHow", "[I", true)
  | 21 => ("ZoneDeskModel", "dayOf", "[I", true)
  | 22 => ("ZoneDeskModel", "dayWhich", "[I", true)
  | 23 => ("ZoneDeskModel", "clock", "[I", true)
  | 24 => ("ZoneDeskModel", "clockHow", "[I", true)
  | 25 => ("ZoneDeskModel", "save", "[I", true)
  | 26 => ("ZoneDeskModel", "lettered", "[I", true)
  | 27 => ("ZoneDeskModel", "letters", "[C", true)
  | 28 => ("ZoneDeskModel", "eras", "I", false)
  | 29 => ("ZoneDeskModel", "off", "[I", true)
  | 30 => ("ZoneDeskModel", "setOf", "[I", true)
  | 31 => ("ZoneDeskModel", "fixed", "[I", true)
  | 32 => ("ZoneDeskModel", "formatted", "[I", true)
  | 33 => ("ZoneDeskModel", "untilHow", "[I", true)
  | 34 => ("ZoneDeskModel", "format", "[C", true)
  | 35 => ("ZoneDeskModel", "hasUntil", "[Z", true)
  | 36 => ("ZoneDeskModel", "until", "[J", true)
  | 37 => ("ZoneDeskModel", "firings", "[I", true)
  | 38 => ("ZoneDeskModel", "nominal", "[J", true)
  | 39 => ("ZoneDeskModel", "fired", "[I", true)
  | 40 => ("ZoneDeskModel", "era", "I", false)
  | 41 => ("ZoneDeskModel", "saved", "I", false)
  | 42 => ("ZoneDeskModel", "offset", "I", false)
  | 43 => ("ZoneDeskModel", "named", "I", false)
  | 44 => ("ZoneDeskModel", "name", "[C", true)
  | 45 => ("ZoneDeskModel", "size", "I", false)
  | 46 => ("ZoneDeskModel", "changes", "I", false)
  | 47 => ("ZoneDeskModel", "types", "I", false)
  | 48 => ("ZoneDeskModel", "image", "[I", true)
  | 49 => ("ZoneDeskModel", "typeOf", "[I", true)
  | 50 => ("ZoneDeskModel", "typeOffset", "[I", true)
  | 51 => ("ZoneDeskModel", "typeNamed", "[I", true)
  | 52 => ("ZoneDeskModel", "typeSaves", "[Z", true)
  | 53 => ("ZoneDeskModel", "typeName", "[C", true)
  | 54 => ("ZoneDeskModel", "change", "[J", true)
  | 55 => ("ZoneDeskModel", "maybe", "[J", true)
  | 56 => ("ZoneDeskModel", "steps", "I", false)
  | 57 => ("ZoneDeskModel", "found", "[J", true)
  | 58 => ("ZoneDeskModel", "year", "I", false)
  | 59 => ("ZoneDeskModel", "monthNow", "I", false)
  | _ => ("ZoneDeskModel", "dayNow", "I", false)
def zt_T11 : List FieldType := [.array .char, .array .char, .array .int, .array .int, .int, .array .char, .int, .int, .array .int, .array .int, .int, .int, .int, .int, .int, .boolean, .array .int, .array .int, .array .int, .array .int, .array .int, .array .int, .array .int, .array .int, .array .int, .array .int, .array .int, .array .char, .int, .array .int, .array .int, .array .int, .array .int, .array .int, .array .char, .array .boolean, .array .long, .array .int, .array .long, .array .int, .int, .int, .int, .int, .array .char, .int, .int, .int, .array .int, .array .int, .array .int, .array .int, .array .boolean, .array .char, .array .long, .array .long, .int, .array .long, .int, .int, .int]
def zt_F12 : u_T := fun k => match k with
  | _ => ("", "", "", false)
def zt_T12 : List FieldType := []
def zt_F13 : u_T := fun k => match k with
  | _ => ("", "", "", false)
def zt_T13 : List FieldType := []
def zt_F14 : u_T := fun k => match k with
  | _ => ("", "", "", false)
def zt_T14 : List FieldType := []
/-- the classes whose objects the heap holds -/
def zt_cl : List vw_C := [("ZoneDesk", zt_F0, 8), ("java/lang/StringBuilder", zt_F1, 4), ("java/lang/String", zt_F2, 4), ("ZoneDesk$Held", zt_F3, 2), ("ZoneDesk$Image", zt_F4, 8), ("ZoneDesk$RuleSet", zt_F5, 4), ("ZoneDesk$Line", zt_F6, 4), ("ZoneDesk$Day", zt_F7, 3), ("ZoneDesk$Clock", zt_F8, 2), ("ZoneDesk$Rule", zt_F9, 8), ("ZoneDesk$Era", zt_F10, 7), ("ZoneDeskModel", zt_F11, 61), ("java/lang/IllegalStateException", zt_F12, 0), ("java/lang/IllegalArgumentException", zt_F13, 0), ("java/util/NoSuchElementException", zt_F14, 0)]
/-- (name, code, locals, result, class, rank, arguments, the place of its word) -/
def zt_ms0 : List (MethodName × ByteArray × Nat × Option FieldType × Nat × Nat × Nat × Nat) := [
  (⟨"ZoneDesk", "addEra", "(LZoneDesk$Era;)Z"⟩, prog_1_method_19_code, 2, (some FieldType.boolean), 2, 0, 2, 1178),
  (⟨"ZoneDesk", "bytes", "()I"⟩, prog_1_method_11_code, 1, (some FieldType.int), 2, 0, 1, 556),
  (⟨"ZoneDesk", "eras", "()I"⟩, prog_1_method_5_code, 1, (some FieldType.int), 2, 0, 1, 349),
  (⟨"ZoneDesk", "image", "(I)I"⟩, prog_1_method_12_code, 2, (some FieldType.int), 2, 0, 2, 560),
  (⟨"ZoneDesk", "keepInOrder", "(J)V"⟩, prog_1_method_26_code, 6, (none : Option FieldType), 2, 0, 2, 552),
  (⟨"ZoneDesk", "rules", "(I)I"⟩, prog_1_method_4_code, 2, (some FieldType.int), 2, 0, 2, 345),
  (⟨"ZoneDesk$Calendar", "monthLength", "(II)I"⟩, prog_2_method_3_code, 3, (some FieldType.int), 3, 0, 2, 1065),
  (⟨"ZoneDesk$Clock", "<init>", "(II)V"⟩, prog_3_method_1_code, 3, (none : Option FieldType), 4, 0, 3, 978),
  (⟨"ZoneDesk$Clock", "baseOf", "(C)I"⟩, prog_3_method_3_code, 1, (some FieldType.int), 4, 0, 1, 960),
  (⟨"ZoneDesk$Clock", "toInstant", "(JII)J"⟩, prog_3_method_4_code, 5, (some FieldType.long), 4, 0, 4, 378),
  (⟨"ZoneDesk$DateText", "fits", "(CC)Z"⟩, prog_4_method_5_code, 2, (some FieldType.boolean), 5, 0, 2, 1290),
  (⟨"ZoneDesk$DateText", "secondsOfNumber", "(I)I"⟩, prog_4_method_8_code, 4, (some FieldType.int), 5, 0, 1, 1303),
  (⟨"ZoneDesk$Day", "<init>", "(III)V"⟩, prog_5_method_1_code, 4, (none : Option FieldType), 6, 0, 4, 935),
  (⟨"ZoneDesk$Era", "saveUnder", "(LZoneDesk$Rule;)I"⟩, prog_6_method_6_code, 2, (some FieldType.int), 7, 0, 2, 402),
  (⟨"ZoneDesk$Held", "<init>", "()V"⟩, prog_7_method_1_code, 1, (none : Option FieldType), 8, 0, 1, 142),
  (⟨"ZoneDesk$Held", "addCharacter", "(C)V"⟩, prog_7_method_8_code, 2, (none : Option FieldType), 8, 0, 2, 505),
  (⟨"ZoneDesk$Held", "nameCharacter", "(I)I"⟩, prog_7_method_3_code, 2, (some FieldType.int), 8, 0, 2, 529),
  (⟨"ZoneDesk$Image", "<init>", "()V"⟩, prog_8_method_1_code, 1, (none : Option FieldType), 9, 0, 1, 156),
  (⟨"ZoneDesk$Image", "begin", "()V"⟩, prog_8_method_4_code, 1, (none : Option FieldType), 9, 0, 1, 1220),
  (⟨"ZoneDesk$Image", "changeTypesAt", "()I"⟩, prog_8_method_9_code, 1, (some FieldType.int), 9, 0, 1, 1249),
  (⟨"ZoneDesk$Image", "intAt", "(I)I"⟩, prog_8_method_3_code, 2, (some FieldType.int), 9, 0, 2, 1268),
  (⟨"ZoneDesk$Image", "isType", "(ILZoneDesk$Held;)Z"⟩, prog_8_method_7_code, 4, (some FieldType.boolean), 9, 0, 3, 1238),
  (⟨"ZoneDesk$Image", "putInt", "([BII)V"⟩, prog_8_method_2_code, 3, (none : Option FieldType), 9, 0, 3, 410),
  (⟨"ZoneDesk$RuleSet", "<init>", "()V"⟩, prog_11_method_1_code, 1, (none : Option FieldType), 12, 0, 1, 190),
  (⟨"ZoneDesk$RuleSet", "countUpTo", "(JJ)I"⟩, prog_11_method_8_code, 8, (some FieldType.int), 12, 0, 3, 369),
  (⟨"ZoneDesk$RuleSet", "empty", "()V"⟩, prog_11_method_2_code, 1, (none : Option FieldType), 12, 0, 1, 617),
  (⟨"ZoneDesk$RuleSet", "ruleOf", "(I)LZoneDesk$Rule;"⟩, prog_11_method_6_code, 3, (some (FieldType.object "ZoneDesk$Rule")), 12, 0, 2, 373),
  (⟨"ZoneDeskModel", "<init>", "()V"⟩, prog_14_method_1_code, 1, (none : Option FieldType), 1, 0, 1, 1310),
  (⟨"ZoneDeskModel", "add", "(I)V"⟩, prog_14_method_49_code, 2, (none : Option FieldType), 1, 0, 2, 1696),
  (⟨"ZoneDeskModel", "bytes", "()I"⟩, prog_14_method_52_code, 1, (some FieldType.int), 1, 0, 1, 1705),
  (⟨"ZoneDeskModel", "candidate", "(JI)I"⟩, prog_14_method_47_code, 6, (some FieldType.int), 1, 0, 3, 1677),
  (⟨"ZoneDeskModel", "clear", "()V"⟩, prog_14_method_29_code, 2, (none : Option FieldType), 1, 0, 1, 1607),
  (⟨"ZoneDeskModel", "digit", "(II)I"⟩, prog_14_method_55_code, 2, (some FieldType.int), 1, 0, 2, 1729),
  (⟨"ZoneDeskModel", "eras", "()I"⟩, prog_14_method_28_code, 1, (some FieldType.int), 1, 0, 1, 1603),
  (⟨"ZoneDeskModel", "fails", "(I)I"⟩, prog_14_method_3_code, 2, (some FieldType.int), 1, 0, 2, 1532),
  (⟨"ZoneDeskModel", "fire", "(IIJ)V"⟩, prog_14_method_24_code, 6, (none : Option FieldType), 1, 0, 4, 1587),
  (⟨"ZoneDeskModel", "floor", "(JJ)J"⟩, prog_14_method_4_code, 6, (some FieldType.long), 1, 0, 2, 1575),
  (⟨"ZoneDeskModel", "image", "(I)I"⟩, prog_14_method_53_code, 2, (some FieldType.int), 1, 0, 2, 1709),
  (⟨"ZoneDeskModel", "isDigit", "(C)Z"⟩, prog_14_method_10_code, 1, (some FieldType.boolean), 1, 0, 1, 1528),
  (⟨"ZoneDeskModel", "isFormat", "(II)Z"⟩, prog_14_method_25_code, 7, (some FieldType.boolean), 1, 0, 3, 1595)]
def zt_ms1 : List (MethodName × ByteArray × Nat × Option FieldType × Nat × Nat × Nat × Nat) := [
  (⟨"ZoneDeskModel", "isOne", "(IC)Z"⟩, prog_14_method_12_code, 3, (some FieldType.boolean), 1, 0, 3, 1517),
  (⟨"ZoneDeskModel", "isType", "(I)Z"⟩, prog_14_method_46_code, 4, (some FieldType.boolean), 1, 0, 2, 1688),
  (⟨"ZoneDeskModel", "led", "(IJII)J"⟩, prog_14_method_30_code, 6, (some FieldType.long), 1, 0, 5, 1623),
  (⟨"ZoneDeskModel", "monthName", "(II)I"⟩, prog_14_method_16_code, 8, (some FieldType.int), 1, 0, 3, 1540),
  (⟨"ZoneDeskModel", "put", "(C)V"⟩, prog_14_method_34_code, 2, (none : Option FieldType), 1, 0, 2, 1635),
  (⟨"ZoneDeskModel", "rules", "(I)I"⟩, prog_14_method_27_code, 2, (some FieldType.int), 1, 0, 2, 1599),
  (⟨"ZoneDeskModel", "says", "(ICCCC)Z"⟩, prog_14_method_21_code, 8, (some FieldType.boolean), 1, 0, 6, 1536),
  (⟨"ZoneDeskModel", "split", "()V"⟩, prog_14_method_11_code, 2, (none : Option FieldType), 1, 0, 1, 1513),
  (⟨"ZoneDeskModel", "thrown", "()I"⟩, prog_14_method_2_code, 1, (some FieldType.int), 1, 0, 1, 1501),
  (⟨"ZoneDeskModel", "weekdayName", "(II)I"⟩, prog_14_method_17_code, 8, (some FieldType.int), 1, 0, 3, 1552),
  (⟨"ZoneDeskModel", "weekdayOf", "(J)I"⟩, prog_14_method_6_code, 4, (some FieldType.int), 1, 0, 1, 1581),
  (⟨"ZoneDeskModel", "write", "(C)Z"⟩, prog_14_method_9_code, 2, (some FieldType.boolean), 1, 0, 2, 1505),
  (⟨"java/lang/AbstractStringBuilder", "<init>", "(I)V"⟩, prog_15_method_2_code, 2, (none : Option FieldType), 15, 0, 2, 108),
  (⟨"java/lang/AbstractStringBuilder", "getValue", "()[B"⟩, prog_15_method_64_code, 1, (some (FieldType.array FieldType.byte)), 15, 0, 1, 650),
  (⟨"java/lang/AbstractStringBuilder", "isLatin1", "()Z"⟩, prog_15_method_68_code, 1, (some FieldType.boolean), 15, 0, 1, 293),
  (⟨"java/lang/AbstractStringBuilder", "length", "()I"⟩, prog_15_method_6_code, 1, (some FieldType.int), 15, 0, 1, 246),
  (⟨"java/lang/Math", "abs", "(I)I"⟩, prog_22_method_59_code, 1, (some FieldType.int), 18, 0, 1, 521),
  (⟨"java/lang/Math", "floorDiv", "(II)I"⟩, prog_22_method_47_code, 3, (some FieldType.int), 18, 0, 2, 1071),
  (⟨"java/lang/Math", "floorDiv", "(JJ)J"⟩, prog_22_method_49_code, 6, (some FieldType.long), 18, 0, 2, 580),
  (⟨"java/lang/Math", "floorMod", "(II)I"⟩, prog_22_method_50_code, 3, (some FieldType.int), 18, 0, 2, 1075),
  (⟨"java/lang/Math", "floorMod", "(JJ)J"⟩, prog_22_method_52_code, 6, (some FieldType.long), 18, 0, 2, 609),
  (⟨"java/lang/Math", "max", "(II)I"⟩, prog_22_method_65_code, 2, (some FieldType.int), 18, 0, 2, 267),
  (⟨"java/lang/Math", "min", "(II)I"⟩, prog_22_method_69_code, 2, (some FieldType.int), 18, 0, 2, 285),
  (⟨"java/lang/String", "<init>", "([BB)V"⟩, prog_24_method_151_code, 3, (none : Option FieldType), 16, 0, 3, 879),
  (⟨"java/lang/String", "coder", "()B"⟩, prog_24_method_152_code, 1, (some FieldType.byte), 16, 0, 1, 423),
  (⟨"java/lang/String", "isEmpty", "()Z"⟩, prog_24_method_55_code, 1, (some FieldType.boolean), 16, 0, 1, 968),
  (⟨"java/lang/String", "isLatin1", "()Z"⟩, prog_24_method_154_code, 1, (some FieldType.boolean), 16, 0, 1, 436),
  (⟨"java/lang/StringLatin1", "canEncode", "(C)Z"⟩, prog_26_method_3_code, 1, (some FieldType.boolean), 17, 0, 1, 296),
  (⟨"java/lang/StringLatin1", "canEncode", "(I)Z"⟩, prog_26_method_4_code, 1, (some FieldType.boolean), 17, 0, 1, 443),
  (⟨"java/lang/StringLatin1", "equals", "([B[B)Z"⟩, prog_26_method_13_code, 3, (some FieldType.boolean), 17, 0, 2, 514),
  (⟨"java/lang/StringLatin1", "indexOfChar", "([BIII)I"⟩, prog_26_method_23_code, 6, (some FieldType.int), 17, 0, 4, 448),
  (⟨"java/util/Arrays", "checkLength", "(II)V"⟩, prog_30_method_131_code, 2, (none : Option FieldType), 19, 0, 2, 661),
  (⟨"jdk/internal/util/Preconditions", "checkFromIndexSize", "(IIILjava/util/function/BiFunction;)I"⟩, prog_33_method_13_code, 4, (some FieldType.int), 21, 0, 4, 320),
  (⟨"jdk/internal/util/Preconditions", "checkFromToIndex", "(IIILjava/util/function/BiFunction;)I"⟩, prog_33_method_12_code, 4, (some FieldType.int), 21, 0, 4, 466),
  (⟨"jdk/internal/util/Preconditions", "checkIndex", "(IILjava/util/function/BiFunction;)I"⟩, prog_33_method_11_code, 3, (some FieldType.int), 21, 0, 3, 341),
  (⟨"ZoneDesk", "clear", "()V"⟩, prog_1_method_17_code, 2, (none : Option FieldType), 2, 1, 1, 613),
  (⟨"ZoneDesk$Calendar", "dateNumber", "(J)J"⟩, prog_2_method_5_code, 14, (some FieldType.long), 3, 1, 1, 583),
  (⟨"ZoneDesk$Calendar", "daysOf", "(III)J"⟩, prog_2_method_4_code, 9, (some FieldType.long), 3, 1, 3, 1068),
  (⟨"ZoneDesk$Calendar", "weekdayOf", "(J)I"⟩, prog_2_method_2_code, 2, (some FieldType.int), 3, 1, 1, 604),
  (⟨"ZoneDesk$Day", "checked", "(III)LZoneDesk$Day;"⟩, prog_5_method_3_code, 3, (some (FieldType.object "ZoneDesk$Day")), 6, 1, 3, 929)]
def zt_ms2 : List (MethodName × ByteArray × Nat × Option FieldType × Nat × Nat × Nat × Nat) := [
  (⟨"ZoneDesk$Era", "offsetUnder", "(LZoneDesk$Rule;)I"⟩, prog_6_method_7_code, 2, (some FieldType.int), 7, 1, 2, 406),
  (⟨"ZoneDesk$Held", "addTwoDigits", "(I)V"⟩, prog_7_method_7_code, 2, (none : Option FieldType), 8, 1, 2, 525),
  (⟨"ZoneDesk$Image", "typeAt", "(J)I"⟩, prog_8_method_11_code, 6, (some FieldType.int), 9, 1, 2, 1264),
  (⟨"ZoneDesk$Image", "typeOf", "(LZoneDesk$Held;)I"⟩, prog_8_method_6_code, 3, (some FieldType.int), 9, 1, 2, 1234),
  (⟨"ZoneDesk$Image", "typesAt", "()I"⟩, prog_8_method_10_code, 1, (some FieldType.int), 9, 1, 1, 1253),
  (⟨"ZoneDesk$RuleSet", "instantOf", "(II)J"⟩, prog_11_method_7_code, 5, (some FieldType.long), 12, 1, 3, 391),
  (⟨"ZoneDesk$RuleSet", "saveByNominal", "(J)I"⟩, prog_11_method_9_code, 4, (some FieldType.int), 12, 1, 2, 365),
  (⟨"ZoneDeskModel", "addFour", "(J)V"⟩, prog_14_method_50_code, 4, (none : Option FieldType), 1, 1, 2, 1700),
  (⟨"ZoneDeskModel", "days", "(III)J"⟩, prog_14_method_5_code, 8, (some FieldType.long), 1, 1, 3, 1570),
  (⟨"ZoneDeskModel", "ends", "(I)J"⟩, prog_14_method_32_code, 4, (some FieldType.long), 1, 1, 2, 1619),
  (⟨"ZoneDeskModel", "firedAt", "(II)J"⟩, prog_14_method_31_code, 5, (some FieldType.long), 1, 1, 3, 1627),
  (⟨"ZoneDeskModel", "look", "(JI)I"⟩, prog_14_method_54_code, 8, (some FieldType.int), 1, 1, 3, 1713),
  (⟨"ZoneDeskModel", "number", "(II)Z"⟩, prog_14_method_18_code, 4, (some FieldType.boolean), 1, 1, 3, 1548),
  (⟨"ZoneDeskModel", "pair", "(III)I"⟩, prog_14_method_13_code, 5, (some FieldType.int), 1, 1, 4, 1564),
  (⟨"ZoneDeskModel", "putLetters", "(I)V"⟩, prog_14_method_37_code, 3, (none : Option FieldType), 1, 1, 2, 1639),
  (⟨"ZoneDeskModel", "putTwo", "(I)V"⟩, prog_14_method_35_code, 2, (none : Option FieldType), 1, 1, 2, 1647),
  (⟨"ZoneDeskModel", "type", "()I"⟩, prog_14_method_45_code, 2, (some FieldType.int), 1, 1, 1, 1684),
  (⟨"ZoneDeskModel", "weekday", "(J)I"⟩, prog_14_method_59_code, 3, (some FieldType.int), 1, 1, 2, 1743),
  (⟨"ZoneDeskModel", "year", "(I)Z"⟩, prog_14_method_20_code, 5, (some FieldType.boolean), 1, 1, 2, 1525),
  (⟨"java/lang/String", "checkBoundsBeginEnd", "(III)V"⟩, prog_24_method_158_code, 3, (none : Option FieldType), 16, 1, 3, 463),
  (⟨"java/lang/String", "checkBoundsOffCount", "(III)I"⟩, prog_24_method_157_code, 3, (some FieldType.int), 16, 1, 3, 315),
  (⟨"java/lang/String", "checkIndex", "(II)V"⟩, prog_24_method_155_code, 2, (none : Option FieldType), 16, 1, 2, 338),
  (⟨"java/lang/String", "equals", "(Ljava/lang/Object;)Z"⟩, prog_24_method_66_code, 3, (some FieldType.boolean), 16, 1, 2, 510),
  (⟨"java/lang/String", "length", "()I"⟩, prog_24_method_54_code, 1, (some FieldType.int), 16, 1, 1, 419),
  (⟨"java/lang/StringBuilder", "<init>", "()V"⟩, prog_25_method_1_code, 1, (none : Option FieldType), 14, 1, 1, 105),
  (⟨"java/lang/StringBuilder", "length", "()I"⟩, prog_25_method_93_code, 1, (some FieldType.int), 14, 1, 1, 243),
  (⟨"java/lang/StringLatin1", "indexOf", "([BIII)I"⟩, prog_26_method_22_code, 4, (some FieldType.int), 17, 1, 4, 440),
  (⟨"java/util/Arrays", "copyOf", "([BI)[B"⟩, prog_30_method_121_code, 3, (some (FieldType.array FieldType.byte)), 19, 1, 2, 275),
  (⟨"java/util/Arrays", "copyOfRangeByte", "([BII)[B"⟩, prog_30_method_133_code, 5, (some (FieldType.array FieldType.byte)), 19, 1, 3, 658),
  (⟨"jdk/internal/util/ArraysSupport", "newLength", "(III)I"⟩, prog_32_method_27_code, 4, (some FieldType.int), 20, 1, 3, 264),
  (⟨"ZoneDesk", "<init>", "()V"⟩, prog_1_method_1_code, 2, (none : Option FieldType), 2, 2, 1, 97),
  (⟨"ZoneDesk", "untilInstant", "(LZoneDesk$Era;)J"⟩, prog_1_method_20_code, 3, (some FieldType.long), 2, 2, 2, 361),
  (⟨"ZoneDesk", "weekday", "(J)I"⟩, prog_1_method_16_code, 3, (some FieldType.int), 2, 2, 2, 599),
  (⟨"ZoneDesk$DateText", "daysOfNumber", "(I)J"⟩, prog_4_method_7_code, 4, (some FieldType.long), 5, 2, 1, 1298),
  (⟨"ZoneDesk$DateText", "digitsOf", "(JI)J"⟩, prog_4_method_3_code, 8, (some FieldType.long), 5, 2, 2, 576),
  (⟨"ZoneDesk$Day", "dayIn", "(II)J"⟩, prog_5_method_4_code, 7, (some FieldType.long), 6, 2, 3, 1062),
  (⟨"ZoneDesk$Held", "addOffset", "(I)V"⟩, prog_7_method_6_code, 3, (none : Option FieldType), 8, 2, 2, 518),
  (⟨"ZoneDesk$Image", "finish", "()V"⟩, prog_8_method_8_code, 1, (none : Option FieldType), 9, 2, 1, 1245),
  (⟨"ZoneDesk$Image", "note", "(JLZoneDesk$Held;)V"⟩, prog_8_method_5_code, 5, (none : Option FieldType), 9, 2, 3, 1230),
  (⟨"ZoneDesk$Image", "offsetOf", "(I)I"⟩, prog_8_method_12_code, 2, (some FieldType.int), 9, 2, 2, 1272)]
def zt_ms3 : List (MethodName × ByteArray × Nat × Option FieldType × Nat × Nat × Nat × Nat) := [
  (⟨"ZoneDesk$Image", "saveFlagOf", "(I)I"⟩, prog_8_method_13_code, 2, (some FieldType.int), 9, 2, 2, 1276),
  (⟨"ZoneDesk$Rule", "isWhole", "()Z"⟩, prog_10_method_4_code, 1, (some FieldType.boolean), 11, 2, 1, 1041),
  (⟨"ZoneDesk$RuleSet", "lastFiring", "(JI)I"⟩, prog_11_method_10_code, 5, (some FieldType.int), 12, 2, 3, 386),
  (⟨"ZoneDeskModel", "civil", "(J)V"⟩, prog_14_method_7_code, 5, (none : Option FieldType), 1, 2, 2, 1725),
  (⟨"ZoneDeskModel", "day", "(II)Z"⟩, prog_14_method_19_code, 4, (some FieldType.boolean), 1, 2, 3, 1544),
  (⟨"ZoneDeskModel", "fill", "()V"⟩, prog_14_method_51_code, 3, (none : Option FieldType), 1, 2, 1, 1692),
  (⟨"ZoneDeskModel", "named", "(IIIII)J"⟩, prog_14_method_8_code, 7, (some FieldType.long), 1, 2, 5, 1567),
  (⟨"ZoneDeskModel", "putOffset", "()V"⟩, prog_14_method_38_code, 2, (none : Option FieldType), 1, 2, 1, 1643),
  (⟨"ZoneDeskModel", "time", "(II)Z"⟩, prog_14_method_14_code, 10, (some FieldType.boolean), 1, 2, 3, 1560),
  (⟨"ZoneDeskModel", "two", "(III)I"⟩, prog_14_method_57_code, 5, (some FieldType.int), 1, 2, 4, 1737),
  (⟨"java/lang/AbstractStringBuilder", "newCapacity", "(I)I"⟩, prog_15_method_10_code, 6, (some FieldType.int), 15, 2, 2, 261),
  (⟨"java/lang/String", "indexOf", "(II)I"⟩, prog_24_method_80_code, 3, (some FieldType.int), 16, 2, 3, 432),
  (⟨"java/lang/StringLatin1", "charAt", "([BI)C"⟩, prog_26_method_2_code, 2, (some FieldType.char), 17, 2, 2, 497),
  (⟨"java/util/Arrays", "copyOfRange", "([BII)[B"⟩, prog_30_method_132_code, 3, (some (FieldType.array FieldType.byte)), 19, 2, 3, 655),
  (⟨"ZoneDesk", "eraNumberAt", "(J)I"⟩, prog_1_method_21_code, 4, (some FieldType.int), 2, 3, 2, 357),
  (⟨"ZoneDesk", "look", "(JI)I"⟩, prog_1_method_13_code, 5, (some FieldType.int), 2, 3, 3, 1260),
  (⟨"ZoneDesk", "ruleAt", "(LZoneDesk$Era;J)LZoneDesk$Rule;"⟩, prog_1_method_22_code, 5, (some (FieldType.object "ZoneDesk$Rule")), 2, 3, 3, 382),
  (⟨"ZoneDesk$DateText", "instantOfDigits", "(JZ)J"⟩, prog_4_method_6_code, 9, (some FieldType.long), 5, 3, 2, 1293),
  (⟨"ZoneDesk$Rule", "nominalIn", "(I)J"⟩, prog_10_method_5_code, 2, (some FieldType.long), 11, 3, 2, 1058),
  (⟨"ZoneDeskModel", "call", "(II)V"⟩, prog_14_method_36_code, 9, (none : Option FieldType), 1, 3, 3, 1631),
  (⟨"ZoneDeskModel", "clock", "(II)Z"⟩, prog_14_method_15_code, 5, (some FieldType.boolean), 1, 3, 3, 1556),
  (⟨"ZoneDeskModel", "read", "()J"⟩, prog_14_method_58_code, 14, (some FieldType.long), 1, 3, 1, 1733),
  (⟨"java/lang/AbstractStringBuilder", "ensureCapacityInternal", "(I)V"⟩, prog_15_method_9_code, 3, (none : Option FieldType), 15, 3, 2, 257),
  (⟨"java/lang/String", "<init>", "(Ljava/lang/AbstractStringBuilder;Ljava/lang/Void;)V"⟩, prog_24_method_150_code, 5, (none : Option FieldType), 16, 3, 3, 644),
  (⟨"java/lang/String", "charAt", "(I)C"⟩, prog_24_method_56_code, 2, (some FieldType.char), 16, 3, 2, 494),
  (⟨"java/lang/String", "indexOf", "(I)I"⟩, prog_24_method_79_code, 2, (some FieldType.int), 16, 3, 2, 428),
  (⟨"java/lang/StringLatin1", "newString", "([BII)Ljava/lang/String;"⟩, prog_26_method_47_code, 3, (some (FieldType.object "java/lang/String")), 17, 3, 3, 873),
  (⟨"ZoneDesk", "holds", "(JI)I"⟩, prog_1_method_6_code, 7, (some FieldType.int), 2, 4, 3, 1185),
  (⟨"ZoneDesk", "offsetAt", "(J)I"⟩, prog_1_method_23_code, 4, (some FieldType.int), 2, 4, 2, 548),
  (⟨"ZoneDesk$DateText", "character", "(JII)I"⟩, prog_4_method_2_code, 11, (some FieldType.int), 5, 4, 3, 567),
  (⟨"ZoneDesk$DateText", "instantOf", "(Ljava/lang/String;)J"⟩, prog_4_method_4_code, 7, (some FieldType.long), 5, 4, 1, 1286),
  (⟨"ZoneDesk$Era", "isFormat", "(Ljava/lang/String;)Z"⟩, prog_6_method_5_code, 3, (some FieldType.boolean), 7, 4, 1, 1165),
  (⟨"ZoneDesk$Held", "addPart", "(Ljava/lang/String;II)V"⟩, prog_7_method_5_code, 5, (none : Option FieldType), 8, 4, 4, 490),
  (⟨"ZoneDesk$Line", "<init>", "(Ljava/lang/String;)V"⟩, prog_9_method_1_code, 4, (none : Option FieldType), 10, 4, 2, 833),
  (⟨"ZoneDesk$RuleSet", "firingIn", "(LZoneDesk$Rule;I)J"⟩, prog_11_method_5_code, 3, (some FieldType.long), 12, 4, 3, 1054),
  (⟨"ZoneDesk$Word", "begins", "(Ljava/lang/String;ILjava/lang/String;)Z"⟩, prog_12_method_11_code, 5, (some FieldType.boolean), 13, 4, 3, 926),
  (⟨"ZoneDesk$Word", "digits", "(Ljava/lang/String;II)I"⟩, prog_12_method_3_code, 6, (some FieldType.int), 13, 4, 3, 897),
  (⟨"ZoneDeskLaw", "look", "(LZoneDesk;JI[J)I"⟩, method_7_code, 6, (some FieldType.int), 0, 4, 4, 1256),
  (⟨"ZoneDeskModel", "eraLine", "()I"⟩, prog_14_method_26_code, 9, (some FieldType.int), 1, 4, 1, 1591),
  (⟨"ZoneDeskModel", "rule", "()I"⟩, prog_14_method_23_code, 11, (some FieldType.int), 1, 4, 1, 1521)]
def zt_ms4 : List (MethodName × ByteArray × Nat × Option FieldType × Nat × Nat × Nat × Nat) := [
  (⟨"ZoneDeskModel", "see", "(J)V"⟩, prog_14_method_33_code, 6, (none : Option FieldType), 1, 4, 2, 1615),
  (⟨"java/lang/AbstractStringBuilder", "append", "(C)Ljava/lang/AbstractStringBuilder;"⟩, prog_15_method_31_code, 2, (some (FieldType.object "java/lang/AbstractStringBuilder")), 15, 4, 2, 253),
  (⟨"java/lang/AbstractStringBuilder", "setLength", "(I)V"⟩, prog_15_method_13_code, 2, (none : Option FieldType), 15, 4, 2, 814),
  (⟨"java/lang/String", "<init>", "(Ljava/lang/StringBuilder;)V"⟩, prog_24_method_53_code, 2, (none : Option FieldType), 16, 4, 2, 641),
  (⟨"java/lang/String", "substring", "(II)Ljava/lang/String;"⟩, prog_24_method_92_code, 5, (some (FieldType.object "java/lang/String")), 16, 4, 3, 869),
  (⟨"ZoneDesk", "date", "(JI)I"⟩, prog_1_method_14_code, 4, (some FieldType.int), 2, 5, 3, 564),
  (⟨"ZoneDesk", "tryOffset", "(JI)V"⟩, prog_1_method_25_code, 6, (none : Option FieldType), 2, 5, 3, 544),
  (⟨"ZoneDesk$Era", "isWhole", "()Z"⟩, prog_6_method_4_code, 1, (some FieldType.boolean), 7, 5, 1, 1162),
  (⟨"ZoneDesk$Held", "addName", "(Ljava/lang/String;IILjava/lang/String;)V"⟩, prog_7_method_4_code, 8, (none : Option FieldType), 8, 5, 5, 415),
  (⟨"ZoneDesk$Line", "wordOr", "(ILjava/lang/String;)Ljava/lang/String;"⟩, prog_9_method_2_code, 3, (some (FieldType.object "java/lang/String")), 10, 5, 3, 865),
  (⟨"ZoneDesk$RuleSet", "mergeFirings", "(LZoneDesk$Rule;)V"⟩, prog_11_method_4_code, 7, (none : Option FieldType), 12, 5, 2, 1050),
  (⟨"ZoneDesk$Word", "number", "(Ljava/lang/String;III)I"⟩, prog_12_method_2_code, 6, (some FieldType.int), 13, 5, 4, 950),
  (⟨"ZoneDesk$Word", "placeOfOnly", "(Ljava/lang/String;Ljava/lang/String;)I"⟩, prog_12_method_10_code, 4, (some FieldType.int), 13, 5, 2, 923),
  (⟨"ZoneDesk$Word", "set", "(Ljava/lang/String;)I"⟩, prog_12_method_9_code, 2, (some FieldType.int), 13, 5, 1, 998),
  (⟨"ZoneDesk$Word", "sixtieths", "(Ljava/lang/String;I)I"⟩, prog_12_method_5_code, 3, (some FieldType.int), 13, 5, 2, 973),
  (⟨"ZoneDesk$Word", "year", "(Ljava/lang/String;)I"⟩, prog_12_method_6_code, 2, (some FieldType.int), 13, 5, 1, 893),
  (⟨"ZoneDeskLaw", "holds", "(LZoneDesk;JI[J)I"⟩, method_4_code, 6, (some FieldType.int), 0, 5, 4, 1181),
  (⟨"ZoneDeskModel", "compile", "()I"⟩, prog_14_method_48_code, 4, (some FieldType.int), 1, 5, 1, 1673),
  (⟨"ZoneDeskModel", "date", "(JI)I"⟩, prog_14_method_56_code, 14, (some FieldType.int), 1, 5, 3, 1717),
  (⟨"ZoneDeskModel", "holds", "(JI)I"⟩, prog_14_method_39_code, 4, (some FieldType.int), 1, 5, 3, 1611),
  (⟨"ZoneDeskModel", "letter", "(JI)I"⟩, prog_14_method_40_code, 4, (some FieldType.int), 1, 5, 3, 1651),
  (⟨"ZoneDeskModel", "line", "()I"⟩, prog_14_method_22_code, 1, (some FieldType.int), 1, 5, 1, 1509),
  (⟨"ZoneDeskModel", "tries", "(JII)I"⟩, prog_14_method_41_code, 9, (some FieldType.int), 1, 5, 4, 1665),
  (⟨"java/lang/String", "substring", "(I)Ljava/lang/String;"⟩, prog_24_method_91_code, 2, (some (FieldType.object "java/lang/String")), 16, 5, 2, 915),
  (⟨"java/lang/StringBuilder", "append", "(C)Ljava/lang/StringBuilder;"⟩, prog_25_method_14_code, 2, (some (FieldType.object "java/lang/StringBuilder")), 14, 5, 2, 250),
  (⟨"java/lang/StringBuilder", "setLength", "(I)V"⟩, prog_25_method_89_code, 2, (none : Option FieldType), 14, 5, 2, 811),
  (⟨"java/lang/StringBuilder", "toString", "()Ljava/lang/String;"⟩, prog_25_method_42_code, 1, (some (FieldType.object "java/lang/String")), 14, 5, 1, 636),
  (⟨"ZoneDesk", "findInstants", "(J)V"⟩, prog_1_method_24_code, 7, (none : Option FieldType), 2, 6, 2, 537),
  (⟨"ZoneDesk", "takeDraft", "()Ljava/lang/String;"⟩, prog_1_method_18_code, 2, (some (FieldType.object "java/lang/String")), 2, 6, 1, 632),
  (⟨"ZoneDesk", "write", "(C)Z"⟩, prog_1_method_2_code, 2, (some FieldType.boolean), 2, 6, 2, 239),
  (⟨"ZoneDesk$Held", "take", "(LZoneDesk$Era;LZoneDesk$Rule;)V"⟩, prog_7_method_2_code, 6, (none : Option FieldType), 8, 6, 3, 398),
  (⟨"ZoneDesk$Line", "word", "(I)Ljava/lang/String;"⟩, prog_9_method_3_code, 2, (some (FieldType.object "java/lang/String")), 10, 6, 2, 860),
  (⟨"ZoneDesk$Rule", "lastYear", "(Ljava/lang/String;I)I"⟩, prog_10_method_3_code, 2, (some FieldType.int), 11, 6, 2, 902),
  (⟨"ZoneDesk$RuleSet", "add", "(LZoneDesk$Rule;)Z"⟩, prog_11_method_3_code, 2, (some FieldType.boolean), 12, 6, 2, 1046),
  (⟨"ZoneDesk$Word", "dayName", "(Ljava/lang/String;)I"⟩, prog_12_method_8_code, 1, (some FieldType.int), 13, 6, 1, 919),
  (⟨"ZoneDesk$Word", "month", "(Ljava/lang/String;)I"⟩, prog_12_method_7_code, 2, (some FieldType.int), 13, 6, 1, 1001),
  (⟨"ZoneDesk$Word", "time", "(Ljava/lang/String;)I"⟩, prog_12_method_4_code, 9, (some FieldType.int), 13, 6, 1, 964),
  (⟨"ZoneDeskModel", "finds", "(J)I"⟩, prog_14_method_42_code, 7, (some FieldType.int), 1, 6, 2, 1659),
  (⟨"ZoneDesk", "compileEra", "(LZoneDesk$Era;JJ)V"⟩, prog_1_method_27_code, 10, (none : Option FieldType), 2, 7, 4, 1226),
  (⟨"ZoneDesk", "instant", "(JI)J"⟩, prog_1_method_9_code, 4, (some FieldType.long), 2, 7, 3, 1194)]
def zt_ms5 : List (MethodName × ByteArray × Nat × Option FieldType × Nat × Nat × Nat × Nat) := [
  (⟨"ZoneDesk", "letter", "(JI)I"⟩, prog_1_method_7_code, 5, (some FieldType.int), 2, 7, 3, 353),
  (⟨"ZoneDesk", "read", "()J"⟩, prog_1_method_15_code, 3, (some FieldType.long), 2, 7, 1, 1283),
  (⟨"ZoneDesk", "shown", "(J)I"⟩, prog_1_method_8_code, 3, (some FieldType.int), 2, 7, 2, 533),
  (⟨"ZoneDesk$Clock", "parse", "(Ljava/lang/String;)LZoneDesk$Clock;"⟩, prog_3_method_2_code, 4, (some (FieldType.object "ZoneDesk$Clock")), 4, 7, 1, 954),
  (⟨"ZoneDesk$Day", "parse", "(Ljava/lang/String;)LZoneDesk$Day;"⟩, prog_5_method_2_code, 5, (some (FieldType.object "ZoneDesk$Day")), 6, 7, 1, 907),
  (⟨"ZoneDesk$Era", "timeWithColon", "(Ljava/lang/String;)I"⟩, prog_6_method_3_code, 1, (some FieldType.int), 7, 7, 1, 1128),
  (⟨"ZoneDesk$Rule", "<init>", "(LZoneDesk$Line;IILZoneDesk$Day;LZoneDesk$Clock;)V"⟩, prog_10_method_1_code, 6, (none : Option FieldType), 11, 7, 6, 994),
  (⟨"ZoneDeskModel", "instant", "(JI)J"⟩, prog_14_method_44_code, 4, (some FieldType.long), 1, 7, 3, 1669),
  (⟨"ZoneDeskModel", "shown", "(J)I"⟩, prog_14_method_43_code, 3, (some FieldType.int), 1, 7, 2, 1655),
  (⟨"ZoneDesk", "compile", "()I"⟩, prog_1_method_10_code, 6, (some FieldType.int), 2, 8, 1, 1216),
  (⟨"ZoneDesk$Era", "<init>", "(LZoneDesk$Line;JLZoneDesk$Clock;)V"⟩, prog_6_method_1_code, 7, (none : Option FieldType), 7, 8, 4, 1121),
  (⟨"ZoneDesk$Rule", "parse", "(LZoneDesk$Line;)LZoneDesk$Rule;"⟩, prog_10_method_2_code, 6, (some (FieldType.object "ZoneDesk$Rule")), 11, 8, 1, 856),
  (⟨"ZoneDeskLaw", "instant", "(LZoneDesk;JI[J)I"⟩, method_5_code, 6, (some FieldType.int), 0, 8, 4, 1189),
  (⟨"ZoneDeskLaw", "read", "(LZoneDesk;[J)I"⟩, method_8_code, 3, (some FieldType.int), 0, 8, 2, 1279),
  (⟨"ZoneDesk$Era", "parse", "(LZoneDesk$Line;)LZoneDesk$Era;"⟩, prog_6_method_2_code, 9, (some (FieldType.object "ZoneDesk$Era")), 7, 9, 1, 1101),
  (⟨"ZoneDeskLaw", "compile", "(LZoneDesk;[J)I"⟩, method_6_code, 3, (some FieldType.int), 0, 9, 2, 1212),
  (⟨"ZoneDesk", "line", "()I"⟩, prog_1_method_3_code, 4, (some FieldType.int), 2, 10, 1, 626),
  (⟨"ZoneDeskLaw", "line", "(LZoneDesk;[J)I"⟩, method_3_code, 3, (some FieldType.int), 0, 11, 2, 620),
  (⟨"ZoneDeskLaw", "law", "([I)Z"⟩, code, 8, (some FieldType.boolean), 0, 12, 1, 9999)]
def zt_ms : List (MethodName × ByteArray × Nat × Option FieldType × Nat × Nat × Nat × Nat) := zt_ms0 ++ zt_ms1 ++ zt_ms2 ++ zt_ms3 ++ zt_ms4 ++ zt_ms5
def zt_m (i : Nat) : MethodName × ByteArray × Nat × Option FieldType × Nat × Nat × Nat × Nat := zt_ms.getD i (⟨"", "", ""⟩, ⟨#[]⟩, 0, none, 99, 0, 0, 9999)
def zt_name (i : Nat) : MethodName := (zt_m i).1
def zt_code (i : Nat) : ByteArray := (zt_m i).2.1
def zt_ml (i : Nat) : Nat := (zt_m i).2.2.1
def zt_ret (i : Nat) : Option FieldType := (zt_m i).2.2.2.1
def zt_own (i : Nat) : Nat := (zt_m i).2.2.2.2.1
def zt_rk (i : Nat) : Nat := (zt_m i).2.2.2.2.2.1
def zt_na (i : Nat) : Nat := (zt_m i).2.2.2.2.2.2.1
def zt_wp (i : Nat) : Nat := (zt_m i).2.2.2.2.2.2.2
def zt_lk {α : Type} (t : List ((Nat × Nat) × α)) (o k : Nat) : Option α := (t.find? (fun q => q.1.1 == o && q.1.2 == k)).map (fun q => q.2)
/-- instance fields: (class, field, type), the places of the words fieldLink and lays -/
def zt_fldL : List ((Nat × Nat) × (Nat × Nat × FieldType) × Nat × Nat) := [((15, 15), (1, 0, .array .byte), 119, 124), ((15, 22), (1, 1, .byte), 120, 126), ((15, 73), (1, 2, .boolean), 121, 128), ((16, 1048), (1, 2, .boolean), 122, 128), ((15, 79), (1, 3, .int), 123, 130), ((8, 9), (3, 0, .array .byte), 144, 147), ((9, 45), (3, 0, .array .byte), 145, 147), ((8, 28), (3, 1, .int), 146, 149), ((9, 13), (4, 0, .array .byte), 158, 170), ((2, 160), (4, 0, .array .byte), 159, 170), ((9, 59), (4, 1, .int), 160, 172), ((2, 158), (4, 1, .int), 161, 172), ((9, 23), (4, 2, .int), 162, 174), ((2, 155), (4, 2, .int), 163, 174), ((9, 62), (4, 3, .int), 164, 176), ((2, 173), (4, 3, .int), 165, 176), ((9, 17), (4, 4, .array .byte), 166, 178), ((9, 20), (4, 5, .array .byte), 167, 180), ((9, 27), (4, 6, .int), 168, 182), ((9, 30), (4, 7, .int), 169, 184), ((12, 11), (5, 0, .array (.object "ZoneDesk$Rule")), 194, 201), ((2, 254), (5, 0, .array (.object "ZoneDesk$Rule")), 195, 201), ((12, 21), (5, 1, .int), 196, 203), ((2, 94), (5, 1, .int), 197, 203), ((12, 17), (5, 2, .array .long), 198, 205), ((12, 25), (5, 3, .int), 199, 207), ((2, 265), (5, 3, .int), 200, 207), ((2, 12), (0, 0, .object "java/lang/StringBuilder"), 211, 219), ((2, 18), (0, 1, .array (.object "ZoneDesk$RuleSet")), 212, 221), ((2, 24), (0, 2, .array (.object "ZoneDesk$Era")), 213, 223), ((2, 97), (0, 3, .int), 214, 225), ((2, 31), (0, 4, .object "ZoneDesk$Held"), 215, 227), ((2, 38), (0, 5, .object "ZoneDesk$Image"), 216, 229), ((2, 42), (0, 6, .array .long), 217, 231), ((2, 127), (0, 7, .int), 218, 233), ((16, 9), (2, 0, .array .byte), 797, 799), ((16, 15), (2, 1, .byte), 798, 801), ((10, 16), (6, 0, .object "java/lang/String"), 837, 844), ((10, 9), (6, 1, .array .int), 838, 846), ((10, 13), (6, 2, .array .int), 839, 848), ((7, 51), (6, 3, .int), 840, 850), ((10, 30), (6, 3, .int), 841, 850), ((11, 65), (6, 3, .int), 842, 850), ((2, 64), (6, 3, .int), 843, 850), ((6, 9), (7, 0, .int), 937, 940), ((6, 15), (7, 1, .int), 938, 942), ((6, 18), (7, 2, .int), 939, 944), ((4, 9), (8, 0, .int), 980, 984), ((7, 102), (8, 0, .int), 981, 984), ((11, 110), (8, 0, .int), 982, 984), ((4, 15), (8, 1, .int), 983, 986), ((11, 21), (9, 0, .int), 1006, 1021), ((2, 74), (9, 0, .int), 1007, 1021), ((11, 26), (9, 1, .int), 1008, 1023), ((12, 35), (9, 1, .int), 1009, 1023), ((11, 29), (9, 2, .int), 1010, 1025), ((12, 32), (9, 2, .int), 1011, 1025), ((11, 35), (9, 3, .int), 1012, 1027), ((11, 37), (9, 4, .object "ZoneDesk$Day"), 1013, 1029), ((11, 41), (9, 5, .object "ZoneDesk$Clock"), 1014, 1031), ((12, 54), (9, 5, .object "ZoneDesk$Clock"), 1015, 1031), ((11, 48), (9, 6, .int), 1016, 1033), ((7, 133), (9, 6, .int), 1017, 1033), ((12, 58), (9, 6, .int), 1018, 1033), ((11, 61), (9, 7, .object "java/lang/String"), 1019, 1035), ((8, 38), (9, 7, .object "java/lang/String"), 1020, 1035), ((7, 25), (10, 0, .int), 1130, 1144), ((2, 233), (10, 0, .int), 1131, 1144), ((7, 31), (10, 1, .int), 1132, 1146), ((2, 218), (10, 1, .int), 1133, 1146), ((7, 44), (10, 2, .int), 1134, 1148), ((2, 219), (10, 2, .int), 1135, 1148), ((7, 47), (10, 3, .object "java/lang/String"), 1136, 1150), ((8, 32), (10, 3, .object "java/lang/String"), 1137, 1150), ((7, 54), (10, 4, .boolean), 1138, 1152), ((2, 133), (10, 4, .boolean), 1139, 1152), ((7, 58), (10, 5, .long), 1140, 1154), ((2, 222), (10, 5, .long), 1141, 1154), ((7, 62), (10, 6, .object "ZoneDesk$Clock"), 1142, 1156), ((2, 229), (10, 6, .object "ZoneDesk$Clock"), 1143, 1156), ((1, 7), (11, 0, .array .char), 1312, 1373), ((1, 13), (11, 1, .array .char), 1313, 1375), ((1, 16), (11, 2, .array .int), 1314, 1377), ((1, 20), (11, 3, .array .int), 1315, 1379), ((1, 133), (11, 4, .int), 1316, 1381), ((1, 23), (11, 5, .array .char), 1317, 1383), ((1, 172), (11, 6, .int), 1318, 1385), ((1, 175), (11, 7, .int), 1319, 1387), ((1, 26), (11, 8, .array .int), 1320, 1389), ((1, 29), (11, 9, .array .int), 1321, 1391), ((1, 190), (11, 10, .int), 1322, 1393), ((1, 193), (11, 11, .int), 1323, 1395), ((1, 203), (11, 12, .int), 1324, 1397), ((1, 200), (11, 13, .int), 1325, 1399), ((1, 206), (11, 14, .int), 1326, 1401), ((1, 182), (11, 15, .boolean), 1327, 1403), ((1, 32), (11, 16, .array .int), 1328, 1405), ((1, 35), (11, 17, .array .int), 1329, 1407), ((1, 38), (11, 18, .array .int), 1330, 1409), ((1, 41), (11, 19, .array .int), 1331, 1411), ((1, 44), (11, 20, .array .int), 1332, 1413), ((1, 47), (11, 21, .array .int), 1333, 1415), ((1, 50), (11, 22, .array .int), 1334, 1417), ((1, 53), (11, 23, .array .int), 1335, 1419), ((1, 56), (11, 24, .array .int), 1336, 1421), ((1, 59), (11, 25, .array .int), 1337, 1423), ((1, 62), (11, 26, .array .int), 1338, 1425), ((1, 65), (11, 27, .array .char), 1339, 1427), ((1, 262), (11, 28, .int), 1340, 1429), ((1, 68), (11, 29, .array .int), 1341, 1431), ((1, 71), (11, 30, .array .int), 1342, 1433), ((1, 74), (11, 31, .array .int), 1343, 1435), ((1, 77), (11, 32, .array .int), 1344, 1437), ((1, 80), (11, 33, .array .int), 1345, 1439), ((1, 83), (11, 34, .array .char), 1346, 1441), ((1, 86), (11, 35, .array .boolean), 1347, 1443), ((1, 90), (11, 36, .array .long), 1348, 1445), ((1, 94), (11, 37, .array .int), 1349, 1447), ((1, 97), (11, 38, .array .long), 1350, 1449), ((1, 100), (11, 39, .array .int), 1351, 1451), ((1, 283), (11, 40, .int), 1352, 1453), ((1, 286), (11, 41, .int), 1353, 1455), ((1, 289), (11, 42, .int), 1354, 1457), ((1, 296), (11, 43, .int), 1355, 1459), ((1, 103), (11, 44, .array .char), 1356, 1461), ((1, 265), (11, 45, .int), 1357, 1463), ((1, 268), (11, 46, .int), 1358, 1465), ((1, 327), (11, 47, .int), 1359, 1467), ((1, 106), (11, 48, .array .int), 1360, 1469), ((1, 109), (11, 49, .array .int), 1361, 1471), ((1, 112), (11, 50, .array .int), 1362, 1473), ((1, 115), (11, 51, .array .int), 1363, 1475), ((1, 118), (11, 52, .array .boolean), 1364, 1477), ((1, 121), (11, 53, .array .char), 1365, 1479), ((1, 124), (11, 54, .array .long), 1366, 1481), ((1, 127), (11, 55, .array .long), 1367, 1483), ((1, 357), (11, 56, .int), 1368, 1485), ((1, 130), (11, 57, .array .long), 1369, 1487), ((1, 159), (11, 58, .int), 1370, 1489), ((1, 162), (11, 59, .int), 1371, 1491), ((1, 165), (11, 60, .int), 1372, 1493)]
def zt_fld (o k : Nat) : Option (Nat × Nat × FieldType) := (zt_lk zt_fldL o k).map (fun q => q.1)
def zt_stcL : List ((Nat × Nat) × Value × Nat) := [((15, 18), .int 1, 110), ((16, 1053), .retAddr 150, 316), ((16, 38), .int 1, 424)]
def zt_stc (o k : Nat) : Option Value := (zt_lk zt_stcL o k).map (fun q => q.1)
def zt_ldcL : List ((Nat × Nat) × Value × Nat) := [((20, 200), .int (2147483639), 268), ((15, 39), .int (2147483647), 272), ((3, 29), .int (36524), 587), ((3, 30), .int (146096), 588), ((13, 15), .int (-1000000), 899), ((6, 61), .int (-1000000), 930), ((4, 24), .int (-1000000), 956), ((11, 88), .int (-1000000), 989), ((7, 21), .int (-1000000), 1114), ((5, 78), .int (-1000000), 1304), ((8, 36), .retAddr 0, 411), ((8, 61), .retAddr 2, 506), ((5, 11), .retAddr 4, 568), ((10, 38), .retAddr 6, 861), ((17, 151), .retAddr 8, 874), ((11, 68), .retAddr 10, 889), ((11, 96), .retAddr 12, 903), ((11, 98), .retAddr 14, 904), ((6, 31), .retAddr 16, 910), ((13, 48), .retAddr 18, 920), ((13, 42), .retAddr 20, 1002), ((11, 51), .retAddr 22, 1004), ((11, 59), .retAddr 24, 1005), ((7, 66), .retAddr 26, 1103), ((7, 67), .retAddr 28, 1105), ((7, 76), .retAddr 30, 1108), ((7, 81), .retAddr 32, 1110), ((7, 89), .retAddr 34, 1112), ((7, 33), .retAddr 36, 1125), ((7, 131), .retAddr 38, 1169)]
def zt_ldc (o k : Nat) : Option Value := (zt_lk zt_ldcL o k).map (fun q => q.1)
def zt_lngL : List ((Nat × Nat) × Int64 × Nat) := [((12, 46), (7), 374), ((12, 71), (179998), 387), ((12, 52), (-4000000000000000000), 392), ((2, 176), (-1000000000000000), 538), ((2, 178), (1000000000000000), 539), ((5, 19), (-62167219200), 570), ((5, 21), (253402300799), 571), ((5, 41), (86400), 577), ((3, 25), (719468), 584), ((3, 23), (146097), 585), ((3, 31), (400), 589), ((3, 33), (10000), 590), ((3, 35), (100), 591), ((5, 53), (1000000), 592), ((5, 55), (10000), 593), ((5, 37), (10), 594), ((5, 39), (48), 595), ((2, 195), (86400), 600), ((3, 7), (4), 605), ((3, 9), (7), 606), ((6, 84), (7), 1076), ((11, 108), (86400), 1077), ((7, 100), (86400), 1116), ((2, 140), (-2147483648), 1221), ((2, 142), (2147483648), 1222), ((5, 57), (-4000000000000000000), 1287), ((5, 67), (100), 1294), ((5, 69), (10000000000), 1295), ((2, 193), (-4000000000000000000), 1305), ((1, 137), (365), 1571), ((1, 139), (4), 1572), ((1, 145), (100), 1576), ((1, 147), (400), 1577), ((1, 149), (719469), 1578), ((1, 151), (7), 1582), ((1, 253), (86400), 1583), ((1, 316), (-1000000000000000), 1660), ((1, 318), (1000000000000000), 1661), ((1, 333), (-2147483647), 1678), ((1, 335), (2147483647), 1679), ((1, 341), (-2147483648), 1680), ((1, 349), (255), 1701), ((1, 360), (-100000000000), 1718), ((1, 362), (300000000000), 1719), ((1, 364), (-62167219200), 1720), ((1, 366), (253402300799), 1721), ((1, 153), (146097), 1726), ((1, 377), (3600), 1738), ((1, 379), (60), 1739), ((0, 64), (4294967295), 1744)]
def zt_lng (o k : Nat) : Option Int64 := (zt_lk zt_lngL o k).map (fun q => q.1)
/-- the literals: class, entry, text -/
def zt_strs : List (String × Nat × String × List Nat) := [("ZoneDesk$Held", 36, "", []), ("ZoneDesk$Held", 61, "%z", [37, 122]), ("ZoneDesk$DateText", 11, "dddd-dd-ddTdd:dd:dd+dd:dd", [100, 100, 100, 100, 45, 100, 100, 45, 100, 100, 84, 100, 100, 58, 100, 100, 58, 100, 100, 43, 100, 100, 58, 100, 100]), ("ZoneDesk$Line", 38, "", []), ("java/lang/StringLatin1", 151, "", []), ("ZoneDesk$Rule", 68, "R", [82]), ("ZoneDesk$Rule", 96, "only", [111, 110, 108, 121]), ("ZoneDesk$Rule", 98, "max", [109, 97, 120]), ("ZoneDesk$Day", 31, "last", [108, 97, 115, 116]), ("ZoneDesk$Word", 48, "Sunday    Monday    Tuesday   Wednesday Thursday  Friday    Saturday  ", [83, 117, 110, 100, 97, 121, 32, 32, 32, 32, 77, 111, 110, 100, 97, 121, 32, 32, 32, 32, 84, 117, 101, 115, 100, 97, 121, 32, 32, 32, 87, 101, 100, 110, 101, 115, 100, 97, 121, 32, 84, 104, 117, 114, 115, 100, 97, 121, 32, 32, 70, 114, 105, 100, 97, 121, 32, 32, 32, 32, 83, 97, 116, 117, 114, 100, 97, 121, 32, 32]), ("ZoneDesk$Word", 42, "January   February  March     April     May       June      July      August    September October   November  December  ", [74, 97, 110, 117, 97, 114, 121, 32, 32, 32, 70, 101, 98, 114, 117, 97, 114, 121, 32, 32, 77, 97, 114, 99, 104, 32, 32, 32, 32, 32, 65, 112, 114, 105, 108, 32, 32, 32, 32, 32, 77, 97, 121, 32, 32, 32, 32, 32, 32, 32, 74, 117, 110, 101, 32, 32, 32, 32, 32, 32, 74, 117, 108, 121, 32, 32, 32, 32, 32, 32, 65, 117, 103, 117, 115, 116, 32, 32, 32, 32, 83, 101, 112, 116, 101, 109, 98, 101, 114, 32, 79, 99, 116, 111, 98, 101, 114, 32, 32, 32, 78, 111, 118, 101, 109, 98, 101, 114, 32, 32, 68, 101, 99, 101, 109, 98, 101, 114, 32, 32]), ("ZoneDesk$Rule", 51, "-", [45]), ("ZoneDesk$Rule", 59, "", []), ("ZoneDesk$Era", 66, "Z", [90]), ("ZoneDesk$Era", 67, "1970", [49, 57, 55, 48]), ("ZoneDesk$Era", 76, "January", [74, 97, 110, 117, 97, 114, 121]), ("ZoneDesk$Era", 81, "1", [49]), ("ZoneDesk$Era", 89, "0", [48]), ("ZoneDesk$Era", 33, "-", [45]), ("ZoneDesk$Era", 131, "%z", [37, 122])]
def zt_newL : List ((Nat × Nat) × (Nat × Nat × List Value) × Nat) := [((2, 9), (4, 1, [.null, .int 0, .int 0, .int 0]), 101), ((2, 16), (4, 5, [.null, .int 0, .null, .int 0]), 134), ((2, 28), (2, 3, [.null, .int 0]), 138), ((2, 35), (8, 4, [.null, .int 0, .int 0, .int 0, .null, .null, .int 0, .int 0]), 152), ((2, 55), (4, 6, [.null, .null, .null, .int 0]), 627), ((2, 81), (6, 12, []), 1078), ((2, 87), (6, 13, []), 1170), ((2, 130), (6, 14, []), 1195), ((4, 10), (2, 8, [.int 0, .int 0]), 974), ((6, 10), (3, 7, [.int 0, .int 0, .int 0]), 931), ((7, 26), (7, 10, [.int 0, .int 0, .int 0, .null, .int 0, .long 0, .null]), 1117), ((11, 22), (8, 9, [.int 0, .int 0, .int 0, .int 0, .null, .null, .int 0, .null]), 990), ((0, 8), (8, 0, [.null, .null, .null, .int 0, .null, .null, .null, .int 0]), 93), ((0, 38), (61, 11, [.null, .null, .null, .null, .int 0, .null, .int 0, .int 0, .null, .null, .int 0, .int 0, .int 0, .int 0, .int 0, .int 0, .null, .null, .null, .null, .null, .null, .null, .null, .null, .null, .null, .null, .int 0, .null, .null, .null, .null, .null, .null, .null, .null, .null, .null, .null, .int 0, .int 0, .int 0, .int 0, .null, .int 0, .int 0, .int 0, .null, .null, .null, .null, .null, .null, .null, .null, .int 0, .null, .int 0, .int 0, .int 0]), 1306), ((14, 18), (4, 2, [.null, .int 0, .int 0, .int 0]), 637), ((17, 1), (4, 2, [.null, .int 0, .int 0, .int 0]), 875), ((19, 43), (6, 13, []), 662), ((19, 45), (4, 1, [.null, .int 0, .int 0, .int 0]), 703)]
def zt_new (o k : Nat) : Option (Nat × Nat × List Value) := (zt_lk zt_newL o k).map (fun q => q.1)
def zt_anwL : List ((Nat × Nat) × Nat × Nat) := [((2, 16), 6, 134), ((2, 22), 7, 136), ((12, 9), 8, 192)]
def zt_anw (o k : Nat) : Option Nat := (zt_lk zt_anwL o k).map (fun q => q.1)
/-- the class of an array of references: its elements' -/
def zt_cmp (t : Nat) : Option Nat := match t with
  | 6 => some 5
  | 7 => some 10
  | 8 => some 9
  | _ => none
/-- casts: a String (class 2) or a byte array (type 2) -/
def zt_cstL : List ((Nat × Nat) × Bool × Nat) := [((16, 10), true, 511), ((19, 311), false, 282)]
/-- methods: (kind, method, class of the receiver), the place of the word methodLink -/
def zt_mthL0 : List ((Nat × Nat) × (Nat × Nat × Nat) × Nat) := [((2, 3), (3, 0, 0), 98), ((2, 11), (2, 104, 1), 103), ((2, 30), (2, 14, 3), 140), ((2, 37), (2, 17, 4), 154), ((2, 46), (2, 23, 5), 188), ((2, 47), (1, 105, 1), 240), ((2, 51), (1, 184, 1), 247), ((2, 57), (1, 188, 0), 629), ((2, 61), (2, 153, 6), 831), ((2, 68), (0, 211, 0), 854), ((2, 77), (1, 193, 5), 1043), ((2, 83), (5, 0, 12), 1087), ((2, 84), (0, 214, 0), 1099), ((2, 89), (5, 0, 13), 1171), ((2, 90), (1, 0, 0), 1175), ((2, 100), (1, 134, 0), 354), ((2, 104), (1, 136, 0), 379), ((2, 108), (1, 80, 10), 540), ((2, 112), (1, 13, 10), 1186), ((2, 115), (1, 190, 3), 395), ((2, 119), (1, 16, 3), 526), ((2, 123), (1, 187, 0), 534), ((2, 132), (5, 0, 14), 1204), ((2, 137), (1, 18, 4), 1217)]
def zt_mthL1 : List ((Nat × Nat) × (Nat × Nat × Nat) × Nat) := [((2, 144), (1, 111, 0), 358), ((2, 148), (1, 198, 0), 1223), ((2, 152), (1, 117, 4), 1242), ((2, 164), (1, 82, 4), 1261), ((2, 167), (1, 119, 4), 1269), ((2, 170), (1, 120, 4), 1273), ((2, 180), (1, 148, 0), 545), ((2, 183), (0, 149, 0), 565), ((2, 189), (0, 150, 0), 1284), ((2, 197), (0, 58, 0), 601), ((2, 203), (0, 78, 0), 602), ((2, 208), (1, 25, 5), 614), ((2, 211), (1, 186, 1), 633), ((2, 214), (1, 185, 1), 808), ((2, 226), (1, 86, 5), 362), ((2, 236), (1, 9, 8), 375), ((2, 242), (1, 122, 5), 383), ((2, 246), (1, 26, 5), 394), ((2, 250), (1, 166, 0), 541), ((2, 258), (1, 4, 0), 549), ((2, 261), (1, 118, 4), 1227), ((2, 268), (1, 85, 5), 1241), ((3, 11), (0, 60, 0), 607), ((3, 19), (0, 57, 0), 1069)]
def zt_mthL2 : List ((Nat × Nat) × (Nat × Nat × Nat) × Nat) := [((3, 27), (0, 58, 0), 586), ((4, 3), (3, 0, 0), 979), ((4, 18), (1, 103, 2), 955), ((4, 25), (1, 144, 2), 957), ((4, 29), (0, 8, 0), 958), ((4, 33), (1, 164, 2), 961), ((4, 37), (0, 196, 0), 962), ((4, 43), (2, 7, 8), 976), ((5, 13), (1, 103, 2), 569), ((5, 23), (1, 144, 2), 572), ((5, 27), (0, 56, 0), 573), ((5, 33), (0, 114, 0), 574), ((5, 43), (0, 58, 0), 578), ((5, 47), (0, 76, 0), 581), ((5, 59), (0, 10, 0), 1288), ((5, 63), (0, 137, 0), 1291), ((5, 71), (0, 113, 0), 1296), ((5, 75), (0, 11, 0), 1301), ((5, 79), (0, 6, 0), 1299), ((5, 83), (0, 77, 0), 1300), ((6, 3), (3, 0, 0), 936), ((6, 21), (1, 103, 2), 908), ((6, 27), (1, 164, 2), 909), ((6, 33), (1, 102, 2), 911)]
def zt_mthL3 : List ((Nat × Nat) × (Nat × Nat × Nat) × Nat) := [((6, 37), (1, 183, 2), 912), ((6, 40), (0, 194, 0), 917), ((6, 46), (0, 79, 0), 927), ((6, 50), (1, 145, 2), 947), ((6, 54), (0, 171, 0), 948), ((6, 57), (1, 144, 2), 951), ((6, 62), (2, 12, 7), 933), ((6, 65), (0, 6, 0), 1063), ((6, 71), (0, 77, 0), 1066), ((6, 75), (0, 78, 0), 1072), ((6, 79), (0, 59, 0), 1073), ((7, 3), (3, 0, 0), 1122), ((7, 9), (1, 191, 6), 1102), ((7, 15), (0, 173, 0), 1123), ((7, 22), (0, 196, 0), 1124), ((7, 35), (1, 102, 2), 1104), ((7, 41), (0, 205, 0), 1126), ((7, 69), (1, 169, 6), 1106), ((7, 73), (0, 175, 0), 1107), ((7, 78), (0, 195, 0), 1109), ((7, 83), (0, 204, 0), 1111), ((7, 91), (0, 203, 0), 1113), ((7, 96), (1, 115, 7), 1115), ((7, 105), (2, 210, 10), 1119)]
def zt_mthL4 : List ((Nat × Nat) × (Nat × Nat × Nat) × Nat) := [((7, 108), (1, 167, 10), 1159), ((7, 112), (1, 145, 2), 1129), ((7, 116), (0, 151, 0), 1163), ((7, 120), (1, 65, 2), 1166), ((7, 123), (1, 103, 2), 1167), ((7, 127), (1, 144, 2), 1168), ((7, 138), (1, 13, 10), 407), ((8, 1), (3, 0, 0), 143), ((8, 13), (1, 13, 10), 399), ((8, 19), (1, 80, 10), 403), ((8, 22), (0, 22, 0), 408), ((8, 43), (1, 168, 3), 412), ((8, 47), (1, 103, 2), 416), ((8, 53), (1, 145, 2), 425), ((8, 57), (1, 152, 3), 487), ((8, 63), (1, 102, 2), 507), ((8, 67), (1, 116, 3), 515), ((8, 71), (1, 144, 2), 491), ((8, 75), (1, 15, 3), 502), ((8, 79), (0, 56, 0), 519), ((8, 84), (1, 81, 3), 522), ((9, 3), (3, 0, 0), 157), ((9, 33), (1, 83, 4), 1231), ((9, 37), (0, 22, 0), 1240)]
def zt_mthL5 : List ((Nat × Nat) × (Nat × Nat × Nat) × Nat) := [((9, 41), (1, 21, 4), 1235), ((9, 46), (4, 0, 0), 1239), ((9, 52), (1, 19, 4), 1246), ((9, 56), (1, 84, 4), 1250), ((9, 65), (1, 20, 4), 1265), ((10, 1), (3, 0, 0), 834), ((10, 20), (1, 103, 2), 835), ((10, 26), (1, 144, 2), 836), ((10, 34), (1, 164, 2), 866), ((10, 40), (1, 169, 6), 862), ((11, 3), (3, 0, 0), 995), ((11, 9), (1, 191, 6), 857), ((11, 15), (0, 173, 0), 996), ((11, 32), (0, 195, 0), 999), ((11, 45), (0, 196, 0), 1003), ((11, 53), (1, 102, 2), 890), ((11, 70), (0, 175, 0), 891), ((11, 73), (0, 192, 0), 900), ((11, 77), (0, 204, 0), 905), ((11, 83), (0, 203, 0), 952), ((11, 89), (2, 206, 9), 992), ((11, 92), (1, 121, 9), 1038), ((11, 100), (1, 103, 2), 1042), ((11, 104), (1, 115, 7), 1059)]
def zt_mthL6 : List ((Nat × Nat) × (Nat × Nat × Nat) × Nat) := [((12, 3), (3, 0, 0), 191), ((12, 28), (1, 170, 5), 1047), ((12, 38), (1, 154, 5), 1051), ((12, 42), (1, 138, 9), 1055), ((12, 48), (1, 26, 5), 370), ((12, 61), (1, 9, 8), 393), ((12, 67), (1, 24, 5), 366), ((12, 73), (1, 85, 5), 388), ((13, 9), (1, 103, 2), 894), ((13, 16), (0, 156, 0), 895), ((13, 22), (1, 144, 2), 898), ((13, 26), (1, 65, 2), 965), ((13, 30), (1, 145, 2), 969), ((13, 34), (0, 171, 0), 970), ((13, 38), (0, 174, 0), 971), ((13, 44), (0, 172, 0), 921), ((13, 50), (0, 155, 0), 924), ((0, 7), (1, 216, 0), 623), ((0, 17), (1, 147, 0), 1182), ((0, 21), (1, 199, 0), 1191), ((0, 27), (1, 209, 0), 1213), ((0, 30), (1, 135, 0), 1257), ((0, 33), (1, 201, 0), 1280), ((0, 37), (2, 110, 0), 95)]
def zt_mthL7 : List ((Nat × Nat) × (Nat × Nat × Nat) × Nat) := [((0, 40), (2, 27, 11), 1308), ((0, 41), (1, 189, 0), 236), ((0, 45), (1, 51, 11), 1502), ((0, 46), (0, 217, 0), 618), ((0, 51), (1, 181, 11), 1506), ((0, 52), (1, 48, 11), 1498), ((0, 55), (1, 5, 0), 342), ((0, 59), (1, 45, 11), 1596), ((0, 60), (1, 2, 0), 346), ((0, 63), (1, 33, 11), 1600), ((0, 66), (0, 176, 0), 1179), ((0, 69), (1, 179, 11), 1608), ((0, 70), (1, 200, 0), 350), ((0, 73), (1, 180, 11), 1648), ((0, 74), (1, 202, 0), 530), ((0, 78), (1, 208, 11), 1652), ((0, 79), (0, 212, 0), 1187), ((0, 81), (1, 207, 11), 1666), ((0, 82), (0, 215, 0), 1210), ((0, 84), (1, 177, 11), 1670), ((0, 85), (1, 1, 0), 553), ((0, 88), (1, 29, 11), 1702), ((0, 89), (1, 3, 0), 557), ((0, 92), (1, 37, 11), 1706)]
def zt_mthL8 : List ((Nat × Nat) × (Nat × Nat × Nat) × Nat) := [((0, 93), (0, 157, 0), 1254), ((0, 95), (1, 91, 11), 1710), ((0, 96), (1, 165, 0), 561), ((0, 99), (1, 178, 11), 1714), ((0, 100), (0, 213, 0), 1277), ((0, 102), (1, 141, 11), 1730), ((0, 103), (1, 112, 0), 596), ((0, 106), (1, 97, 11), 1740), ((0, 107), (1, 75, 0), 610), ((0, 110), (1, 31, 11), 1604), ((1, 1), (3, 0, 0), 1311), ((1, 141), (0, 36, 0), 1573), ((1, 155), (0, 88, 0), 1568), ((1, 168), (0, 50, 0), 1579), ((1, 178), (0, 38, 0), 1526), ((1, 186), (1, 93, 11), 1561), ((1, 196), (1, 128, 11), 1557), ((1, 209), (1, 92, 11), 1545), ((1, 212), (1, 49, 11), 1549), ((1, 216), (1, 47, 11), 1510), ((1, 219), (1, 40, 11), 1514), ((1, 223), (1, 159, 11), 1518), ((1, 227), (1, 158, 11), 1588), ((1, 230), (1, 34, 11), 1529)]
def zt_mthL9 : List ((Nat × Nat) × (Nat × Nat × Nat) × Nat) := [((1, 234), (1, 98, 11), 1522), ((1, 237), (1, 46, 11), 1533), ((1, 241), (1, 43, 11), 1537), ((1, 244), (1, 124, 11), 1541), ((1, 247), (1, 140, 11), 1553), ((1, 249), (0, 126, 0), 1565), ((1, 255), (1, 35, 11), 1584), ((1, 259), (1, 39, 11), 1592), ((1, 271), (1, 42, 11), 1620), ((1, 275), (1, 89, 11), 1616), ((1, 279), (1, 90, 11), 1624), ((1, 292), (1, 139, 11), 1628), ((1, 298), (1, 44, 11), 1632), ((1, 302), (1, 94, 11), 1636), ((1, 306), (1, 127, 11), 1640), ((1, 309), (1, 95, 11), 1644), ((1, 312), (1, 160, 11), 1612), ((1, 320), (1, 182, 11), 1662), ((1, 324), (1, 197, 11), 1656), ((1, 330), (1, 41, 11), 1685), ((1, 337), (1, 30, 11), 1674), ((1, 343), (1, 96, 11), 1681), ((1, 346), (1, 125, 11), 1689), ((1, 351), (1, 28, 11), 1693)]
def zt_mthL10 : List ((Nat × Nat) × (Nat × Nat × Nat) × Nat) := [((1, 354), (1, 87, 11), 1697), ((1, 368), (1, 123, 11), 1722), ((1, 371), (0, 32, 0), 1727), ((1, 374), (1, 129, 11), 1734), ((15, 3), (3, 0, 0), 109), ((15, 83), (1, 54, 1), 289), ((15, 100), (1, 142, 1), 254), ((15, 104), (1, 130, 1), 258), ((15, 108), (0, 107, 0), 273), ((15, 114), (0, 109, 0), 262), ((15, 191), (0, 67, 0), 294), ((16, 1), (3, 0, 0), 645), ((16, 54), (0, 133, 0), 653), ((16, 335), (1, 64, 2), 420), ((16, 489), (2, 143, 2), 642), ((16, 492), (1, 66, 2), 433), ((16, 495), (0, 132, 0), 495), ((16, 505), (1, 103, 2), 437), ((16, 521), (0, 99, 0), 870), ((16, 541), (0, 69, 0), 512), ((16, 549), (1, 105, 1), 651), ((16, 552), (1, 53, 1), 646), ((16, 633), (1, 131, 2), 429), ((16, 637), (0, 106, 0), 438)]
def zt_mthL11 : List ((Nat × Nat) × (Nat × Nat × Nat) × Nat) := [((16, 681), (1, 164, 2), 916), ((16, 685), (0, 146, 0), 871), ((16, 1047), (1, 54, 1), 652), ((16, 1059), (0, 74, 0), 339), ((16, 1062), (0, 73, 0), 464), ((16, 1065), (0, 72, 0), 318), ((14, 1), (2, 52, 1), 106), ((14, 50), (2, 161, 1), 251), ((14, 137), (2, 163, 2), 639), ((14, 333), (2, 162, 1), 812), ((14, 343), (2, 55, 1), 244), ((17, 9), (0, 101, 0), 498), ((17, 38), (0, 62, 0), 445), ((17, 88), (0, 68, 0), 441), ((17, 92), (0, 61, 0), 444), ((17, 95), (0, 70, 0), 446), ((17, 112), (2, 63, 2), 877), ((17, 232), (0, 133, 0), 876), ((19, 65), (5, 0, 13), 762), ((19, 150), (4, 0, 0), 286), ((19, 304), (0, 62, 0), 283), ((19, 310), (6, 0, 0), 276), ((19, 339), (0, 108, 0), 656), ((19, 343), (0, 71, 0), 659)]
def zt_mthL12 : List ((Nat × Nat) × (Nat × Nat × Nat) × Nat) := [((20, 194), (0, 61, 0), 265)]
def zt_mthL : List ((Nat × Nat) × (Nat × Nat × Nat) × Nat) := zt_mthL0 ++ (zt_mthL1 ++ (zt_mthL2 ++ (zt_mthL3 ++ (zt_mthL4 ++ (zt_mthL5 ++ (zt_mthL6 ++ (zt_mthL7 ++ (zt_mthL8 ++ (zt_mthL9 ++ (zt_mthL10 ++ (zt_mthL11 ++ (zt_mthL12
))))))))))))
def zt_mth (o k : Nat) : Option (Nat × Nat × Nat) := (zt_lk zt_mthL o k).map (fun q => q.1)
/-- handlers: method, from, to, handler, class -/
def zt_hdL : List (Nat × Nat × Nat × Nat × Nat) := [(157, 0, 11, 14, 12), (157, 0, 11, 18, 13), (176, 0, 11, 14, 12), (176, 0, 11, 18, 13), (212, 0, 10, 13, 14), (213, 0, 7, 10, 13), (215, 0, 8, 11, 12), (217, 0, 8, 11, 13), (217, 0, 8, 14, 12)]
def zt_hnd (i pc c : Nat) : Option Nat := (zt_hdL.find? (fun q => q.1 == i && decide (q.2.1 ≤ pc) && decide (pc < q.2.2.1) && q.2.2.2.2 == c)).map (fun q => q.2.2.2.1)
