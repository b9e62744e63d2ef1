def cT0 : cTb := [(1, (1, 0, 0, [(1, (1, 0, 0, 46, false)), (2, (1, 0, 0, 47, false)), (3, (1, 0, 0, 47, false)), (4, (0, 0, 40, 0, false))])),
  (2, (2, 0, 0, [(1, (1, 0, 0, 40, false)), (2, (1, 0, 0, 41, false)), (3, (0, 0, 40, 0, false)), (4, (2, 0, 0, 0, false)), (5, (2, 0, 0, 0, false))])),
  (3, (3, 0, 0, [(1, (1, 0, 0, 42, false)), (2, (1, 0, 0, 43, false)), (3, (1, 0, 0, 44, false)), (4, (1, 0, 0, 44, false)), (5, (1, 0, 0, 45, false)), (6, (2, 0, 0, 0, false)), (7, (2, 0, 0, 0, false)), (8, (0, 0, 6, 0, false)), (9, (2, 0, 0, 0, false)), (10, (2, 0, 0, 0, false)), (11, (0, 0, 10, 0, false))])),
  (4, (4, 0, 0, [(1, (1, 0, 0, 48, false)), (2, (2, 0, 0, 0, false))])),
  (5, (5, 0, 0, [(1, (1, 0, 0, 4, false)), (2, (2, 0, 0, 0, false)), (3, (2, 0, 0, 0, false)), (4, (2, 0, 0, 0, false)), (5, (2, 0, 0, 0, false)), (6, (2, 0, 0, 0, false))])),
  (6, (6, 0, 0, [(1, (1, 0, 0, 46, false)), (2, (1, 0, 0, 47, false)), (3, (1, 0, 0, 47, false)), (4, (0, 0, 40, 0, false)), (5, (2, 0, 0, 0, false))])),
  (7, (7, 0, 0, [(1, (1, 0, 0, 44, false)), (2, (0, 0, 6, 0, false)), (3, (2, 0, 0, 0, false)), (4, (0, 0, 1, 0, false)), (5, (0, 0, 1, 0, false))])),
  (8, (8, 0, 0, [(1, (1, 0, 0, 4, false)), (2, (1, 0, 0, 48, false)), (3, (2, 0, 0, 0, false)), (4, (2, 0, 0, 0, false)), (5, (0, 0, 1, 0, false)), (6, (2, 0, 0, 0, false)), (7, (2, 0, 0, 0, false)), (8, (2, 0, 0, 0, false)), (9, (2, 0, 0, 0, false))])),
  (9, (9, 0, 0, [(1, (1, 0, 0, 51, false)), (2, (0, 0, 940, 0, false)), (3, (0, 0, 940, 0, false)), (4, (0, 0, 940, 0, false)), (5, (2, 0, 0, 0, false)), (6, (2, 0, 0, 0, false)), (7, (2, 0, 0, 0, false)), (8, (2, 0, 0, 0, false)), (9, (1, 0, 0, 30, false)), (10, (2, 0, 0, 0, false)), (11, (2, 0, 0, 0, false))])),
  (10, (10, 0, 0, [(1, (1, 0, 0, 2, false)), (2, (1, 0, 0, 5, false)), (3, (1, 0, 0, 8, false)), (4, (1, 0, 0, 8, false)), (5, (1, 0, 0, 7, false)), (6, (1, 0, 0, 3, false)), (7, (1, 0, 0, 6, true)), (8, (1, 0, 0, 34, false)), (9, (2, 0, 0, 0, false)), (10, (2, 0, 0, 0, false)), (11, (2, 0, 0, 0, false))])),
  (11, (11, 0, 0, [(1, (1, 0, 0, 9, false)), (2, (1, 0, 0, 1, false)), (3, (1, 0, 0, 10, false)), (4, (1, 0, 0, 52, false)), (5, (1, 0, 0, 53, false)), (6, (1, 0, 0, 54, false)), (7, (1, 0, 0, 55, false)), (8, (1, 0, 0, 10, false)), (9, (1, 0, 0, 10, true)), (10, (2, 0, 0, 0, false)), (11, (2, 0, 0, 0, false)), (12, (2, 0, 0, 0, false))])),
  (30, (30, 0, 0, [])),
  (31, (31, 6, 6, [])),
  (32, (31, 6, 6, [])),
  (33, (31, 38, 38, [])),
  (34, (22, 0, 240, [])),
  (40, (21, 520, 520, [])),
  (41, (21, 13, 13, [])),
  (42, (21, 6, 6, [])),
  (43, (25, 6, 6, [(6, (1, 0, 0, 30, false))])),
  (44, (21, 6, 6, [])),
  (45, (24, 10, 10, [])),
  (46, (25, 40, 40, [(40, (1, 0, 0, 30, false))])),
  (47, (21, 40, 40, [])),
  (48, (22, 240, 240, [])),
  (51, (22, 940, 940, [])),
  (52, (26, 2, 2, [(2, (1, 0, 0, 10, true))])),
  (53, (26, 8, 8, [(8, (1, 0, 0, 10, true))])),
  (54, (21, 3, 3, [])),
  (55, (21, 4, 4, []))]
/-- Math.min(II)I -/
def ey301 : bY := (⟨"java/lang/Math", "min", "(II)I"⟩, prog_20_method_69_code, (Option.some Jvm.ClassFile.FieldType.int))
theorem emp301 : dk_mp (ey301, 2) 2 := ⟨⟨bW_of (dk_tw_mem (n := 2199) (by decide +kernel)) rfl, bW_of (dk_tw_mem (n := 1016) (by decide +kernel)) rfl, by decide +kernel, by decide +kernel, by decide, by decide +kernel, by decide +kernel⟩, (fun h => absurd h (by decide)), (fun h => absurd h (by decide)), fun _ => bW_of (dk_tw_mem (n := 2198) (by decide +kernel)) rfl⟩
/-- Math.max(II)I -/
def ey300 : bY := (⟨"java/lang/Math", "max", "(II)I"⟩, prog_20_method_65_code, (Option.some Jvm.ClassFile.FieldType.int))
theorem emp300 : dk_mp (ey300, 2) 2 := ⟨⟨bW_of (dk_tw_mem (n := 3211) (by decide +kernel)) rfl, bW_of (dk_tw_mem (n := 1016) (by decide +kernel)) rfl, by decide +kernel, by decide +kernel, by decide, by decide +kernel, by decide +kernel⟩, (fun h => absurd h (by decide)), (fun h => absurd h (by decide)), fun _ => bW_of (dk_tw_mem (n := 3210) (by decide +kernel)) rfl⟩
/-- Arrays.fill([BB)V -/
def ey303 : bY := (⟨"java/util/Arrays", "fill", "([BB)V"⟩, prog_24_method_109_code, (Option.none : Option Jvm.ClassFile.FieldType))
theorem emp303 : dk_mp (ey303, 4) 2 := ⟨⟨bW_of (dk_tw_mem (n := 3092) (by decide +kernel)) rfl, bW_of (dk_tw_mem (n := 1014) (by decide +kernel)) rfl, by decide +kernel, by decide +kernel, by decide, by decide +kernel, by decide +kernel⟩, (fun h => absurd h (by decide)), (fun h => absurd h (by decide)), fun _ => bW_of (dk_tw_mem (n := 3091) (by decide +kernel)) rfl⟩
/-- Places.<init>()V -/
def ey31 : bY := (⟨"SpanCopier$Places", "<init>", "()V"⟩, prog_6_method_1_code, (Option.none : Option Jvm.ClassFile.FieldType))
theorem emp31 : dk_mp (ey31, 1) 1 := ⟨⟨bW_of (dk_tw_mem (n := 1161) (by decide +kernel)) rfl, bW_of (dk_tw_mem (n := 1009) (by decide +kernel)) rfl, by decide +kernel, by decide +kernel, by decide, by decide +kernel, by decide +kernel⟩, (fun h => absurd h (by decide)), fun _ => ⟨bW_of (dk_tw_mem (n := 1160) (by decide +kernel)) rfl, rfl⟩, (fun h => absurd h (by decide))⟩
/-- Places.copyFrom(LSpanCopier.Places;)V -/
def ey32 : bY := (⟨"SpanCopier$Places", "copyFrom", "(LSpanCopier$Places;)V"⟩, prog_6_method_2_code, (Option.none : Option Jvm.ClassFile.FieldType))
theorem emp32 : dk_mp (ey32, 2) 0 := ⟨⟨bW_of (dk_tw_mem (n := 3133) (by decide +kernel)) rfl, bW_of (dk_tw_mem (n := 1009) (by decide +kernel)) rfl, by decide +kernel, by decide +kernel, by decide, by decide +kernel, by decide +kernel⟩, fun _ => ⟨bW_of (dk_tw_mem (n := 3132) (by decide +kernel)) rfl, bW_of (dk_sel (j := 29) (n := _) (by rfl)) rfl⟩, (fun h => absurd h (by decide)), (fun h => absurd h (by decide))⟩
/-- Places.clear()V -/
def ey33 : bY := (⟨"SpanCopier$Places", "clear", "()V"⟩, prog_6_method_3_code, (Option.none : Option Jvm.ClassFile.FieldType))
theorem emp33 : dk_mp (ey33, 1) 0 := ⟨⟨bW_of (dk_tw_mem (n := 3089) (by decide +kernel)) rfl, bW_of (dk_tw_mem (n := 1009) (by decide +kernel)) rfl, by decide +kernel, by decide +kernel, by decide, by decide +kernel, by decide +kernel⟩, fun _ => ⟨bW_of (dk_tw_mem (n := 3088) (by decide +kernel)) rfl, bW_of (dk_sel (j := 22) (n := _) (by rfl)) rfl⟩, (fun h => absurd h (by decide)), (fun h => absurd h (by decide))⟩
/-- Places.has(I)Z -/
def ey34 : bY := (⟨"SpanCopier$Places", "has", "(I)Z"⟩, prog_6_method_4_code, (Option.some Jvm.ClassFile.FieldType.boolean))
theorem emp34 : dk_mp (ey34, 2) 0 := ⟨⟨bW_of (dk_tw_mem (n := 4074) (by decide +kernel)) rfl, bW_of (dk_tw_mem (n := 1009) (by decide +kernel)) rfl, by decide +kernel, by decide +kernel, by decide, by decide +kernel, by decide +kernel⟩, fun _ => ⟨bW_of (dk_tw_mem (n := 4073) (by decide +kernel)) rfl, bW_of (dk_sel (j := 64) (n := _) (by rfl)) rfl⟩, (fun h => absurd h (by decide)), (fun h => absurd h (by decide))⟩
/-- Places.mark(II)V -/
def ey35 : bY := (⟨"SpanCopier$Places", "mark", "(II)V"⟩, prog_6_method_5_code, (Option.none : Option Jvm.ClassFile.FieldType))
theorem emp35 : dk_mp (ey35, 4) 0 := ⟨⟨bW_of (dk_tw_mem (n := 3208) (by decide +kernel)) rfl, bW_of (dk_tw_mem (n := 1009) (by decide +kernel)) rfl, by decide +kernel, by decide +kernel, by decide, by decide +kernel, by decide +kernel⟩, fun _ => ⟨bW_of (dk_tw_mem (n := 3207) (by decide +kernel)) rfl, bW_of (dk_sel (j := 42) (n := _) (by rfl)) rfl⟩, (fun h => absurd h (by decide)), (fun h => absurd h (by decide))⟩
/-- Places.unmark(II)Z -/
def ey36 : bY := (⟨"SpanCopier$Places", "unmark", "(II)Z"⟩, prog_6_method_6_code, (Option.some Jvm.ClassFile.FieldType.boolean))
theorem emp36 : dk_mp (ey36, 5) 0 := ⟨⟨bW_of (dk_tw_mem (n := 3237) (by decide +kernel)) rfl, bW_of (dk_tw_mem (n := 1009) (by decide +kernel)) rfl, by decide +kernel, by decide +kernel, by decide, by decide +kernel, by decide +kernel⟩, fun _ => ⟨bW_of (dk_tw_mem (n := 3236) (by decide +kernel)) rfl, bW_of (dk_sel (j := 48) (n := _) (by rfl)) rfl⟩, (fun h => absurd h (by decide)), (fun h => absurd h (by decide))⟩
/-- Places.nextFrom(I)I -/
def ey37 : bY := (⟨"SpanCopier$Places", "nextFrom", "(I)I"⟩, prog_6_method_7_code, (Option.some Jvm.ClassFile.FieldType.int))
theorem emp37 : dk_mp (ey37, 3) 0 := ⟨⟨bW_of (dk_tw_mem (n := 3219) (by decide +kernel)) rfl, bW_of (dk_tw_mem (n := 1009) (by decide +kernel)) rfl, by decide +kernel, by decide +kernel, by decide, by decide +kernel, by decide +kernel⟩, fun _ => ⟨bW_of (dk_tw_mem (n := 3218) (by decide +kernel)) rfl, bW_of (dk_sel (j := 44) (n := _) (by rfl)) rfl⟩, (fun h => absurd h (by decide)), (fun h => absurd h (by decide))⟩
/-- Places.endOf(I)I -/
def ey38 : bY := (⟨"SpanCopier$Places", "endOf", "(I)I"⟩, prog_6_method_8_code, (Option.some Jvm.ClassFile.FieldType.int))
theorem emp38 : dk_mp (ey38, 3) 0 := ⟨⟨bW_of (dk_tw_mem (n := 3223) (by decide +kernel)) rfl, bW_of (dk_tw_mem (n := 1009) (by decide +kernel)) rfl, by decide +kernel, by decide +kernel, by decide, by decide +kernel, by decide +kernel⟩, fun _ => ⟨bW_of (dk_tw_mem (n := 3222) (by decide +kernel)) rfl, bW_of (dk_sel (j := 45) (n := _) (by rfl)) rfl⟩, (fun h => absurd h (by decide)), (fun h => absurd h (by decide))⟩
/-- Places.startsSpan(I)Z -/
def ey39 : bY := (⟨"SpanCopier$Places", "startsSpan", "(I)Z"⟩, prog_6_method_9_code, (Option.some Jvm.ClassFile.FieldType.boolean))
theorem emp39 : dk_mp (ey39, 2) 0 := ⟨⟨bW_of (dk_tw_mem (n := 4174) (by decide +kernel)) rfl, bW_of (dk_tw_mem (n := 1009) (by decide +kernel)) rfl, by decide +kernel, by decide +kernel, by decide, by decide +kernel, by decide +kernel⟩, fun _ => ⟨bW_of (dk_tw_mem (n := 4173) (by decide +kernel)) rfl, bW_of (dk_sel (j := 79) (n := _) (by rfl)) rfl⟩, (fun h => absurd h (by decide)), (fun h => absurd h (by decide))⟩
/-- Places.countSpans()I -/
def ey40 : bY := (⟨"SpanCopier$Places", "countSpans", "()I"⟩, prog_6_method_10_code, (Option.some Jvm.ClassFile.FieldType.int))
theorem emp40 : dk_mp (ey40, 3) 0 := ⟨⟨bW_of (dk_tw_mem (n := 4170) (by decide +kernel)) rfl, bW_of (dk_tw_mem (n := 1009) (by decide +kernel)) rfl, by decide +kernel, by decide +kernel, by decide, by decide +kernel, by decide +kernel⟩, fun _ => ⟨bW_of (dk_tw_mem (n := 4169) (by decide +kernel)) rfl, bW_of (dk_sel (j := 78) (n := _) (by rfl)) rfl⟩, (fun h => absurd h (by decide)), (fun h => absurd h (by decide))⟩
/-- Places.edge(II)I -/
def ey41 : bY := (⟨"SpanCopier$Places", "edge", "(II)I"⟩, prog_6_method_11_code, (Option.some Jvm.ClassFile.FieldType.int))
theorem emp41 : dk_mp (ey41, 5) 0 := ⟨⟨bW_of (dk_tw_mem (n := 4191) (by decide +kernel)) rfl, bW_of (dk_tw_mem (n := 1009) (by decide +kernel)) rfl, by decide +kernel, by decide +kernel, by decide, by decide +kernel, by decide +kernel⟩, fun _ => ⟨bW_of (dk_tw_mem (n := 4190) (by decide +kernel)) rfl, bW_of (dk_sel (j := 80) (n := _) (by rfl)) rfl⟩, (fun h => absurd h (by decide)), (fun h => absurd h (by decide))⟩
/-- Link.<init>()V -/
def ey5 : bY := (⟨"SpanCopier$Link", "<init>", "()V"⟩, prog_4_method_1_code, (Option.none : Option Jvm.ClassFile.FieldType))
theorem emp5 : dk_mp (ey5, 1) 1 := ⟨⟨bW_of (dk_tw_mem (n := 1126) (by decide +kernel)) rfl, bW_of (dk_tw_mem (n := 1007) (by decide +kernel)) rfl, by decide +kernel, by decide +kernel, by decide, by decide +kernel, by decide +kernel⟩, (fun h => absurd h (by decide)), fun _ => ⟨bW_of (dk_tw_mem (n := 1125) (by decide +kernel)) rfl, rfl⟩, (fun h => absurd h (by decide))⟩
/-- Link.clear()V -/
def ey6 : bY := (⟨"SpanCopier$Link", "clear", "()V"⟩, prog_4_method_2_code, (Option.none : Option Jvm.ClassFile.FieldType))
theorem emp6 : dk_mp (ey6, 1) 0 := ⟨⟨bW_of (dk_tw_mem (n := 3081) (by decide +kernel)) rfl, bW_of (dk_tw_mem (n := 1007) (by decide +kernel)) rfl, by decide +kernel, by decide +kernel, by decide, by decide +kernel, by decide +kernel⟩, fun _ => ⟨bW_of (dk_tw_mem (n := 3080) (by decide +kernel)) rfl, bW_of (dk_sel (j := 20) (n := _) (by rfl)) rfl⟩, (fun h => absurd h (by decide)), (fun h => absurd h (by decide))⟩
/-- Link.goesOut(I)Z -/
def ey8 : bY := (⟨"SpanCopier$Link", "goesOut", "(I)Z"⟩, prog_4_method_4_code, (Option.some Jvm.ClassFile.FieldType.boolean))
theorem emp8 : dk_mp (ey8, 1) 2 := ⟨⟨bW_of (dk_tw_mem (n := 3196) (by decide +kernel)) rfl, bW_of (dk_tw_mem (n := 1007) (by decide +kernel)) rfl, by decide +kernel, by decide +kernel, by decide, by decide +kernel, by decide +kernel⟩, (fun h => absurd h (by decide)), (fun h => absurd h (by decide)), fun _ => bW_of (dk_tw_mem (n := 3195) (by decide +kernel)) rfl⟩
/-- Link.spanFrom(I)I -/
def ey9 : bY := (⟨"SpanCopier$Link", "spanFrom", "(I)I"⟩, prog_4_method_5_code, (Option.some Jvm.ClassFile.FieldType.int))
theorem emp9 : dk_mp (ey9, 1) 2 := ⟨⟨bW_of (dk_tw_mem (n := 4022) (by decide +kernel)) rfl, bW_of (dk_tw_mem (n := 1007) (by decide +kernel)) rfl, by decide +kernel, by decide +kernel, by decide, by decide +kernel, by decide +kernel⟩, (fun h => absurd h (by decide)), (fun h => absurd h (by decide)), fun _ => bW_of (dk_tw_mem (n := 4021) (by decide +kernel)) rfl⟩
/-- Link.spanTo(I)I -/
def ey10 : bY := (⟨"SpanCopier$Link", "spanTo", "(I)I"⟩, prog_4_method_6_code, (Option.some Jvm.ClassFile.FieldType.int))
theorem emp10 : dk_mp (ey10, 1) 2 := ⟨⟨bW_of (dk_tw_mem (n := 4025) (by decide +kernel)) rfl, bW_of (dk_tw_mem (n := 1007) (by decide +kernel)) rfl, by decide +kernel, by decide +kernel, by decide, by decide +kernel, by decide +kernel⟩, (fun h => absurd h (by decide)), (fun h => absurd h (by decide)), fun _ => bW_of (dk_tw_mem (n := 4024) (by decide +kernel)) rfl⟩
/-- Link.has(I)Z -/
def ey11 : bY := (⟨"SpanCopier$Link", "has", "(I)Z"⟩, prog_4_method_7_code, (Option.some Jvm.ClassFile.FieldType.boolean))
theorem emp11 : dk_mp (ey11, 2) 0 := ⟨⟨bW_of (dk_tw_mem (n := 3185) (by decide +kernel)) rfl, bW_of (dk_tw_mem (n := 1007) (by decide +kernel)) rfl, by decide +kernel, by decide +kernel, by decide, by decide +kernel, by decide +kernel⟩, fun _ => ⟨bW_of (dk_tw_mem (n := 3184) (by decide +kernel)) rfl, bW_of (dk_sel (j := 37) (n := _) (by rfl)) rfl⟩, (fun h => absurd h (by decide)), (fun h => absurd h (by decide))⟩
/-- Link.copyFrom(LSpanCopier.Link;)V -/
def ey7 : bY := (⟨"SpanCopier$Link", "copyFrom", "(LSpanCopier$Link;)V"⟩, prog_4_method_3_code, (Option.none : Option Jvm.ClassFile.FieldType))
theorem emp7 : dk_mp (ey7, 2) 0 := ⟨⟨bW_of (dk_tw_mem (n := 3124) (by decide +kernel)) rfl, bW_of (dk_tw_mem (n := 1007) (by decide +kernel)) rfl, by decide +kernel, by decide +kernel, by decide, by decide +kernel, by decide +kernel⟩, fun _ => ⟨bW_of (dk_tw_mem (n := 3123) (by decide +kernel)) rfl, bW_of (dk_sel (j := 27) (n := _) (by rfl)) rfl⟩, (fun h => absurd h (by decide)), (fun h => absurd h (by decide))⟩
/-- Link.get(II)I -/
def ey12 : bY := (⟨"SpanCopier$Link", "get", "(II)I"⟩, prog_4_method_8_code, (Option.some Jvm.ClassFile.FieldType.int))
theorem emp12 : dk_mp (ey12, 3) 0 := ⟨⟨bW_of (dk_tw_mem (n := 3181) (by decide +kernel)) rfl, bW_of (dk_tw_mem (n := 1007) (by decide +kernel)) rfl, by decide +kernel, by decide +kernel, by decide, by decide +kernel, by decide +kernel⟩, fun _ => ⟨bW_of (dk_tw_mem (n := 3180) (by decide +kernel)) rfl, bW_of (dk_sel (j := 36) (n := _) (by rfl)) rfl⟩, (fun h => absurd h (by decide)), (fun h => absurd h (by decide))⟩
/-- Link.send(III)V -/
def ey13 : bY := (⟨"SpanCopier$Link", "send", "(III)V"⟩, prog_4_method_9_code, (Option.none : Option Jvm.ClassFile.FieldType))
theorem emp13 : dk_mp (ey13, 5) 0 := ⟨⟨bW_of (dk_tw_mem (n := 3228) (by decide +kernel)) rfl, bW_of (dk_tw_mem (n := 1007) (by decide +kernel)) rfl, by decide +kernel, by decide +kernel, by decide, by decide +kernel, by decide +kernel⟩, fun _ => ⟨bW_of (dk_tw_mem (n := 3227) (by decide +kernel)) rfl, bW_of (dk_sel (j := 46) (n := _) (by rfl)) rfl⟩, (fun h => absurd h (by decide)), (fun h => absurd h (by decide))⟩
/-- Link.sendNak(LSpanCopier.Places;II)V -/
def ey14 : bY := (⟨"SpanCopier$Link", "sendNak", "(LSpanCopier$Places;II)V"⟩, prog_4_method_10_code, (Option.none : Option Jvm.ClassFile.FieldType))
theorem emp14 : dk_mp (ey14, 7) 0 := ⟨⟨bW_of (dk_tw_mem (n := 3215) (by decide +kernel)) rfl, bW_of (dk_tw_mem (n := 1007) (by decide +kernel)) rfl, by decide +kernel, by decide +kernel, by decide, by decide +kernel, by decide +kernel⟩, fun _ => ⟨bW_of (dk_tw_mem (n := 3214) (by decide +kernel)) rfl, bW_of (dk_sel (j := 43) (n := _) (by rfl)) rfl⟩, (fun h => absurd h (by decide)), (fun h => absurd h (by decide))⟩
/-- Link.remove(I)I -/
def ey16 : bY := (⟨"SpanCopier$Link", "remove", "(I)I"⟩, prog_4_method_12_code, (Option.some Jvm.ClassFile.FieldType.int))
theorem emp16 : dk_mp (ey16, 3) 0 := ⟨⟨bW_of (dk_tw_mem (n := 3193) (by decide +kernel)) rfl, bW_of (dk_tw_mem (n := 1007) (by decide +kernel)) rfl, by decide +kernel, by decide +kernel, by decide, by decide +kernel, by decide +kernel⟩, fun _ => ⟨bW_of (dk_tw_mem (n := 3192) (by decide +kernel)) rfl, bW_of (dk_sel (j := 39) (n := _) (by rfl)) rfl⟩, (fun h => absurd h (by decide)), (fun h => absurd h (by decide))⟩
/-- Link.take(I)V -/
def ey15 : bY := (⟨"SpanCopier$Link", "take", "(I)V"⟩, prog_4_method_11_code, (Option.none : Option Jvm.ClassFile.FieldType))
theorem emp15 : dk_mp (ey15, 2) 0 := ⟨⟨bW_of (dk_tw_mem (n := 3189) (by decide +kernel)) rfl, bW_of (dk_tw_mem (n := 1007) (by decide +kernel)) rfl, by decide +kernel, by decide +kernel, by decide, by decide +kernel, by decide +kernel⟩, fun _ => ⟨bW_of (dk_tw_mem (n := 3188) (by decide +kernel)) rfl, bW_of (dk_sel (j := 38) (n := _) (by rfl)) rfl⟩, (fun h => absurd h (by decide)), (fun h => absurd h (by decide))⟩
/-- Link.repeat(I)I -/
def ey17 : bY := (⟨"SpanCopier$Link", "repeat", "(I)I"⟩, prog_4_method_13_code, (Option.some Jvm.ClassFile.FieldType.int))
theorem emp17 : dk_mp (ey17, 2) 0 := ⟨⟨bW_of (dk_tw_mem (n := 4119) (by decide +kernel)) rfl, bW_of (dk_tw_mem (n := 1007) (by decide +kernel)) rfl, by decide +kernel, by decide +kernel, by decide, by decide +kernel, by decide +kernel⟩, fun _ => ⟨bW_of (dk_tw_mem (n := 4118) (by decide +kernel)) rfl, bW_of (dk_sel (j := 72) (n := _) (by rfl)) rfl⟩, (fun h => absurd h (by decide)), (fun h => absurd h (by decide))⟩
/-- Link.delay(II)I -/
def ey18 : bY := (⟨"SpanCopier$Link", "delay", "(II)I"⟩, prog_4_method_14_code, (Option.some Jvm.ClassFile.FieldType.int))
theorem emp18 : dk_mp (ey18, 3) 0 := ⟨⟨bW_of (dk_tw_mem (n := 4127) (by decide +kernel)) rfl, bW_of (dk_tw_mem (n := 1007) (by decide +kernel)) rfl, by decide +kernel, by decide +kernel, by decide, by decide +kernel, by decide +kernel⟩, fun _ => ⟨bW_of (dk_tw_mem (n := 4126) (by decide +kernel)) rfl, bW_of (dk_sel (j := 73) (n := _) (by rfl)) rfl⟩, (fun h => absurd h (by decide)), (fun h => absurd h (by decide))⟩
/-- Link.flip(I)I -/
def ey19 : bY := (⟨"SpanCopier$Link", "flip", "(I)I"⟩, prog_4_method_15_code, (Option.some Jvm.ClassFile.FieldType.int))
theorem emp19 : dk_mp (ey19, 2) 0 := ⟨⟨bW_of (dk_tw_mem (n := 4135) (by decide +kernel)) rfl, bW_of (dk_tw_mem (n := 1007) (by decide +kernel)) rfl, by decide +kernel, by decide +kernel, by decide, by decide +kernel, by decide +kernel⟩, fun _ => ⟨bW_of (dk_tw_mem (n := 4134) (by decide +kernel)) rfl, bW_of (dk_sel (j := 74) (n := _) (by rfl)) rfl⟩, (fun h => absurd h (by decide)), (fun h => absurd h (by decide))⟩
def ek301 : List cN := [(0, .iload_n 0, 1, 0, 0, 0, 0, 0),
  (1, .iload_n 1, 1, 0, 0, 0, 0, 0),
  (2, .if_icmp .gt 7, 3, 0, 0, 0, 0, 0),
  (5, .iload_n 0, 1, 0, 0, 0, 0, 0),
  (6, .goto 4, 3, 0, 0, 0, 0, 0),
  (9, .iload_n 1, 1, 0, 0, 0, 0, 0),
  (10, .ireturn, 1, 0, 0, 0, 0, 0)]
def eg301 : List (bY × Nat) := []
theorem eG301 : dk_G eg301 [] := dk_G_nil
theorem eh301 : ∀ e ∈ ek301, dk_ck ey301 eg301 [] e = true := by decide +kernel
theorem ec301 : ∀ e ∈ ek301, dk_ok ey301 eg301 e := fun e he => dk_ck_ok eG301 (eh301 e he)
def ek300 : List cN := [(0, .iload_n 0, 1, 0, 0, 0, 0, 0),
  (1, .iload_n 1, 1, 0, 0, 0, 0, 0),
  (2, .if_icmp .lt 7, 3, 0, 0, 0, 0, 0),
  (5, .iload_n 0, 1, 0, 0, 0, 0, 0),
  (6, .goto 4, 3, 0, 0, 0, 0, 0),
  (9, .iload_n 1, 1, 0, 0, 0, 0, 0),
  (10, .ireturn, 1, 0, 0, 0, 0, 0)]
def eg300 : List (bY × Nat) := []
theorem eG300 : dk_G eg300 [] := dk_G_nil
theorem eh300 : ∀ e ∈ ek300, dk_ck ey300 eg300 [] e = true := by decide +kernel
theorem ec300 : ∀ e ∈ ek300, dk_ok ey300 eg300 e := fun e he => dk_ck_ok eG300 (eh300 e he)
def ek303 : List cN := [(0, .iconst 0, 1, 0, 0, 0, 0, 0),
  (1, .istore_n 2, 1, 0, 0, 0, 0, 0),
  (2, .aload_n 0, 1, 0, 0, 0, 0, 0),
  (3, .arraylength, 1, 0, 0, 0, 0, 0),
  (4, .istore_n 3, 1, 0, 0, 0, 0, 0),
  (5, .iload_n 2, 1, 0, 0, 0, 0, 0),
  (6, .iload_n 3, 1, 0, 0, 0, 0, 0),
  (7, .if_icmp .ge 13, 3, 0, 0, 0, 0, 0),
  (10, .aload_n 0, 1, 0, 0, 0, 0, 0),
  (11, .iload_n 2, 1, 0, 0, 0, 0, 0),
  (12, .iload_n 1, 1, 0, 0, 0, 0, 0),
  (13, .bastore, 1, 0, 0, 0, 0, 0),
  (14, .iinc 2 1, 3, 0, 0, 0, 0, 0),
  (17, .goto (-12), 3, 0, 0, 0, 0, 0),
  (20, .return_, 1, 0, 0, 0, 0, 0)]
def eg303 : List (bY × Nat) := []
theorem eG303 : dk_G eg303 [] := dk_G_nil
theorem eh303 : ∀ e ∈ ek303, dk_ck ey303 eg303 [] e = true := by decide +kernel
theorem ec303 : ∀ e ∈ ek303, dk_ok ey303 eg303 e := fun e he => dk_ck_ok eG303 (eh303 e he)
def ek31 : List cN := [(0, .aload_n 0, 1, 0, 0, 0, 0, 0),
  (1, .invokespecial 3, 3, 0, 1, 7, 1162, 0),
  (4, .aload_n 0, 1, 0, 0, 0, 0, 0),
  (5, .sipush 240, 3, 0, 0, 0, 0, 0),
  (8, .newarray .byte, 2, 22, 48, 0, 0, 0),
  (10, .putfield 9, 3, 0, 3, 2, 1163, 2),
  (13, .return_, 1, 0, 0, 0, 0, 0)]
def eg31 : List (bY × Nat) := []
theorem eG31 : dk_G eg31 [] := dk_G_nil
theorem eh31 : ∀ e ∈ ek31, dk_ck ey31 eg31 [] e = true := by decide +kernel
theorem ec31 : ∀ e ∈ ek31, dk_ok ey31 eg31 e := fun e he => dk_ck_ok eG31 (eh31 e he)
def ek32 : List cN := [(0, .aload_n 0, 1, 0, 0, 0, 0, 0),
  (1, .getfield 15, 3, 1, 3, 0, 1164, 0),
  (4, .ifCond .ne 10, 3, 0, 0, 0, 0, 0),
  (7, .aload_n 1, 1, 0, 0, 0, 0, 0),
  (8, .getfield 15, 3, 1, 3, 0, 1164, 0),
  (11, .ifCond .eq 19, 3, 0, 0, 0, 0, 0),
  (14, .aload_n 1, 1, 0, 0, 0, 0, 0),
  (15, .getfield 9, 3, 0, 3, 0, 1163, 2),
  (18, .iconst 0, 1, 0, 0, 0, 0, 0),
  (19, .aload_n 0, 1, 0, 0, 0, 0, 0),
  (20, .getfield 9, 3, 0, 3, 0, 1163, 2),
  (23, .iconst 0, 1, 0, 0, 0, 0, 0),
  (24, .sipush 240, 3, 0, 0, 0, 0, 0),
  (27, .invokestatic 19, 3, 0, 5, 8, 3134, 0),
  (30, .aload_n 0, 1, 0, 0, 0, 0, 0),
  (31, .aload_n 1, 1, 0, 0, 0, 0, 0),
  (32, .getfield 15, 3, 1, 3, 0, 1164, 0),
  (35, .putfield 15, 3, 1, 3, 0, 1164, 0),
  (38, .return_, 1, 0, 0, 0, 0, 0)]
def eg32 : List (bY × Nat) := []
theorem eG32 : dk_G eg32 [] := dk_G_nil
theorem eh32 : ∀ e ∈ ek32, dk_ck ey32 eg32 [] e = true := by decide +kernel
theorem ec32 : ∀ e ∈ ek32, dk_ok ey32 eg32 e := fun e he => dk_ck_ok eG32 (eh32 e he)
def ek33 : List cN := [(0, .aload_n 0, 1, 0, 0, 0, 0, 0),
  (1, .getfield 9, 3, 0, 3, 0, 1163, 2),
  (4, .iconst 0, 1, 0, 0, 0, 0, 0),
  (5, .invokestatic 25, 3, 0, 2, 5, 3090, 0),
  (8, .aload_n 0, 1, 0, 0, 0, 0, 0),
  (9, .iconst 0, 1, 0, 0, 0, 0, 0),
  (10, .putfield 15, 3, 1, 3, 0, 1164, 0),
  (13, .return_, 1, 0, 0, 0, 0, 0)]
def eg33 : List (bY × Nat) := [(ey303, 4)]
theorem eG33 : dk_G eg33 [2] := dk_G_cons emp303 (dk_G_nil)
theorem eh33 : ∀ e ∈ ek33, dk_ck ey33 eg33 [2] e = true := by decide +kernel
theorem ec33 : ∀ e ∈ ek33, dk_ok ey33 eg33 e := fun e he => dk_ck_ok eG33 (eh33 e he)
def ek34 : List cN := [(0, .iload_n 1, 1, 0, 0, 0, 0, 0),
  (1, .ifCond .lt 24, 3, 0, 0, 0, 0, 0),
  (4, .iload_n 1, 1, 0, 0, 0, 0, 0),
  (5, .sipush 240, 3, 0, 0, 0, 0, 0),
  (8, .if_icmp .ge 17, 3, 0, 0, 0, 0, 0),
  (11, .aload_n 0, 1, 0, 0, 0, 0, 0),
  (12, .getfield 9, 3, 0, 3, 0, 1163, 2),
  (15, .iload_n 1, 1, 0, 0, 0, 0, 0),
  (16, .baload, 1, 0, 0, 0, 0, 0),
  (17, .iconst 1, 1, 0, 0, 0, 0, 0),
  (18, .if_icmp .ne 7, 3, 0, 0, 0, 0, 0),
  (21, .iconst 1, 1, 0, 0, 0, 0, 0),
  (22, .goto 4, 3, 0, 0, 0, 0, 0),
  (25, .iconst 0, 1, 0, 0, 0, 0, 0),
  (26, .ireturn, 1, 1, 0, 0, 0, 0)]
def eg34 : List (bY × Nat) := []
theorem eG34 : dk_G eg34 [] := dk_G_nil
theorem eh34 : ∀ e ∈ ek34, dk_ck ey34 eg34 [] e = true := by decide +kernel
theorem ec34 : ∀ e ∈ ek34, dk_ok ey34 eg34 e := fun e he => dk_ck_ok eG34 (eh34 e he)
def ek35 : List cN := [(0, .iload_n 1, 1, 0, 0, 0, 0, 0),
  (1, .iconst 0, 1, 0, 0, 0, 0, 0),
  (2, .invokestatic 31, 3, 0, 2, 5, 3209, 0),
  (5, .istore_n 3, 1, 0, 0, 0, 0, 0),
  (6, .iload_n 3, 1, 0, 0, 0, 0, 0),
  (7, .iload_n 2, 1, 0, 0, 0, 0, 0),
  (8, .if_icmp .ge 40, 3, 0, 0, 0, 0, 0),
  (11, .iload_n 3, 1, 0, 0, 0, 0, 0),
  (12, .sipush 240, 3, 0, 0, 0, 0, 0),
  (15, .if_icmp .ge 33, 3, 0, 0, 0, 0, 0),
  (18, .aload_n 0, 1, 0, 0, 0, 0, 0),
  (19, .dup, 1, 0, 0, 0, 0, 0),
  (20, .getfield 15, 3, 1, 3, 0, 1164, 0),
  (23, .iconst 1, 1, 0, 0, 0, 0, 0),
  (24, .aload_n 0, 1, 0, 0, 0, 0, 0),
  (25, .getfield 9, 3, 0, 3, 0, 1163, 2),
  (28, .iload_n 3, 1, 0, 0, 0, 0, 0),
  (29, .baload, 1, 0, 0, 0, 0, 0),
  (30, .isub, 1, 0, 0, 0, 0, 0),
  (31, .iadd, 1, 0, 0, 0, 0, 0),
  (32, .putfield 15, 3, 1, 3, 0, 1164, 0),
  (35, .aload_n 0, 1, 0, 0, 0, 0, 0),
  (36, .getfield 9, 3, 0, 3, 0, 1163, 2),
  (39, .iload_n 3, 1, 0, 0, 0, 0, 0),
  (40, .iconst 1, 1, 0, 0, 0, 0, 0),
  (41, .bastore, 1, 0, 0, 0, 0, 0),
  (42, .iinc 3 1, 3, 0, 0, 0, 0, 0),
  (45, .goto (-39), 3, 0, 0, 0, 0, 0),
  (48, .return_, 1, 0, 0, 0, 0, 0)]
def eg35 : List (bY × Nat) := [(ey300, 2)]
theorem eG35 : dk_G eg35 [2] := dk_G_cons emp300 (dk_G_nil)
theorem eh35 : ∀ e ∈ ek35, dk_ck ey35 eg35 [2] e = true := by decide +kernel
theorem ec35 : ∀ e ∈ ek35, dk_ok ey35 eg35 e := fun e he => dk_ck_ok eG35 (eh35 e he)
def ek36 : List cN := [(0, .aload_n 0, 1, 0, 0, 0, 0, 0),
  (1, .getfield 15, 3, 1, 3, 0, 1164, 0),
  (4, .istore_n 3, 1, 0, 0, 0, 0, 0),
  (5, .iload_n 1, 1, 0, 0, 0, 0, 0),
  (6, .iconst 0, 1, 0, 0, 0, 0, 0),
  (7, .invokestatic 31, 3, 0, 2, 5, 3209, 0),
  (10, .istore 4, 2, 0, 0, 0, 0, 0),
  (12, .iload 4, 2, 0, 0, 0, 0, 0),
  (14, .iload_n 2, 1, 0, 0, 0, 0, 0),
  (15, .if_icmp .ge 41, 3, 0, 0, 0, 0, 0),
  (18, .iload 4, 2, 0, 0, 0, 0, 0),
  (20, .sipush 240, 3, 0, 0, 0, 0, 0),
  (23, .if_icmp .ge 33, 3, 0, 0, 0, 0, 0),
  (26, .aload_n 0, 1, 0, 0, 0, 0, 0),
  (27, .dup, 1, 0, 0, 0, 0, 0),
  (28, .getfield 15, 3, 1, 3, 0, 1164, 0),
  (31, .aload_n 0, 1, 0, 0, 0, 0, 0),
  (32, .getfield 9, 3, 0, 3, 0, 1163, 2),
  (35, .iload 4, 2, 0, 0, 0, 0, 0),
  (37, .baload, 1, 0, 0, 0, 0, 0),
  (38, .isub, 1, 0, 0, 0, 0, 0),
  (39, .putfield 15, 3, 1, 3, 0, 1164, 0),
  (42, .aload_n 0, 1, 0, 0, 0, 0, 0),
  (43, .getfield 9, 3, 0, 3, 0, 1163, 2),
  (46, .iload 4, 2, 0, 0, 0, 0, 0),
  (48, .iconst 0, 1, 0, 0, 0, 0, 0),
  (49, .bastore, 1, 0, 0, 0, 0, 0),
  (50, .iinc 4 1, 3, 0, 0, 0, 0, 0),
  (53, .goto (-41), 3, 0, 0, 0, 0, 0),
  (56, .aload_n 0, 1, 0, 0, 0, 0, 0),
  (57, .getfield 15, 3, 1, 3, 0, 1164, 0),
  (60, .iload_n 3, 1, 0, 0, 0, 0, 0),
  (61, .if_icmp .ge 7, 3, 0, 0, 0, 0, 0),
  (64, .iconst 1, 1, 0, 0, 0, 0, 0),
  (65, .goto 4, 3, 0, 0, 0, 0, 0),
  (68, .iconst 0, 1, 0, 0, 0, 0, 0),
  (69, .ireturn, 1, 1, 0, 0, 0, 0)]
def eg36 : List (bY × Nat) := [(ey300, 2)]
theorem eG36 : dk_G eg36 [2] := dk_G_cons emp300 (dk_G_nil)
theorem eh36 : ∀ e ∈ ek36, dk_ck ey36 eg36 [2] e = true := by decide +kernel
theorem ec36 : ∀ e ∈ ek36, dk_ok ey36 eg36 e := fun e he => dk_ck_ok eG36 (eh36 e he)
def ek37 : List cN := [(0, .aload_n 0, 1, 0, 0, 0, 0, 0),
  (1, .getfield 15, 3, 1, 3, 0, 1164, 0),
  (4, .ifCond .ne 9, 3, 0, 0, 0, 0, 0),
  (7, .sipush 240, 3, 0, 0, 0, 0, 0),
  (10, .goto 12, 3, 0, 0, 0, 0, 0),
  (13, .iload_n 1, 1, 0, 0, 0, 0, 0),
  (14, .ifCond .ge 7, 3, 0, 0, 0, 0, 0),
  (17, .iconst 0, 1, 0, 0, 0, 0, 0),
  (18, .goto 4, 3, 0, 0, 0, 0, 0),
  (21, .iload_n 1, 1, 0, 0, 0, 0, 0),
  (22, .istore_n 2, 1, 0, 0, 0, 0, 0),
  (23, .iload_n 2, 1, 0, 0, 0, 0, 0),
  (24, .sipush 240, 3, 0, 0, 0, 0, 0),
  (27, .if_icmp .ge 18, 3, 0, 0, 0, 0, 0),
  (30, .aload_n 0, 1, 0, 0, 0, 0, 0),
  (31, .getfield 9, 3, 0, 3, 0, 1163, 2),
  (34, .iload_n 2, 1, 0, 0, 0, 0, 0),
  (35, .baload, 1, 0, 0, 0, 0, 0),
  (36, .ifCond .ne 9, 3, 0, 0, 0, 0, 0),
  (39, .iinc 2 1, 3, 0, 0, 0, 0, 0),
  (42, .goto (-19), 3, 0, 0, 0, 0, 0),
  (45, .iload_n 2, 1, 0, 0, 0, 0, 0),
  (46, .ireturn, 1, 0, 0, 0, 0, 0)]
def eg37 : List (bY × Nat) := []
theorem eG37 : dk_G eg37 [] := dk_G_nil
theorem eh37 : ∀ e ∈ ek37, dk_ck ey37 eg37 [] e = true := by decide +kernel
theorem ec37 : ∀ e ∈ ek37, dk_ok ey37 eg37 e := fun e he => dk_ck_ok eG37 (eh37 e he)
def ek38 : List cN := [(0, .iload_n 1, 1, 0, 0, 0, 0, 0),
  (1, .ifCond .ge 7, 3, 0, 0, 0, 0, 0),
  (4, .iconst 0, 1, 0, 0, 0, 0, 0),
  (5, .goto 4, 3, 0, 0, 0, 0, 0),
  (8, .iload_n 1, 1, 0, 0, 0, 0, 0),
  (9, .istore_n 2, 1, 0, 0, 0, 0, 0),
  (10, .iload_n 2, 1, 0, 0, 0, 0, 0),
  (11, .sipush 240, 3, 0, 0, 0, 0, 0),
  (14, .if_icmp .ge 19, 3, 0, 0, 0, 0, 0),
  (17, .aload_n 0, 1, 0, 0, 0, 0, 0),
  (18, .getfield 9, 3, 0, 3, 0, 1163, 2),
  (21, .iload_n 2, 1, 0, 0, 0, 0, 0),
  (22, .baload, 1, 0, 0, 0, 0, 0),
  (23, .iconst 1, 1, 0, 0, 0, 0, 0),
  (24, .if_icmp .ne 9, 3, 0, 0, 0, 0, 0),
  (27, .iinc 2 1, 3, 0, 0, 0, 0, 0),
  (30, .goto (-20), 3, 0, 0, 0, 0, 0),
  (33, .iload_n 2, 1, 0, 0, 0, 0, 0),
  (34, .ireturn, 1, 0, 0, 0, 0, 0)]
def eg38 : List (bY × Nat) := []
theorem eG38 : dk_G eg38 [] := dk_G_nil
theorem eh38 : ∀ e ∈ ek38, dk_ck ey38 eg38 [] e = true := by decide +kernel
theorem ec38 : ∀ e ∈ ek38, dk_ok ey38 eg38 e := fun e he => dk_ck_ok eG38 (eh38 e he)
def ek39 : List cN := [(0, .aload_n 0, 1, 0, 0, 0, 0, 0),
  (1, .iload_n 1, 1, 0, 0, 0, 0, 0),
  (2, .invokevirtual 37, 3, 0, 2, 0, 4175, 3),
  (5, .ifCond .eq 17, 3, 0, 0, 0, 0, 0),
  (8, .aload_n 0, 1, 0, 0, 0, 0, 0),
  (9, .iload_n 1, 1, 0, 0, 0, 0, 0),
  (10, .iconst 1, 1, 0, 0, 0, 0, 0),
  (11, .isub, 1, 0, 0, 0, 0, 0),
  (12, .invokevirtual 37, 3, 0, 2, 0, 4175, 3),
  (15, .ifCond .ne 7, 3, 0, 0, 0, 0, 0),
  (18, .iconst 1, 1, 0, 0, 0, 0, 0),
  (19, .goto 4, 3, 0, 0, 0, 0, 0),
  (22, .iconst 0, 1, 0, 0, 0, 0, 0),
  (23, .ireturn, 1, 1, 0, 0, 0, 0)]
def eg39 : List (bY × Nat) := [(ey34, 2)]
theorem eG39 : dk_G eg39 [0] := dk_G_cons emp34 (dk_G_nil)
theorem eh39 : ∀ e ∈ ek39, dk_ck ey39 eg39 [0] e = true := by decide +kernel
theorem ec39 : ∀ e ∈ ek39, dk_ok ey39 eg39 e := fun e he => dk_ck_ok eG39 (eh39 e he)
def ek40 : List cN := [(0, .iconst 0, 1, 0, 0, 0, 0, 0),
  (1, .istore_n 1, 1, 0, 0, 0, 0, 0),
  (2, .iconst 0, 1, 0, 0, 0, 0, 0),
  (3, .istore_n 2, 1, 0, 0, 0, 0, 0),
  (4, .iload_n 2, 1, 0, 0, 0, 0, 0),
  (5, .sipush 240, 3, 0, 0, 0, 0, 0),
  (8, .if_icmp .ge 20, 3, 0, 0, 0, 0, 0),
  (11, .aload_n 0, 1, 0, 0, 0, 0, 0),
  (12, .iload_n 2, 1, 0, 0, 0, 0, 0),
  (13, .invokevirtual 41, 3, 0, 2, 0, 4171, 3),
  (16, .ifCond .eq 6, 3, 0, 0, 0, 0, 0),
  (19, .iinc 1 1, 3, 0, 0, 0, 0, 0),
  (22, .iinc 2 1, 3, 0, 0, 0, 0, 0),
  (25, .goto (-21), 3, 0, 0, 0, 0, 0),
  (28, .iload_n 1, 1, 0, 0, 0, 0, 0),
  (29, .ireturn, 1, 0, 0, 0, 0, 0)]
def eg40 : List (bY × Nat) := [(ey39, 2)]
theorem eG40 : dk_G eg40 [0] := dk_G_cons emp39 (dk_G_nil)
theorem eh40 : ∀ e ∈ ek40, dk_ck ey40 eg40 [0] e = true := by decide +kernel
theorem ec40 : ∀ e ∈ ek40, dk_ok ey40 eg40 e := fun e he => dk_ck_ok eG40 (eh40 e he)
def ek41 : List cN := [(0, .iload_n 1, 1, 0, 0, 0, 0, 0),
  (1, .ifCond .lt 12, 3, 0, 0, 0, 0, 0),
  (4, .iload_n 2, 1, 0, 0, 0, 0, 0),
  (5, .ifCond .lt 8, 3, 0, 0, 0, 0, 0),
  (8, .iload_n 2, 1, 0, 0, 0, 0, 0),
  (9, .iconst 1, 1, 0, 0, 0, 0, 0),
  (10, .if_icmp .le 5, 3, 0, 0, 0, 0, 0),
  (13, .iconst (-1), 1, 0, 0, 0, 0, 0),
  (14, .ireturn, 1, 0, 0, 0, 0, 0),
  (15, .iconst 0, 1, 0, 0, 0, 0, 0),
  (16, .istore_n 3, 1, 0, 0, 0, 0, 0),
  (17, .iconst 0, 1, 0, 0, 0, 0, 0),
  (18, .istore 4, 2, 0, 0, 0, 0, 0),
  (20, .iload 4, 2, 0, 0, 0, 0, 0),
  (22, .sipush 240, 3, 0, 0, 0, 0, 0),
  (25, .if_icmp .ge 45, 3, 0, 0, 0, 0, 0),
  (28, .aload_n 0, 1, 0, 0, 0, 0, 0),
  (29, .iload 4, 2, 0, 0, 0, 0, 0),
  (31, .invokevirtual 41, 3, 0, 2, 0, 4171, 3),
  (34, .ifCond .ne 6, 3, 0, 0, 0, 0, 0),
  (37, .goto 27, 3, 0, 0, 0, 0, 0),
  (40, .iload_n 3, 1, 0, 0, 0, 0, 0),
  (41, .iload_n 1, 1, 0, 0, 0, 0, 0),
  (42, .if_icmp .ne 19, 3, 0, 0, 0, 0, 0),
  (45, .iload_n 2, 1, 0, 0, 0, 0, 0),
  (46, .ifCond .ne 8, 3, 0, 0, 0, 0, 0),
  (49, .iload 4, 2, 0, 0, 0, 0, 0),
  (51, .goto 9, 3, 0, 0, 0, 0, 0),
  (54, .aload_n 0, 1, 0, 0, 0, 0, 0),
  (55, .iload 4, 2, 0, 0, 0, 0, 0),
  (57, .invokevirtual 44, 3, 1, 2, 0, 4192, 3),
  (60, .ireturn, 1, 0, 0, 0, 0, 0),
  (61, .iinc 3 1, 3, 0, 0, 0, 0, 0),
  (64, .iinc 4 1, 3, 0, 0, 0, 0, 0),
  (67, .goto (-47), 3, 0, 0, 0, 0, 0),
  (70, .iconst (-1), 1, 0, 0, 0, 0, 0),
  (71, .ireturn, 1, 0, 0, 0, 0, 0)]
def eg41 : List (bY × Nat) := [(ey39, 2), (ey38, 3)]
theorem eG41 : dk_G eg41 [0, 0] := dk_G_cons emp39 (dk_G_cons emp38 (dk_G_nil))
theorem eh41 : ∀ e ∈ ek41, dk_ck ey41 eg41 [0, 0] e = true := by decide +kernel
theorem ec41 : ∀ e ∈ ek41, dk_ok ey41 eg41 e := fun e he => dk_ck_ok eG41 (eh41 e he)
def ek5 : List cN := [(0, .aload_n 0, 1, 0, 0, 0, 0, 0),
  (1, .invokespecial 5, 3, 0, 1, 7, 1127, 0),
  (4, .aload_n 0, 1, 0, 0, 0, 0, 0),
  (5, .sipush 520, 3, 0, 0, 0, 0, 0),
  (8, .newarray .int, 2, 21, 40, 0, 0, 0),
  (10, .putfield 11, 3, 0, 1, 2, 1128, 2),
  (13, .aload_n 0, 1, 0, 0, 0, 0, 0),
  (14, .bipush 13, 2, 0, 0, 0, 0, 0),
  (16, .newarray .int, 2, 21, 41, 0, 0, 0),
  (18, .putfield 15, 3, 1, 1, 2, 1129, 2),
  (21, .return_, 1, 0, 0, 0, 0, 0)]
def eg5 : List (bY × Nat) := []
theorem eG5 : dk_G eg5 [] := dk_G_nil
theorem eh5 : ∀ e ∈ ek5, dk_ck ey5 eg5 [] e = true := by decide +kernel
theorem ec5 : ∀ e ∈ ek5, dk_ok ey5 eg5 e := fun e he => dk_ck_ok eG5 (eh5 e he)
def ek6 : List cN := [(0, .aload_n 0, 1, 0, 0, 0, 0, 0),
  (1, .iconst 0, 1, 0, 0, 0, 0, 0),
  (2, .putfield 18, 3, 2, 1, 0, 1133, 0),
  (5, .aload_n 0, 1, 0, 0, 0, 0, 0),
  (6, .iconst 0, 1, 0, 0, 0, 0, 0),
  (7, .putfield 22, 3, 3, 1, 0, 1136, 0),
  (10, .return_, 1, 0, 0, 0, 0, 0)]
def eg6 : List (bY × Nat) := []
theorem eG6 : dk_G eg6 [] := dk_G_nil
theorem eh6 : ∀ e ∈ ek6, dk_ck ey6 eg6 [] e = true := by decide +kernel
theorem ec6 : ∀ e ∈ ek6, dk_ok ey6 eg6 e := fun e he => dk_ck_ok eG6 (eh6 e he)
def ek8 : List cN := [(0, .iload_n 0, 1, 0, 0, 0, 0, 0),
  (1, .ifCond .eq 19, 3, 0, 0, 0, 0, 0),
  (4, .iload_n 0, 1, 0, 0, 0, 0, 0),
  (5, .iconst 1, 1, 0, 0, 0, 0, 0),
  (6, .if_icmp .eq 14, 3, 0, 0, 0, 0, 0),
  (9, .iload_n 0, 1, 0, 0, 0, 0, 0),
  (10, .iconst 5, 1, 0, 0, 0, 0, 0),
  (11, .if_icmp .eq 9, 3, 0, 0, 0, 0, 0),
  (14, .iload_n 0, 1, 0, 0, 0, 0, 0),
  (15, .bipush 6, 2, 0, 0, 0, 0, 0),
  (17, .if_icmp .ne 7, 3, 0, 0, 0, 0, 0),
  (20, .iconst 1, 1, 0, 0, 0, 0, 0),
  (21, .goto 4, 3, 0, 0, 0, 0, 0),
  (24, .iconst 0, 1, 0, 0, 0, 0, 0),
  (25, .ireturn, 1, 1, 0, 0, 0, 0)]
def eg8 : List (bY × Nat) := []
theorem eG8 : dk_G eg8 [] := dk_G_nil
theorem eh8 : ∀ e ∈ ek8, dk_ck ey8 eg8 [] e = true := by decide +kernel
theorem ec8 : ∀ e ∈ ek8, dk_ok ey8 eg8 e := fun e he => dk_ck_ok eG8 (eh8 e he)
def ek9 : List cN := [(0, .iload_n 0, 1, 0, 0, 0, 0, 0),
  (1, .bipush 8, 2, 0, 0, 0, 0, 0),
  (3, .ishr, 1, 0, 0, 0, 0, 0),
  (4, .ireturn, 1, 0, 0, 0, 0, 0)]
def eg9 : List (bY × Nat) := []
theorem eG9 : dk_G eg9 [] := dk_G_nil
theorem eh9 : ∀ e ∈ ek9, dk_ck ey9 eg9 [] e = true := by decide +kernel
theorem ec9 : ∀ e ∈ ek9, dk_ok ey9 eg9 e := fun e he => dk_ck_ok eG9 (eh9 e he)
def ek10 : List cN := [(0, .iload_n 0, 1, 0, 0, 0, 0, 0),
  (1, .sipush 255, 3, 0, 0, 0, 0, 0),
  (4, .iand, 1, 0, 0, 0, 0, 0),
  (5, .ireturn, 1, 0, 0, 0, 0, 0)]
def eg10 : List (bY × Nat) := []
theorem eG10 : dk_G eg10 [] := dk_G_nil
theorem eh10 : ∀ e ∈ ek10, dk_ck ey10 eg10 [] e = true := by decide +kernel
theorem ec10 : ∀ e ∈ ek10, dk_ok ey10 eg10 e := fun e he => dk_ck_ok eG10 (eh10 e he)
def ek11 : List cN := [(0, .iload_n 1, 1, 0, 0, 0, 0, 0),
  (1, .ifCond .lt 15, 3, 0, 0, 0, 0, 0),
  (4, .iload_n 1, 1, 0, 0, 0, 0, 0),
  (5, .aload_n 0, 1, 0, 0, 0, 0, 0),
  (6, .getfield 18, 3, 2, 1, 0, 1133, 0),
  (9, .if_icmp .ge 7, 3, 0, 0, 0, 0, 0),
  (12, .iconst 1, 1, 0, 0, 0, 0, 0),
  (13, .goto 4, 3, 0, 0, 0, 0, 0),
  (16, .iconst 0, 1, 0, 0, 0, 0, 0),
  (17, .ireturn, 1, 1, 0, 0, 0, 0)]
def eg11 : List (bY × Nat) := []
theorem eG11 : dk_G eg11 [] := dk_G_nil
theorem eh11 : ∀ e ∈ ek11, dk_ck ey11 eg11 [] e = true := by decide +kernel
theorem ec11 : ∀ e ∈ ek11, dk_ok ey11 eg11 e := fun e he => dk_ck_ok eG11 (eh11 e he)
def ek7 : List cN := [(0, .aload_n 1, 1, 0, 0, 0, 0, 0),
  (1, .getfield 11, 3, 0, 1, 0, 1128, 2),
  (4, .iconst 0, 1, 0, 0, 0, 0, 0),
  (5, .aload_n 0, 1, 0, 0, 0, 0, 0),
  (6, .getfield 11, 3, 0, 1, 0, 1128, 2),
  (9, .iconst 0, 1, 0, 0, 0, 0, 0),
  (10, .aload_n 1, 1, 0, 0, 0, 0, 0),
  (11, .getfield 18, 3, 2, 1, 0, 1133, 0),
  (14, .bipush 13, 2, 0, 0, 0, 0, 0),
  (16, .imul, 1, 0, 0, 0, 0, 0),
  (17, .invokestatic 25, 3, 0, 5, 8, 3125, 0),
  (20, .aload_n 0, 1, 0, 0, 0, 0, 0),
  (21, .aload_n 1, 1, 0, 0, 0, 0, 0),
  (22, .getfield 18, 3, 2, 1, 0, 1133, 0),
  (25, .putfield 18, 3, 2, 1, 0, 1133, 0),
  (28, .aload_n 0, 1, 0, 0, 0, 0, 0),
  (29, .aload_n 1, 1, 0, 0, 0, 0, 0),
  (30, .getfield 22, 3, 3, 1, 0, 1136, 0),
  (33, .putfield 22, 3, 3, 1, 0, 1136, 0),
  (36, .return_, 1, 0, 0, 0, 0, 0)]
def eg7 : List (bY × Nat) := []
theorem eG7 : dk_G eg7 [] := dk_G_nil
theorem eh7 : ∀ e ∈ ek7, dk_ck ey7 eg7 [] e = true := by decide +kernel
theorem ec7 : ∀ e ∈ ek7, dk_ok ey7 eg7 e := fun e he => dk_ck_ok eG7 (eh7 e he)
def ek12 : List cN := [(0, .aload_n 0, 1, 0, 0, 0, 0, 0),
  (1, .iload_n 1, 1, 0, 0, 0, 0, 0),
  (2, .invokevirtual 31, 3, 0, 2, 0, 3182, 1),
  (5, .ifCond .eq 27, 3, 0, 0, 0, 0, 0),
  (8, .iload_n 2, 1, 0, 0, 0, 0, 0),
  (9, .ifCond .lt 23, 3, 0, 0, 0, 0, 0),
  (12, .iload_n 2, 1, 0, 0, 0, 0, 0),
  (13, .bipush 13, 2, 0, 0, 0, 0, 0),
  (15, .if_icmp .ge 17, 3, 0, 0, 0, 0, 0),
  (18, .aload_n 0, 1, 0, 0, 0, 0, 0),
  (19, .getfield 11, 3, 0, 1, 0, 1128, 2),
  (22, .iload_n 1, 1, 0, 0, 0, 0, 0),
  (23, .bipush 13, 2, 0, 0, 0, 0, 0),
  (25, .imul, 1, 0, 0, 0, 0, 0),
  (26, .iload_n 2, 1, 0, 0, 0, 0, 0),
  (27, .iadd, 1, 0, 0, 0, 0, 0),
  (28, .iaload, 1, 0, 0, 0, 0, 0),
  (29, .goto 4, 3, 0, 0, 0, 0, 0),
  (32, .iconst 0, 1, 0, 0, 0, 0, 0),
  (33, .ireturn, 1, 0, 0, 0, 0, 0)]
def eg12 : List (bY × Nat) := [(ey11, 2)]
theorem eG12 : dk_G eg12 [0] := dk_G_cons emp11 (dk_G_nil)
theorem eh12 : ∀ e ∈ ek12, dk_ck ey12 eg12 [0] e = true := by decide +kernel
theorem ec12 : ∀ e ∈ ek12, dk_ok ey12 eg12 e := fun e he => dk_ck_ok eG12 (eh12 e he)
def ek13 : List cN := [(0, .aload_n 0, 1, 0, 0, 0, 0, 0),
  (1, .dup, 1, 0, 0, 0, 0, 0),
  (2, .getfield 22, 3, 3, 1, 0, 1136, 0),
  (5, .iconst 1, 1, 0, 0, 0, 0, 0),
  (6, .iadd, 1, 0, 0, 0, 0, 0),
  (7, .putfield 22, 3, 3, 1, 0, 1136, 0),
  (10, .aload_n 0, 1, 0, 0, 0, 0, 0),
  (11, .getfield 18, 3, 2, 1, 0, 1133, 0),
  (14, .bipush 40, 2, 0, 0, 0, 0, 0),
  (16, .if_icmp .lt 4, 3, 0, 0, 0, 0, 0),
  (19, .return_, 1, 0, 0, 0, 0, 0),
  (20, .aload_n 0, 1, 0, 0, 0, 0, 0),
  (21, .getfield 18, 3, 2, 1, 0, 1133, 0),
  (24, .bipush 13, 2, 0, 0, 0, 0, 0),
  (26, .imul, 1, 0, 0, 0, 0, 0),
  (27, .istore 4, 2, 0, 0, 0, 0, 0),
  (29, .aload_n 0, 1, 0, 0, 0, 0, 0),
  (30, .getfield 11, 3, 0, 1, 0, 1128, 2),
  (33, .iload 4, 2, 0, 0, 0, 0, 0),
  (35, .iconst 0, 1, 0, 0, 0, 0, 0),
  (36, .iadd, 1, 0, 0, 0, 0, 0),
  (37, .iload_n 1, 1, 0, 0, 0, 0, 0),
  (38, .iastore, 1, 0, 0, 0, 0, 0),
  (39, .aload_n 0, 1, 0, 0, 0, 0, 0),
  (40, .getfield 11, 3, 0, 1, 0, 1128, 2),
  (43, .iload 4, 2, 0, 0, 0, 0, 0),
  (45, .iconst 1, 1, 0, 0, 0, 0, 0),
  (46, .iadd, 1, 0, 0, 0, 0, 0),
  (47, .aload_n 0, 1, 0, 0, 0, 0, 0),
  (48, .getfield 35, 3, 4, 1, 0, 1139, 0),
  (51, .iastore, 1, 0, 0, 0, 0, 0),
  (52, .aload_n 0, 1, 0, 0, 0, 0, 0),
  (53, .getfield 11, 3, 0, 1, 0, 1128, 2),
  (56, .iload 4, 2, 0, 0, 0, 0, 0),
  (58, .iconst 2, 1, 0, 0, 0, 0, 0),
  (59, .iadd, 1, 0, 0, 0, 0, 0),
  (60, .iload_n 2, 1, 0, 0, 0, 0, 0),
  (61, .iastore, 1, 0, 0, 0, 0, 0),
  (62, .aload_n 0, 1, 0, 0, 0, 0, 0),
  (63, .getfield 11, 3, 0, 1, 0, 1128, 2),
  (66, .iload 4, 2, 0, 0, 0, 0, 0),
  (68, .iconst 3, 1, 0, 0, 0, 0, 0),
  (69, .iadd, 1, 0, 0, 0, 0, 0),
  (70, .iload_n 3, 1, 0, 0, 0, 0, 0),
  (71, .iastore, 1, 0, 0, 0, 0, 0),
  (72, .aload_n 0, 1, 0, 0, 0, 0, 0),
  (73, .getfield 11, 3, 0, 1, 0, 1128, 2),
  (76, .iload 4, 2, 0, 0, 0, 0, 0),
  (78, .iconst 4, 1, 0, 0, 0, 0, 0),
  (79, .iadd, 1, 0, 0, 0, 0, 0),
  (80, .iconst 0, 1, 0, 0, 0, 0, 0),
  (81, .iastore, 1, 0, 0, 0, 0, 0),
  (82, .aload_n 0, 1, 0, 0, 0, 0, 0),
  (83, .dup, 1, 0, 0, 0, 0, 0),
  (84, .getfield 18, 3, 2, 1, 0, 1133, 0),
  (87, .iconst 1, 1, 0, 0, 0, 0, 0),
  (88, .iadd, 1, 0, 0, 0, 0, 0),
  (89, .putfield 18, 3, 2, 1, 0, 1133, 0),
  (92, .return_, 1, 0, 0, 0, 0, 0)]
def eg13 : List (bY × Nat) := []
theorem eG13 : dk_G eg13 [] := dk_G_nil
theorem eh13 : ∀ e ∈ ek13, dk_ck ey13 eg13 [] e = true := by decide +kernel
theorem ec13 : ∀ e ∈ ek13, dk_ok ey13 eg13 e := fun e he => dk_ck_ok eG13 (eh13 e he)
def ek14 : List cN := [(0, .iconst 0, 1, 0, 0, 0, 0, 0),
  (1, .istore 4, 2, 0, 0, 0, 0, 0),
  (3, .aload_n 1, 1, 0, 0, 0, 0, 0),
  (4, .iload_n 2, 1, 0, 0, 0, 0, 0),
  (5, .invokevirtual 38, 3, 0, 2, 1, 3216, 3),
  (8, .istore 5, 2, 0, 0, 0, 0, 0),
  (10, .aload_n 0, 1, 0, 0, 0, 0, 0),
  (11, .getfield 18, 3, 2, 1, 0, 1133, 0),
  (14, .bipush 40, 2, 0, 0, 0, 0, 0),
  (16, .if_icmp .ge 67, 3, 0, 0, 0, 0, 0),
  (19, .iload 4, 2, 0, 0, 0, 0, 0),
  (21, .bipush 8, 2, 0, 0, 0, 0, 0),
  (23, .if_icmp .ge 60, 3, 0, 0, 0, 0, 0),
  (26, .iload 5, 2, 0, 0, 0, 0, 0),
  (28, .iload_n 3, 1, 0, 0, 0, 0, 0),
  (29, .if_icmp .ge 54, 3, 0, 0, 0, 0, 0),
  (32, .aload_n 1, 1, 0, 0, 0, 0, 0),
  (33, .iload 5, 2, 0, 0, 0, 0, 0),
  (35, .invokevirtual 44, 3, 1, 2, 1, 3220, 3),
  (38, .iload_n 3, 1, 0, 0, 0, 0, 0),
  (39, .invokestatic 47, 3, 2, 2, 5, 3224, 0),
  (42, .istore 6, 2, 0, 0, 0, 0, 0),
  (44, .aload_n 0, 1, 0, 0, 0, 0, 0),
  (45, .getfield 11, 3, 0, 1, 0, 1128, 2),
  (48, .aload_n 0, 1, 0, 0, 0, 0, 0),
  (49, .getfield 18, 3, 2, 1, 0, 1133, 0),
  (52, .bipush 13, 2, 0, 0, 0, 0, 0),
  (54, .imul, 1, 0, 0, 0, 0, 0),
  (55, .iconst 5, 1, 0, 0, 0, 0, 0),
  (56, .iadd, 1, 0, 0, 0, 0, 0),
  (57, .iload 4, 2, 0, 0, 0, 0, 0),
  (59, .iadd, 1, 0, 0, 0, 0, 0),
  (60, .iload 5, 2, 0, 0, 0, 0, 0),
  (62, .bipush 8, 2, 0, 0, 0, 0, 0),
  (64, .ishl, 1, 0, 0, 0, 0, 0),
  (65, .iload 6, 2, 0, 0, 0, 0, 0),
  (67, .ior, 1, 0, 0, 0, 0, 0),
  (68, .iastore, 1, 0, 0, 0, 0, 0),
  (69, .iinc 4 1, 3, 0, 0, 0, 0, 0),
  (72, .aload_n 1, 1, 0, 0, 0, 0, 0),
  (73, .iload 6, 2, 0, 0, 0, 0, 0),
  (75, .invokevirtual 38, 3, 0, 2, 1, 3216, 3),
  (78, .istore 5, 2, 0, 0, 0, 0, 0),
  (80, .goto (-70), 3, 0, 0, 0, 0, 0),
  (83, .aload_n 0, 1, 0, 0, 0, 0, 0),
  (84, .iconst 2, 1, 0, 0, 0, 0, 0),
  (85, .iload 4, 2, 0, 0, 0, 0, 0),
  (87, .iconst 0, 1, 0, 0, 0, 0, 0),
  (88, .invokevirtual 53, 3, 3, 4, 0, 3225, 1),
  (91, .return_, 1, 0, 0, 0, 0, 0)]
def eg14 : List (bY × Nat) := [(ey37, 3), (ey38, 3), (ey301, 2), (ey13, 5)]
theorem eG14 : dk_G eg14 [0, 0, 2, 0] := dk_G_cons emp37 (dk_G_cons emp38 (dk_G_cons emp301 (dk_G_cons emp13 (dk_G_nil))))
theorem eh14 : ∀ e ∈ ek14, dk_ck ey14 eg14 [0, 0, 2, 0] e = true := by decide +kernel
theorem ec14 : ∀ e ∈ ek14, dk_ok ey14 eg14 e := fun e he => dk_ck_ok eG14 (eh14 e he)
def ek16 : List cN := [(0, .aload_n 0, 1, 0, 0, 0, 0, 0),
  (1, .iload_n 1, 1, 0, 0, 0, 0, 0),
  (2, .invokevirtual 31, 3, 0, 2, 0, 3182, 1),
  (5, .ifCond .ne 5, 3, 0, 0, 0, 0, 0),
  (8, .iconst (-1), 1, 0, 0, 0, 0, 0),
  (9, .ireturn, 1, 0, 0, 0, 0, 0),
  (10, .aload_n 0, 1, 0, 0, 0, 0, 0),
  (11, .getfield 18, 3, 2, 1, 0, 1133, 0),
  (14, .iload_n 1, 1, 0, 0, 0, 0, 0),
  (15, .isub, 1, 0, 0, 0, 0, 0),
  (16, .iconst 1, 1, 0, 0, 0, 0, 0),
  (17, .isub, 1, 0, 0, 0, 0, 0),
  (18, .istore_n 2, 1, 0, 0, 0, 0, 0),
  (19, .aload_n 0, 1, 0, 0, 0, 0, 0),
  (20, .getfield 11, 3, 0, 1, 0, 1128, 2),
  (23, .iload_n 1, 1, 0, 0, 0, 0, 0),
  (24, .iconst 1, 1, 0, 0, 0, 0, 0),
  (25, .iadd, 1, 0, 0, 0, 0, 0),
  (26, .bipush 13, 2, 0, 0, 0, 0, 0),
  (28, .imul, 1, 0, 0, 0, 0, 0),
  (29, .aload_n 0, 1, 0, 0, 0, 0, 0),
  (30, .getfield 11, 3, 0, 1, 0, 1128, 2),
  (33, .iload_n 1, 1, 0, 0, 0, 0, 0),
  (34, .bipush 13, 2, 0, 0, 0, 0, 0),
  (36, .imul, 1, 0, 0, 0, 0, 0),
  (37, .iload_n 2, 1, 0, 0, 0, 0, 0),
  (38, .bipush 13, 2, 0, 0, 0, 0, 0),
  (40, .imul, 1, 0, 0, 0, 0, 0),
  (41, .invokestatic 25, 3, 0, 5, 8, 3125, 0),
  (44, .aload_n 0, 1, 0, 0, 0, 0, 0),
  (45, .dup, 1, 0, 0, 0, 0, 0),
  (46, .getfield 18, 3, 2, 1, 0, 1133, 0),
  (49, .iconst 1, 1, 0, 0, 0, 0, 0),
  (50, .isub, 1, 0, 0, 0, 0, 0),
  (51, .putfield 18, 3, 2, 1, 0, 1133, 0),
  (54, .iconst 0, 1, 0, 0, 0, 0, 0),
  (55, .ireturn, 1, 0, 0, 0, 0, 0)]
def eg16 : List (bY × Nat) := [(ey11, 2)]
theorem eG16 : dk_G eg16 [0] := dk_G_cons emp11 (dk_G_nil)
theorem eh16 : ∀ e ∈ ek16, dk_ck ey16 eg16 [0] e = true := by decide +kernel
theorem ec16 : ∀ e ∈ ek16, dk_ok ey16 eg16 e := fun e he => dk_ck_ok eG16 (eh16 e he)
def ek15 : List cN := [(0, .aload_n 0, 1, 0, 0, 0, 0, 0),
  (1, .iload_n 1, 1, 0, 0, 0, 0, 0),
  (2, .invokevirtual 31, 3, 0, 2, 0, 3182, 1),
  (5, .ifCond .eq 27, 3, 0, 0, 0, 0, 0),
  (8, .aload_n 0, 1, 0, 0, 0, 0, 0),
  (9, .getfield 11, 3, 0, 1, 0, 1128, 2),
  (12, .iload_n 1, 1, 0, 0, 0, 0, 0),
  (13, .bipush 13, 2, 0, 0, 0, 0, 0),
  (15, .imul, 1, 0, 0, 0, 0, 0),
  (16, .aload_n 0, 1, 0, 0, 0, 0, 0),
  (17, .getfield 15, 3, 1, 1, 0, 1129, 2),
  (20, .iconst 0, 1, 0, 0, 0, 0, 0),
  (21, .bipush 13, 2, 0, 0, 0, 0, 0),
  (23, .invokestatic 25, 3, 0, 5, 8, 3125, 0),
  (26, .aload_n 0, 1, 0, 0, 0, 0, 0),
  (27, .iload_n 1, 1, 0, 0, 0, 0, 0),
  (28, .invokevirtual 57, 3, 1, 2, 0, 3190, 1),
  (31, .pop, 1, 0, 0, 0, 0, 0),
  (32, .return_, 1, 0, 0, 0, 0, 0)]
def eg15 : List (bY × Nat) := [(ey11, 2), (ey16, 3)]
theorem eG15 : dk_G eg15 [0, 0] := dk_G_cons emp11 (dk_G_cons emp16 (dk_G_nil))
theorem eh15 : ∀ e ∈ ek15, dk_ck ey15 eg15 [0, 0] e = true := by decide +kernel
theorem ec15 : ∀ e ∈ ek15, dk_ok ey15 eg15 e := fun e he => dk_ck_ok eG15 (eh15 e he)
def ek17 : List cN := [(0, .aload_n 0, 1, 0, 0, 0, 0, 0),
  (1, .iload_n 1, 1, 0, 0, 0, 0, 0),
  (2, .invokevirtual 31, 3, 0, 2, 0, 3182, 1),
  (5, .ifCond .ne 5, 3, 0, 0, 0, 0, 0),
  (8, .iconst (-1), 1, 0, 0, 0, 0, 0),
  (9, .ireturn, 1, 0, 0, 0, 0, 0),
  (10, .aload_n 0, 1, 0, 0, 0, 0, 0),
  (11, .getfield 18, 3, 2, 1, 0, 1133, 0),
  (14, .bipush 40, 2, 0, 0, 0, 0, 0),
  (16, .if_icmp .lt 5, 3, 0, 0, 0, 0, 0),
  (19, .iconst 1, 1, 0, 0, 0, 0, 0),
  (20, .ireturn, 1, 0, 0, 0, 0, 0),
  (21, .aload_n 0, 1, 0, 0, 0, 0, 0),
  (22, .getfield 11, 3, 0, 1, 0, 1128, 2),
  (25, .iload_n 1, 1, 0, 0, 0, 0, 0),
  (26, .bipush 13, 2, 0, 0, 0, 0, 0),
  (28, .imul, 1, 0, 0, 0, 0, 0),
  (29, .aload_n 0, 1, 0, 0, 0, 0, 0),
  (30, .getfield 11, 3, 0, 1, 0, 1128, 2),
  (33, .aload_n 0, 1, 0, 0, 0, 0, 0),
  (34, .getfield 18, 3, 2, 1, 0, 1133, 0),
  (37, .bipush 13, 2, 0, 0, 0, 0, 0),
  (39, .imul, 1, 0, 0, 0, 0, 0),
  (40, .bipush 13, 2, 0, 0, 0, 0, 0),
  (42, .invokestatic 25, 3, 0, 5, 8, 3125, 0),
  (45, .aload_n 0, 1, 0, 0, 0, 0, 0),
  (46, .dup, 1, 0, 0, 0, 0, 0),
  (47, .getfield 18, 3, 2, 1, 0, 1133, 0),
  (50, .iconst 1, 1, 0, 0, 0, 0, 0),
  (51, .iadd, 1, 0, 0, 0, 0, 0),
  (52, .putfield 18, 3, 2, 1, 0, 1133, 0),
  (55, .iconst 0, 1, 0, 0, 0, 0, 0),
  (56, .ireturn, 1, 0, 0, 0, 0, 0)]
def eg17 : List (bY × Nat) := [(ey11, 2)]
theorem eG17 : dk_G eg17 [0] := dk_G_cons emp11 (dk_G_nil)
theorem eh17 : ∀ e ∈ ek17, dk_ck ey17 eg17 [0] e = true := by decide +kernel
theorem ec17 : ∀ e ∈ ek17, dk_ok ey17 eg17 e := fun e he => dk_ck_ok eG17 (eh17 e he)
def ek18 : List cN := [(0, .aload_n 0, 1, 0, 0, 0, 0, 0),
  (1, .iload_n 1, 1, 0, 0, 0, 0, 0),
  (2, .invokevirtual 31, 3, 0, 2, 0, 3182, 1),
  (5, .ifCond .ne 5, 3, 0, 0, 0, 0, 0),
  (8, .iconst (-1), 1, 0, 0, 0, 0, 0),
  (9, .ireturn, 1, 0, 0, 0, 0, 0),
  (10, .aload_n 0, 1, 0, 0, 0, 0, 0),
  (11, .getfield 11, 3, 0, 1, 0, 1128, 2),
  (14, .iload_n 1, 1, 0, 0, 0, 0, 0),
  (15, .bipush 13, 2, 0, 0, 0, 0, 0),
  (17, .imul, 1, 0, 0, 0, 0, 0),
  (18, .iconst 1, 1, 0, 0, 0, 0, 0),
  (19, .iadd, 1, 0, 0, 0, 0, 0),
  (20, .dup2, 1, 0, 0, 0, 0, 0),
  (21, .iaload, 1, 0, 0, 0, 0, 0),
  (22, .iload_n 2, 1, 0, 0, 0, 0, 0),
  (23, .iadd, 1, 0, 0, 0, 0, 0),
  (24, .iastore, 1, 0, 0, 0, 0, 0),
  (25, .iconst 0, 1, 0, 0, 0, 0, 0),
  (26, .ireturn, 1, 0, 0, 0, 0, 0)]
def eg18 : List (bY × Nat) := [(ey11, 2)]
theorem eG18 : dk_G eg18 [0] := dk_G_cons emp11 (dk_G_nil)
theorem eh18 : ∀ e ∈ ek18, dk_ck ey18 eg18 [0] e = true := by decide +kernel
theorem ec18 : ∀ e ∈ ek18, dk_ok ey18 eg18 e := fun e he => dk_ck_ok eG18 (eh18 e he)
def ek19 : List cN := [(0, .aload_n 0, 1, 0, 0, 0, 0, 0),
  (1, .iload_n 1, 1, 0, 0, 0, 0, 0),
  (2, .invokevirtual 31, 3, 0, 2, 0, 3182, 1),
  (5, .ifCond .ne 5, 3, 0, 0, 0, 0, 0),
  (8, .iconst (-1), 1, 0, 0, 0, 0, 0),
  (9, .ireturn, 1, 0, 0, 0, 0, 0),
  (10, .aload_n 0, 1, 0, 0, 0, 0, 0),
  (11, .iload_n 1, 1, 0, 0, 0, 0, 0),
  (12, .iconst 0, 1, 0, 0, 0, 0, 0),
  (13, .invokevirtual 60, 3, 1, 3, 0, 4136, 1),
  (16, .ifCond .eq 5, 3, 0, 0, 0, 0, 0),
  (19, .iconst 1, 1, 0, 0, 0, 0, 0),
  (20, .ireturn, 1, 0, 0, 0, 0, 0),
  (21, .aload_n 0, 1, 0, 0, 0, 0, 0),
  (22, .iload_n 1, 1, 0, 0, 0, 0, 0),
  (23, .iconst 4, 1, 0, 0, 0, 0, 0),
  (24, .invokevirtual 60, 3, 1, 3, 0, 4136, 1),
  (27, .iconst 1, 1, 0, 0, 0, 0, 0),
  (28, .if_icmp .ne 5, 3, 0, 0, 0, 0, 0),
  (31, .iconst 2, 1, 0, 0, 0, 0, 0),
  (32, .ireturn, 1, 0, 0, 0, 0, 0),
  (33, .aload_n 0, 1, 0, 0, 0, 0, 0),
  (34, .getfield 11, 3, 0, 1, 0, 1128, 2),
  (37, .iload_n 1, 1, 0, 0, 0, 0, 0),
  (38, .bipush 13, 2, 0, 0, 0, 0, 0),
  (40, .imul, 1, 0, 0, 0, 0, 0),
  (41, .iconst 4, 1, 0, 0, 0, 0, 0),
  (42, .iadd, 1, 0, 0, 0, 0, 0),
  (43, .iconst 1, 1, 0, 0, 0, 0, 0),
  (44, .iastore, 1, 0, 0, 0, 0, 0),
  (45, .iconst 0, 1, 0, 0, 0, 0, 0),
  (46, .ireturn, 1, 0, 0, 0, 0, 0)]
def eg19 : List (bY × Nat) := [(ey11, 2), (ey12, 3)]
theorem eG19 : dk_G eg19 [0, 0] := dk_G_cons emp11 (dk_G_cons emp12 (dk_G_nil))
theorem eh19 : ∀ e ∈ ek19, dk_ck ey19 eg19 [0, 0] e = true := by decide +kernel
theorem ec19 : ∀ e ∈ ek19, dk_ok ey19 eg19 e := fun e he => dk_ck_ok eG19 (eh19 e he)
