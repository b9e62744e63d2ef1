/-- Math.min(II)I -/
def ey301 : bY := (⟨"java/lang/Math", "min", "(II)I"⟩, prog_20_method_69_code, (Option.some Jvm.ClassFile.FieldType.int))
theorem emp301 : dk_mp (ey301, 2) 2 := ⟨⟨bW_of (dk_tw_mem (n := 2199) rfl) rfl, bW_of (dk_tw_mem (n := 1016) rfl) rfl, by decide +kernel, by decide +kernel, by decide, by decide +kernel, by decide +kernel⟩, (fun h => absurd h (by decide)), (fun h => absurd h (by decide)), fun _ => bW_of (dk_tw_mem (n := 2198) rfl) rfl⟩
/-- Math.max(II)I -/
def ey300 : bY := (⟨"java/lang/Math", "max", "(II)I"⟩, prog_20_method_65_code, (Option.some Jvm.ClassFile.FieldType.int))
theorem emp300 : dk_mp (ey300, 2) 2 := ⟨⟨bW_of (dk_tw_mem (n := 3211) rfl) rfl, bW_of (dk_tw_mem (n := 1016) rfl) rfl, by decide +kernel, by decide +kernel, by decide, by decide +kernel, by decide +kernel⟩, (fun h => absurd h (by decide)), (fun h => absurd h (by decide)), fun _ => bW_of (dk_tw_mem (n := 3210) rfl) rfl⟩
/-- Arrays.fill([II)V -/
def ey302 : bY := (⟨"java/util/Arrays", "fill", "([II)V"⟩, prog_24_method_103_code, (Option.none : Option Jvm.ClassFile.FieldType))
theorem emp302 : dk_mp (ey302, 4) 2 := ⟨⟨bW_of (dk_tw_mem (n := 2139) rfl) rfl, bW_of (dk_tw_mem (n := 1014) rfl) rfl, by decide +kernel, by decide +kernel, by decide, by decide +kernel, by decide +kernel⟩, (fun h => absurd h (by decide)), (fun h => absurd h (by decide)), fun _ => bW_of (dk_tw_mem (n := 2138) rfl) rfl⟩
/-- Arrays.fill([BB)V -/
def ey303 : bY := (⟨"java/util/Arrays", "fill", "([BB)V"⟩, prog_24_method_109_code, (Option.none : Option Jvm.ClassFile.FieldType))
theorem emp303 : dk_mp (ey303, 4) 2 := ⟨⟨bW_of (dk_tw_mem (n := 3092) rfl) rfl, bW_of (dk_tw_mem (n := 1014) rfl) rfl, by decide +kernel, by decide +kernel, by decide, by decide +kernel, by decide +kernel⟩, (fun h => absurd h (by decide)), (fun h => absurd h (by decide)), fun _ => bW_of (dk_tw_mem (n := 3091) rfl) rfl⟩
/-- Arrays.copyOf([BI)[B -/
def ey304 : bY := (⟨"java/util/Arrays", "copyOf", "([BI)[B"⟩, prog_24_method_121_code, (Option.some (Jvm.ClassFile.FieldType.array Jvm.ClassFile.FieldType.byte)))
theorem emp304 : dk_mp (ey304, 3) 2 := ⟨⟨bW_of (dk_tw_mem (n := 3148) rfl) rfl, bW_of (dk_tw_mem (n := 1014) rfl) rfl, by decide +kernel, by decide +kernel, by decide, by decide +kernel, by decide +kernel⟩, (fun h => absurd h (by decide)), (fun h => absurd h (by decide)), fun _ => bW_of (dk_tw_mem (n := 3147) rfl) rfl⟩
/-- Word.withLetter(JI)J -/
def ey105 : bY := (⟨"SpanCopier$Word", "withLetter", "(JI)J"⟩, prog_12_method_4_code, (Option.some Jvm.ClassFile.FieldType.long))
theorem emp105 : dk_mp (ey105, 3) 2 := ⟨⟨bW_of (dk_tw_mem (n := 2223) rfl) rfl, bW_of (dk_tw_mem (n := 1004) rfl) rfl, by decide +kernel, by decide +kernel, by decide, by decide +kernel, by decide +kernel⟩, (fun h => absurd h (by decide)), (fun h => absurd h (by decide)), fun _ => bW_of (dk_tw_mem (n := 2222) rfl) rfl⟩
/-- Tape.isBlank(I)Z -/
def ey98 : bY := (⟨"SpanCopier$Tape", "isBlank", "(I)Z"⟩, prog_11_method_8_code, (Option.some Jvm.ClassFile.FieldType.boolean))
theorem emp98 : dk_mp (ey98, 1) 2 := ⟨⟨bW_of (dk_tw_mem (n := 2210) rfl) rfl, bW_of (dk_tw_mem (n := 1002) rfl) rfl, by decide +kernel, by decide +kernel, by decide, by decide +kernel, by decide +kernel⟩, (fun h => absurd h (by decide)), (fun h => absurd h (by decide)), fun _ => bW_of (dk_tw_mem (n := 2209) rfl) rfl⟩
/-- Tape.isLetter(I)Z -/
def ey99 : bY := (⟨"SpanCopier$Tape", "isLetter", "(I)Z"⟩, prog_11_method_9_code, (Option.some Jvm.ClassFile.FieldType.boolean))
theorem emp99 : dk_mp (ey99, 1) 2 := ⟨⟨bW_of (dk_tw_mem (n := 2213) rfl) rfl, bW_of (dk_tw_mem (n := 1002) rfl) rfl, by decide +kernel, by decide +kernel, by decide, by decide +kernel, by decide +kernel⟩, (fun h => absurd h (by decide)), (fun h => absurd h (by decide)), fun _ => bW_of (dk_tw_mem (n := 2212) rfl) rfl⟩
/-- Tape.isDigit(I)Z -/
def ey100 : bY := (⟨"SpanCopier$Tape", "isDigit", "(I)Z"⟩, prog_11_method_10_code, (Option.some Jvm.ClassFile.FieldType.boolean))
theorem emp100 : dk_mp (ey100, 1) 2 := ⟨⟨bW_of (dk_tw_mem (n := 2216) rfl) rfl, bW_of (dk_tw_mem (n := 1002) rfl) rfl, by decide +kernel, by decide +kernel, by decide, by decide +kernel, by decide +kernel⟩, (fun h => absurd h (by decide)), (fun h => absurd h (by decide)), fun _ => bW_of (dk_tw_mem (n := 2215) rfl) rfl⟩
/-- Tape.isCompare(I)Z -/
def ey102 : bY := (⟨"SpanCopier$Tape", "isCompare", "(I)Z"⟩, prog_11_method_12_code, (Option.some Jvm.ClassFile.FieldType.boolean))
theorem emp102 : dk_mp (ey102, 1) 2 := ⟨⟨bW_of (dk_tw_mem (n := 2235) rfl) rfl, bW_of (dk_tw_mem (n := 1002) rfl) rfl, by decide +kernel, by decide +kernel, by decide, by decide +kernel, by decide +kernel⟩, (fun h => absurd h (by decide)), (fun h => absurd h (by decide)), fun _ => bW_of (dk_tw_mem (n := 2234) rfl) rfl⟩
/-- Tape.isSign(I)Z -/
def ey101 : bY := (⟨"SpanCopier$Tape", "isSign", "(I)Z"⟩, prog_11_method_11_code, (Option.some Jvm.ClassFile.FieldType.boolean))
theorem emp101 : dk_mp (ey101, 1) 2 := ⟨⟨bW_of (dk_tw_mem (n := 2232) rfl) rfl, bW_of (dk_tw_mem (n := 1002) rfl) rfl, by decide +kernel, by decide +kernel, by decide, by decide +kernel, by decide +kernel⟩, (fun h => absurd h (by decide)), (fun h => absurd h (by decide)), fun _ => bW_of (dk_tw_mem (n := 2231) rfl) rfl⟩
/-- Tape.byteAt(I)I -/
def ey95 : bY := (⟨"SpanCopier$Tape", "byteAt", "(I)I"⟩, prog_11_method_5_code, (Option.some Jvm.ClassFile.FieldType.int))
theorem emp95 : dk_mp (ey95, 2) 0 := ⟨⟨bW_of (dk_tw_mem (n := 2207) rfl) rfl, bW_of (dk_tw_mem (n := 1002) rfl) rfl, by decide +kernel, by decide +kernel, by decide, by decide +kernel, by decide +kernel⟩, fun _ => ⟨bW_of (dk_tw_mem (n := 2206) rfl) rfl, bW_of (dk_sel (j := 3) (n := _) (by rfl)) rfl⟩, (fun h => absurd h (by decide)), (fun h => absurd h (by decide))⟩
/-- Tape.put(I)V -/
def ey92 : bY := (⟨"SpanCopier$Tape", "put", "(I)V"⟩, prog_11_method_2_code, (Option.none : Option Jvm.ClassFile.FieldType))
theorem emp92 : dk_mp (ey92, 3) 0 := ⟨⟨bW_of (dk_tw_mem (n := 2184) rfl) rfl, bW_of (dk_tw_mem (n := 1002) rfl) rfl, by decide +kernel, by decide +kernel, by decide, by decide +kernel, by decide +kernel⟩, fun _ => ⟨bW_of (dk_tw_mem (n := 2183) rfl) rfl, bW_of (dk_sel (j := 0) (n := _) (by rfl)) rfl⟩, (fun h => absurd h (by decide)), (fun h => absurd h (by decide))⟩
/-- Tape.fail(I)Z -/
def ey94 : bY := (⟨"SpanCopier$Tape", "fail", "(I)Z"⟩, prog_11_method_4_code, (Option.some Jvm.ClassFile.FieldType.boolean))
theorem emp94 : dk_mp (ey94, 2) 0 := ⟨⟨bW_of (dk_tw_mem (n := 3025) rfl) rfl, bW_of (dk_tw_mem (n := 1002) rfl) rfl, by decide +kernel, by decide +kernel, by decide, by decide +kernel, by decide +kernel⟩, fun _ => ⟨bW_of (dk_tw_mem (n := 3024) rfl) rfl, bW_of (dk_sel (j := 9) (n := _) (by rfl)) rfl⟩, (fun h => absurd h (by decide)), (fun h => absurd h (by decide))⟩
/-- Tape.readRun()V -/
def ey97 : bY := (⟨"SpanCopier$Tape", "readRun", "()V"⟩, prog_11_method_7_code, (Option.none : Option Jvm.ClassFile.FieldType))
theorem emp97 : dk_mp (ey97, 4) 0 := ⟨⟨bW_of (dk_tw_mem (n := 2220) rfl) rfl, bW_of (dk_tw_mem (n := 1002) rfl) rfl, by decide +kernel, by decide +kernel, by decide, by decide +kernel, by decide +kernel⟩, fun _ => ⟨bW_of (dk_tw_mem (n := 2219) rfl) rfl, bW_of (dk_sel (j := 4) (n := _) (by rfl)) rfl⟩, (fun h => absurd h (by decide)), (fun h => absurd h (by decide))⟩
/-- Tape.step()V -/
def ey96 : bY := (⟨"SpanCopier$Tape", "step", "()V"⟩, prog_11_method_6_code, (Option.none : Option Jvm.ClassFile.FieldType))
theorem emp96 : dk_mp (ey96, 2) 0 := ⟨⟨bW_of (dk_tw_mem (n := 2203) rfl) rfl, bW_of (dk_tw_mem (n := 1002) rfl) rfl, by decide +kernel, by decide +kernel, by decide, by decide +kernel, by decide +kernel⟩, fun _ => ⟨bW_of (dk_tw_mem (n := 2202) rfl) rfl, bW_of (dk_sel (j := 2) (n := _) (by rfl)) rfl⟩, (fun h => absurd h (by decide)), (fun h => absurd h (by decide))⟩
/-- Tape.open(I)V -/
def ey93 : bY := (⟨"SpanCopier$Tape", "open", "(I)V"⟩, prog_11_method_3_code, (Option.none : Option Jvm.ClassFile.FieldType))
theorem emp93 : dk_mp (ey93, 2) 0 := ⟨⟨bW_of (dk_tw_mem (n := 2196) rfl) rfl, bW_of (dk_tw_mem (n := 1002) rfl) rfl, by decide +kernel, by decide +kernel, by decide, by decide +kernel, by decide +kernel⟩, fun _ => ⟨bW_of (dk_tw_mem (n := 2195) rfl) rfl, bW_of (dk_sel (j := 1) (n := _) (by rfl)) rfl⟩, (fun h => absurd h (by decide)), (fun h => absurd h (by decide))⟩
/-- Tape.stepToNumber(II)Z -/
def ey103 : bY := (⟨"SpanCopier$Tape", "stepToNumber", "(II)Z"⟩, prog_11_method_13_code, (Option.some Jvm.ClassFile.FieldType.boolean))
theorem emp103 : dk_mp (ey103, 3) 0 := ⟨⟨bW_of (dk_tw_mem (n := 3031) rfl) rfl, bW_of (dk_tw_mem (n := 1002) rfl) rfl, by decide +kernel, by decide +kernel, by decide, by decide +kernel, by decide +kernel⟩, fun _ => ⟨bW_of (dk_tw_mem (n := 3030) rfl) rfl, bW_of (dk_sel (j := 10) (n := _) (by rfl)) rfl⟩, (fun h => absurd h (by decide)), (fun h => absurd h (by decide))⟩
/-- Tape.stepOverEnd()Z -/
def ey104 : bY := (⟨"SpanCopier$Tape", "stepOverEnd", "()Z"⟩, prog_11_method_14_code, (Option.some Jvm.ClassFile.FieldType.boolean))
theorem emp104 : dk_mp (ey104, 1) 0 := ⟨⟨bW_of (dk_tw_mem (n := 3065) rfl) rfl, bW_of (dk_tw_mem (n := 1002) rfl) rfl, by decide +kernel, by decide +kernel, by decide, by decide +kernel, by decide +kernel⟩, fun _ => ⟨bW_of (dk_tw_mem (n := 3064) rfl) rfl, bW_of (dk_sel (j := 16) (n := _) (by rfl)) rfl⟩, (fun h => absurd h (by decide)), (fun h => absurd h (by decide))⟩
/-- Tape.<init>()V -/
def ey91 : bY := (⟨"SpanCopier$Tape", "<init>", "()V"⟩, prog_11_method_1_code, (Option.none : Option Jvm.ClassFile.FieldType))
theorem emp91 : dk_mp (ey91, 1) 1 := ⟨⟨bW_of (dk_tw_mem (n := 1035) rfl) rfl, bW_of (dk_tw_mem (n := 1002) rfl) rfl, by decide +kernel, by decide +kernel, by decide, by decide +kernel, by decide +kernel⟩, (fun h => absurd h (by decide)), fun _ => ⟨bW_of (dk_tw_mem (n := 1034) rfl) rfl, rfl⟩, (fun h => absurd h (by decide))⟩
/-- Order.<init>()V -/
def ey20 : bY := (⟨"SpanCopier$Order", "<init>", "()V"⟩, prog_5_method_1_code, (Option.none : Option Jvm.ClassFile.FieldType))
theorem emp20 : dk_mp (ey20, 2) 1 := ⟨⟨bW_of (dk_tw_mem (n := 2027) rfl) rfl, bW_of (dk_tw_mem (n := 1012) rfl) rfl, by decide +kernel, by decide +kernel, by decide, by decide +kernel, by decide +kernel⟩, (fun h => absurd h (by decide)), fun _ => ⟨bW_of (dk_tw_mem (n := 2026) rfl) rfl, rfl⟩, (fun h => absurd h (by decide))⟩
/-- Order.setting(I)I -/
def ey21 : bY := (⟨"SpanCopier$Order", "setting", "(I)I"⟩, prog_5_method_2_code, (Option.some Jvm.ClassFile.FieldType.int))
theorem emp21 : dk_mp (ey21, 2) 0 := ⟨⟨bW_of (dk_tw_mem (n := 5207) rfl) rfl, bW_of (dk_tw_mem (n := 1012) rfl) rfl, by decide +kernel, by decide +kernel, by decide, by decide +kernel, by decide +kernel⟩, fun _ => ⟨bW_of (dk_tw_mem (n := 5206) rfl) rfl, bW_of (dk_sel (j := 107) (n := _) (by rfl)) rfl⟩, (fun h => absurd h (by decide)), (fun h => absurd h (by decide))⟩
/-- Order.isToldFirst(LSpanCopier.Tape;I)Z -/
def ey25 : bY := (⟨"SpanCopier$Order", "isToldFirst", "(LSpanCopier$Tape;I)Z"⟩, prog_5_method_6_code, (Option.some Jvm.ClassFile.FieldType.boolean))
theorem emp25 : dk_mp (ey25, 3) 0 := ⟨⟨bW_of (dk_tw_mem (n := 3021) rfl) rfl, bW_of (dk_tw_mem (n := 1012) rfl) rfl, by decide +kernel, by decide +kernel, by decide, by decide +kernel, by decide +kernel⟩, fun _ => ⟨bW_of (dk_tw_mem (n := 3020) rfl) rfl, bW_of (dk_sel (j := 8) (n := _) (by rfl)) rfl⟩, (fun h => absurd h (by decide)), (fun h => absurd h (by decide))⟩
/-- Order.readSetting(LSpanCopier.Tape;I)Z -/
def ey24 : bY := (⟨"SpanCopier$Order", "readSetting", "(LSpanCopier$Tape;I)Z"⟩, prog_5_method_5_code, (Option.some Jvm.ClassFile.FieldType.boolean))
theorem emp24 : dk_mp (ey24, 3) 0 := ⟨⟨bW_of (dk_tw_mem (n := 3017) rfl) rfl, bW_of (dk_tw_mem (n := 1012) rfl) rfl, by decide +kernel, by decide +kernel, by decide, by decide +kernel, by decide +kernel⟩, fun _ => ⟨bW_of (dk_tw_mem (n := 3016) rfl) rfl, bW_of (dk_sel (j := 7) (n := _) (by rfl)) rfl⟩, (fun h => absurd h (by decide)), (fun h => absurd h (by decide))⟩
/-- Order.readPolicy(LSpanCopier.Tape;)Z -/
def ey26 : bY := (⟨"SpanCopier$Order", "readPolicy", "(LSpanCopier$Tape;)Z"⟩, prog_5_method_7_code, (Option.some Jvm.ClassFile.FieldType.boolean))
theorem emp26 : dk_mp (ey26, 2) 0 := ⟨⟨bW_of (dk_tw_mem (n := 3036) rfl) rfl, bW_of (dk_tw_mem (n := 1012) rfl) rfl, by decide +kernel, by decide +kernel, by decide, by decide +kernel, by decide +kernel⟩, fun _ => ⟨bW_of (dk_tw_mem (n := 3035) rfl) rfl, bW_of (dk_sel (j := 11) (n := _) (by rfl)) rfl⟩, (fun h => absurd h (by decide)), (fun h => absurd h (by decide))⟩
/-- Order.readName(LSpanCopier.Tape;)Z -/
def ey30 : bY := (⟨"SpanCopier$Order", "readName", "(LSpanCopier$Tape;)Z"⟩, prog_5_method_11_code, (Option.some Jvm.ClassFile.FieldType.boolean))
theorem emp30 : dk_mp (ey30, 2) 0 := ⟨⟨bW_of (dk_tw_mem (n := 3045) rfl) rfl, bW_of (dk_tw_mem (n := 1012) rfl) rfl, by decide +kernel, by decide +kernel, by decide, by decide +kernel, by decide +kernel⟩, fun _ => ⟨bW_of (dk_tw_mem (n := 3044) rfl) rfl, bW_of (dk_sel (j := 13) (n := _) (by rfl)) rfl⟩, (fun h => absurd h (by decide)), (fun h => absurd h (by decide))⟩
/-- Order.readTo(LSpanCopier.Tape;)Z -/
def ey27 : bY := (⟨"SpanCopier$Order", "readTo", "(LSpanCopier$Tape;)Z"⟩, prog_5_method_8_code, (Option.some Jvm.ClassFile.FieldType.boolean))
theorem emp27 : dk_mp (ey27, 2) 0 := ⟨⟨bW_of (dk_tw_mem (n := 3041) rfl) rfl, bW_of (dk_tw_mem (n := 1012) rfl) rfl, by decide +kernel, by decide +kernel, by decide, by decide +kernel, by decide +kernel⟩, fun _ => ⟨bW_of (dk_tw_mem (n := 3040) rfl) rfl, bW_of (dk_sel (j := 12) (n := _) (by rfl)) rfl⟩, (fun h => absurd h (by decide)), (fun h => absurd h (by decide))⟩
/-- Order.readHas(LSpanCopier.Tape;)Z -/
def ey28 : bY := (⟨"SpanCopier$Order", "readHas", "(LSpanCopier$Tape;)Z"⟩, prog_5_method_9_code, (Option.some Jvm.ClassFile.FieldType.boolean))
theorem emp28 : dk_mp (ey28, 2) 0 := ⟨⟨bW_of (dk_tw_mem (n := 3049) rfl) rfl, bW_of (dk_tw_mem (n := 1012) rfl) rfl, by decide +kernel, by decide +kernel, by decide, by decide +kernel, by decide +kernel⟩, fun _ => ⟨bW_of (dk_tw_mem (n := 3048) rfl) rfl, bW_of (dk_sel (j := 14) (n := _) (by rfl)) rfl⟩, (fun h => absurd h (by decide)), (fun h => absurd h (by decide))⟩
/-- Order.readAct(LSpanCopier.Tape;)Z -/
def ey29 : bY := (⟨"SpanCopier$Order", "readAct", "(LSpanCopier$Tape;)Z"⟩, prog_5_method_10_code, (Option.some Jvm.ClassFile.FieldType.boolean))
theorem emp29 : dk_mp (ey29, 5) 0 := ⟨⟨bW_of (dk_tw_mem (n := 3053) rfl) rfl, bW_of (dk_tw_mem (n := 1012) rfl) rfl, by decide +kernel, by decide +kernel, by decide, by decide +kernel, by decide +kernel⟩, fun _ => ⟨bW_of (dk_tw_mem (n := 3052) rfl) rfl, bW_of (dk_sel (j := 15) (n := _) (by rfl)) rfl⟩, (fun h => absurd h (by decide)), (fun h => absurd h (by decide))⟩
/-- Order.readLine(LSpanCopier.Tape;)Z -/
def ey23 : bY := (⟨"SpanCopier$Order", "readLine", "(LSpanCopier$Tape;)Z"⟩, prog_5_method_4_code, (Option.some Jvm.ClassFile.FieldType.boolean))
theorem emp23 : dk_mp (ey23, 2) 0 := ⟨⟨bW_of (dk_tw_mem (n := 3005) rfl) rfl, bW_of (dk_tw_mem (n := 1012) rfl) rfl, by decide +kernel, by decide +kernel, by decide, by decide +kernel, by decide +kernel⟩, fun _ => ⟨bW_of (dk_tw_mem (n := 3004) rfl) rfl, bW_of (dk_sel (j := 6) (n := _) (by rfl)) rfl⟩, (fun h => absurd h (by decide)), (fun h => absurd h (by decide))⟩
/-- Order.readLines(LSpanCopier.Tape;)I -/
def ey22 : bY := (⟨"SpanCopier$Order", "readLines", "(LSpanCopier$Tape;)I"⟩, prog_5_method_3_code, (Option.some Jvm.ClassFile.FieldType.int))
theorem emp22 : dk_mp (ey22, 3) 0 := ⟨⟨bW_of (dk_tw_mem (n := 3001) rfl) rfl, bW_of (dk_tw_mem (n := 1012) rfl) rfl, by decide +kernel, by decide +kernel, by decide, by decide +kernel, by decide +kernel⟩, fun _ => ⟨bW_of (dk_tw_mem (n := 3000) rfl) rfl, bW_of (dk_sel (j := 5) (n := _) (by rfl)) rfl⟩, (fun h => absurd h (by decide)), (fun h => absurd h (by decide))⟩
/-- Book.<init>()V -/
def ey0 : bY := (⟨"SpanCopier$Book", "<init>", "()V"⟩, prog_3_method_1_code, (Option.none : Option Jvm.ClassFile.FieldType))
theorem emp0 : dk_mp (ey0, 2) 1 := ⟨⟨bW_of (dk_tw_mem (n := 1093) rfl) rfl, bW_of (dk_tw_mem (n := 1005) rfl) rfl, by decide +kernel, by decide +kernel, by decide, by decide +kernel, by decide +kernel⟩, (fun h => absurd h (by decide)), fun _ => ⟨bW_of (dk_tw_mem (n := 1092) rfl) rfl, rfl⟩, (fun h => absurd h (by decide))⟩
/-- Book.takesUnit(LSpanCopier.Word;)Z -/
def ey3 : bY := (⟨"SpanCopier$Book", "takesUnit", "(LSpanCopier$Word;)Z"⟩, prog_3_method_4_code, (Option.some Jvm.ClassFile.FieldType.boolean))
theorem emp3 : dk_mp (ey3, 1) 2 := ⟨⟨bW_of (dk_tw_mem (n := 5062) rfl) rfl, bW_of (dk_tw_mem (n := 1005) rfl) rfl, by decide +kernel, by decide +kernel, by decide, by decide +kernel, by decide +kernel⟩, (fun h => absurd h (by decide)), (fun h => absurd h (by decide)), fun _ => bW_of (dk_tw_mem (n := 5061) rfl) rfl⟩
/-- Book.takesTicks(LSpanCopier.Word;)Z -/
def ey4 : bY := (⟨"SpanCopier$Book", "takesTicks", "(LSpanCopier$Word;)Z"⟩, prog_3_method_5_code, (Option.some Jvm.ClassFile.FieldType.boolean))
theorem emp4 : dk_mp (ey4, 1) 2 := ⟨⟨bW_of (dk_tw_mem (n := 5073) rfl) rfl, bW_of (dk_tw_mem (n := 1005) rfl) rfl, by decide +kernel, by decide +kernel, by decide, by decide +kernel, by decide +kernel⟩, (fun h => absurd h (by decide)), (fun h => absurd h (by decide)), fun _ => bW_of (dk_tw_mem (n := 5072) rfl) rfl⟩
/-- Book.readLine(LSpanCopier.Tape;I)Z -/
def ey2 : bY := (⟨"SpanCopier$Book", "readLine", "(LSpanCopier$Tape;I)Z"⟩, prog_3_method_3_code, (Option.some Jvm.ClassFile.FieldType.boolean))
theorem emp2 : dk_mp (ey2, 4) 0 := ⟨⟨bW_of (dk_tw_mem (n := 5059) rfl) rfl, bW_of (dk_tw_mem (n := 1005) rfl) rfl, by decide +kernel, by decide +kernel, by decide, by decide +kernel, by decide +kernel⟩, fun _ => ⟨bW_of (dk_tw_mem (n := 5058) rfl) rfl, bW_of (dk_sel (j := 95) (n := _) (by rfl)) rfl⟩, (fun h => absurd h (by decide)), (fun h => absurd h (by decide))⟩
/-- Book.readLines(LSpanCopier.Tape;)Z -/
def ey1 : bY := (⟨"SpanCopier$Book", "readLines", "(LSpanCopier$Tape;)Z"⟩, prog_3_method_2_code, (Option.some Jvm.ClassFile.FieldType.boolean))
theorem emp1 : dk_mp (ey1, 3) 0 := ⟨⟨bW_of (dk_tw_mem (n := 5055) rfl) rfl, bW_of (dk_tw_mem (n := 1005) rfl) rfl, by decide +kernel, by decide +kernel, by decide, by decide +kernel, by decide +kernel⟩, fun _ => ⟨bW_of (dk_tw_mem (n := 5054) rfl) rfl, bW_of (dk_sel (j := 94) (n := _) (by rfl)) rfl⟩, (fun h => absurd h (by decide)), (fun h => absurd h (by decide))⟩
/-- Places.<init>()V -/
def ey31 : bY := (⟨"SpanCopier$Places", "<init>", "()V"⟩, prog_6_method_1_code, (Option.none : Option Jvm.ClassFile.FieldType))
theorem emp31 : dk_mp (ey31, 1) 1 := ⟨⟨bW_of (dk_tw_mem (n := 1161) rfl) rfl, bW_of (dk_tw_mem (n := 1009) rfl) rfl, by decide +kernel, by decide +kernel, by decide, by decide +kernel, by decide +kernel⟩, (fun h => absurd h (by decide)), fun _ => ⟨bW_of (dk_tw_mem (n := 1160) rfl) rfl, rfl⟩, (fun h => absurd h (by decide))⟩
/-- Places.copyFrom(LSpanCopier.Places;)V -/
def ey32 : bY := (⟨"SpanCopier$Places", "copyFrom", "(LSpanCopier$Places;)V"⟩, prog_6_method_2_code, (Option.none : Option Jvm.ClassFile.FieldType))
theorem emp32 : dk_mp (ey32, 2) 0 := ⟨⟨bW_of (dk_tw_mem (n := 3133) rfl) rfl, bW_of (dk_tw_mem (n := 1009) rfl) rfl, by decide +kernel, by decide +kernel, by decide, by decide +kernel, by decide +kernel⟩, fun _ => ⟨bW_of (dk_tw_mem (n := 3132) rfl) rfl, bW_of (dk_sel (j := 29) (n := _) (by rfl)) rfl⟩, (fun h => absurd h (by decide)), (fun h => absurd h (by decide))⟩
/-- Places.clear()V -/
def ey33 : bY := (⟨"SpanCopier$Places", "clear", "()V"⟩, prog_6_method_3_code, (Option.none : Option Jvm.ClassFile.FieldType))
theorem emp33 : dk_mp (ey33, 1) 0 := ⟨⟨bW_of (dk_tw_mem (n := 3089) rfl) rfl, bW_of (dk_tw_mem (n := 1009) rfl) rfl, by decide +kernel, by decide +kernel, by decide, by decide +kernel, by decide +kernel⟩, fun _ => ⟨bW_of (dk_tw_mem (n := 3088) rfl) rfl, bW_of (dk_sel (j := 22) (n := _) (by rfl)) rfl⟩, (fun h => absurd h (by decide)), (fun h => absurd h (by decide))⟩
/-- Places.has(I)Z -/
def ey34 : bY := (⟨"SpanCopier$Places", "has", "(I)Z"⟩, prog_6_method_4_code, (Option.some Jvm.ClassFile.FieldType.boolean))
theorem emp34 : dk_mp (ey34, 2) 0 := ⟨⟨bW_of (dk_tw_mem (n := 4074) rfl) rfl, bW_of (dk_tw_mem (n := 1009) rfl) rfl, by decide +kernel, by decide +kernel, by decide, by decide +kernel, by decide +kernel⟩, fun _ => ⟨bW_of (dk_tw_mem (n := 4073) rfl) rfl, bW_of (dk_sel (j := 64) (n := _) (by rfl)) rfl⟩, (fun h => absurd h (by decide)), (fun h => absurd h (by decide))⟩
