/-- Math.min(II)I -/
def ey301 : bY := (⟨"java/lang/Math", "min", "(II)I"⟩, prog_20_method_69_code, (Option.some Jvm.ClassFile.FieldType.int))
theorem emp301 : dk_mp (ey301, 2) 2 := ⟨⟨bW_of (dk_tw_mem (n := 2199) (by decide +kernel)) rfl, bW_of (dk_tw_mem (n := 1016) (by decide +kernel)) rfl, by decide +kernel, by decide +kernel, by decide, by decide +kernel, by decide +kernel⟩, (fun h => absurd h (by decide)), (fun h => absurd h (by decide)), fun _ => bW_of (dk_tw_mem (n := 2198) (by decide +kernel)) rfl⟩
/-- Math.max(II)I -/
def ey300 : bY := (⟨"java/lang/Math", "max", "(II)I"⟩, prog_20_method_65_code, (Option.some Jvm.ClassFile.FieldType.int))
theorem emp300 : dk_mp (ey300, 2) 2 := ⟨⟨bW_of (dk_tw_mem (n := 3211) (by decide +kernel)) rfl, bW_of (dk_tw_mem (n := 1016) (by decide +kernel)) rfl, by decide +kernel, by decide +kernel, by decide, by decide +kernel, by decide +kernel⟩, (fun h => absurd h (by decide)), (fun h => absurd h (by decide)), fun _ => bW_of (dk_tw_mem (n := 3210) (by decide +kernel)) rfl⟩
/-- Arrays.fill([II)V -/
def ey302 : bY := (⟨"java/util/Arrays", "fill", "([II)V"⟩, prog_24_method_103_code, (Option.none : Option Jvm.ClassFile.FieldType))
theorem emp302 : dk_mp (ey302, 4) 2 := ⟨⟨bW_of (dk_tw_mem (n := 2139) (by decide +kernel)) rfl, bW_of (dk_tw_mem (n := 1014) (by decide +kernel)) rfl, by decide +kernel, by decide +kernel, by decide, by decide +kernel, by decide +kernel⟩, (fun h => absurd h (by decide)), (fun h => absurd h (by decide)), fun _ => bW_of (dk_tw_mem (n := 2138) (by decide +kernel)) rfl⟩
/-- Arrays.fill([BB)V -/
def ey303 : bY := (⟨"java/util/Arrays", "fill", "([BB)V"⟩, prog_24_method_109_code, (Option.none : Option Jvm.ClassFile.FieldType))
theorem emp303 : dk_mp (ey303, 4) 2 := ⟨⟨bW_of (dk_tw_mem (n := 3092) (by decide +kernel)) rfl, bW_of (dk_tw_mem (n := 1014) (by decide +kernel)) rfl, by decide +kernel, by decide +kernel, by decide, by decide +kernel, by decide +kernel⟩, (fun h => absurd h (by decide)), (fun h => absurd h (by decide)), fun _ => bW_of (dk_tw_mem (n := 3091) (by decide +kernel)) rfl⟩
/-- Arrays.copyOf([BI)[B -/
def ey304 : bY := (⟨"java/util/Arrays", "copyOf", "([BI)[B"⟩, prog_24_method_121_code, (Option.some (Jvm.ClassFile.FieldType.array Jvm.ClassFile.FieldType.byte)))
theorem emp304 : dk_mp (ey304, 3) 2 := ⟨⟨bW_of (dk_tw_mem (n := 3148) (by decide +kernel)) rfl, bW_of (dk_tw_mem (n := 1014) (by decide +kernel)) rfl, by decide +kernel, by decide +kernel, by decide, by decide +kernel, by decide +kernel⟩, (fun h => absurd h (by decide)), (fun h => absurd h (by decide)), fun _ => bW_of (dk_tw_mem (n := 3147) (by decide +kernel)) rfl⟩
/-- Word.withLetter(JI)J -/
def ey105 : bY := (⟨"SpanCopier$Word", "withLetter", "(JI)J"⟩, prog_12_method_4_code, (Option.some Jvm.ClassFile.FieldType.long))
theorem emp105 : dk_mp (ey105, 3) 2 := ⟨⟨bW_of (dk_tw_mem (n := 2223) (by decide +kernel)) rfl, bW_of (dk_tw_mem (n := 1004) (by decide +kernel)) rfl, by decide +kernel, by decide +kernel, by decide, by decide +kernel, by decide +kernel⟩, (fun h => absurd h (by decide)), (fun h => absurd h (by decide)), fun _ => bW_of (dk_tw_mem (n := 2222) (by decide +kernel)) rfl⟩
/-- Tape.isBlank(I)Z -/
def ey98 : bY := (⟨"SpanCopier$Tape", "isBlank", "(I)Z"⟩, prog_11_method_8_code, (Option.some Jvm.ClassFile.FieldType.boolean))
theorem emp98 : dk_mp (ey98, 1) 2 := ⟨⟨bW_of (dk_tw_mem (n := 2210) (by decide +kernel)) rfl, bW_of (dk_tw_mem (n := 1002) (by decide +kernel)) rfl, by decide +kernel, by decide +kernel, by decide, by decide +kernel, by decide +kernel⟩, (fun h => absurd h (by decide)), (fun h => absurd h (by decide)), fun _ => bW_of (dk_tw_mem (n := 2209) (by decide +kernel)) rfl⟩
/-- Tape.isLetter(I)Z -/
def ey99 : bY := (⟨"SpanCopier$Tape", "isLetter", "(I)Z"⟩, prog_11_method_9_code, (Option.some Jvm.ClassFile.FieldType.boolean))
theorem emp99 : dk_mp (ey99, 1) 2 := ⟨⟨bW_of (dk_tw_mem (n := 2213) (by decide +kernel)) rfl, bW_of (dk_tw_mem (n := 1002) (by decide +kernel)) rfl, by decide +kernel, by decide +kernel, by decide, by decide +kernel, by decide +kernel⟩, (fun h => absurd h (by decide)), (fun h => absurd h (by decide)), fun _ => bW_of (dk_tw_mem (n := 2212) (by decide +kernel)) rfl⟩
/-- Tape.isDigit(I)Z -/
def ey100 : bY := (⟨"SpanCopier$Tape", "isDigit", "(I)Z"⟩, prog_11_method_10_code, (Option.some Jvm.ClassFile.FieldType.boolean))
theorem emp100 : dk_mp (ey100, 1) 2 := ⟨⟨bW_of (dk_tw_mem (n := 2216) (by decide +kernel)) rfl, bW_of (dk_tw_mem (n := 1002) (by decide +kernel)) rfl, by decide +kernel, by decide +kernel, by decide, by decide +kernel, by decide +kernel⟩, (fun h => absurd h (by decide)), (fun h => absurd h (by decide)), fun _ => bW_of (dk_tw_mem (n := 2215) (by decide +kernel)) rfl⟩
/-- Tape.isCompare(I)Z -/
def ey102 : bY := (⟨"SpanCopier$Tape", "isCompare", "(I)Z"⟩, prog_11_method_12_code, (Option.some Jvm.ClassFile.FieldType.boolean))
theorem emp102 : dk_mp (ey102, 1) 2 := ⟨⟨bW_of (dk_tw_mem (n := 2235) (by decide +kernel)) rfl, bW_of (dk_tw_mem (n := 1002) (by decide +kernel)) rfl, by decide +kernel, by decide +kernel, by decide, by decide +kernel, by decide +kernel⟩, (fun h => absurd h (by decide)), (fun h => absurd h (by decide)), fun _ => bW_of (dk_tw_mem (n := 2234) (by decide +kernel)) rfl⟩
/-- Tape.isSign(I)Z -/
def ey101 : bY := (⟨"SpanCopier$Tape", "isSign", "(I)Z"⟩, prog_11_method_11_code, (Option.some Jvm.ClassFile.FieldType.boolean))
theorem emp101 : dk_mp (ey101, 1) 2 := ⟨⟨bW_of (dk_tw_mem (n := 2232) (by decide +kernel)) rfl, bW_of (dk_tw_mem (n := 1002) (by decide +kernel)) rfl, by decide +kernel, by decide +kernel, by decide, by decide +kernel, by decide +kernel⟩, (fun h => absurd h (by decide)), (fun h => absurd h (by decide)), fun _ => bW_of (dk_tw_mem (n := 2231) (by decide +kernel)) rfl⟩
/-- Tape.byteAt(I)I -/
def ey95 : bY := (⟨"SpanCopier$Tape", "byteAt", "(I)I"⟩, prog_11_method_5_code, (Option.some Jvm.ClassFile.FieldType.int))
theorem emp95 : dk_mp (ey95, 2) 0 := ⟨⟨bW_of (dk_tw_mem (n := 2207) (by decide +kernel)) rfl, bW_of (dk_tw_mem (n := 1002) (by decide +kernel)) rfl, by decide +kernel, by decide +kernel, by decide, by decide +kernel, by decide +kernel⟩, fun _ => ⟨bW_of (dk_tw_mem (n := 2206) (by decide +kernel)) rfl, bW_of (dk_sel (j := 3) (n := _) (by rfl)) rfl⟩, (fun h => absurd h (by decide)), (fun h => absurd h (by decide))⟩
/-- Tape.put(I)V -/
def ey92 : bY := (⟨"SpanCopier$Tape", "put", "(I)V"⟩, prog_11_method_2_code, (Option.none : Option Jvm.ClassFile.FieldType))
theorem emp92 : dk_mp (ey92, 3) 0 := ⟨⟨bW_of (dk_tw_mem (n := 2184) (by decide +kernel)) rfl, bW_of (dk_tw_mem (n := 1002) (by decide +kernel)) rfl, by decide +kernel, by decide +kernel, by decide, by decide +kernel, by decide +kernel⟩, fun _ => ⟨bW_of (dk_tw_mem (n := 2183) (by decide +kernel)) rfl, bW_of (dk_sel (j := 0) (n := _) (by rfl)) rfl⟩, (fun h => absurd h (by decide)), (fun h => absurd h (by decide))⟩
/-- Tape.fail(I)Z -/
def ey94 : bY := (⟨"SpanCopier$Tape", "fail", "(I)Z"⟩, prog_11_method_4_code, (Option.some Jvm.ClassFile.FieldType.boolean))
theorem emp94 : dk_mp (ey94, 2) 0 := ⟨⟨bW_of (dk_tw_mem (n := 3025) (by decide +kernel)) rfl, bW_of (dk_tw_mem (n := 1002) (by decide +kernel)) rfl, by decide +kernel, by decide +kernel, by decide, by decide +kernel, by decide +kernel⟩, fun _ => ⟨bW_of (dk_tw_mem (n := 3024) (by decide +kernel)) rfl, bW_of (dk_sel (j := 9) (n := _) (by rfl)) rfl⟩, (fun h => absurd h (by decide)), (fun h => absurd h (by decide))⟩
/-- Tape.readRun()V -/
def ey97 : bY := (⟨"SpanCopier$Tape", "readRun", "()V"⟩, prog_11_method_7_code, (Option.none : Option Jvm.ClassFile.FieldType))
theorem emp97 : dk_mp (ey97, 4) 0 := ⟨⟨bW_of (dk_tw_mem (n := 2220) (by decide +kernel)) rfl, bW_of (dk_tw_mem (n := 1002) (by decide +kernel)) rfl, by decide +kernel, by decide +kernel, by decide, by decide +kernel, by decide +kernel⟩, fun _ => ⟨bW_of (dk_tw_mem (n := 2219) (by decide +kernel)) rfl, bW_of (dk_sel (j := 4) (n := _) (by rfl)) rfl⟩, (fun h => absurd h (by decide)), (fun h => absurd h (by decide))⟩
/-- Tape.step()V -/
def ey96 : bY := (⟨"SpanCopier$Tape", "step", "()V"⟩, prog_11_method_6_code, (Option.none : Option Jvm.ClassFile.FieldType))
theorem emp96 : dk_mp (ey96, 2) 0 := ⟨⟨bW_of (dk_tw_mem (n := 2203) (by decide +kernel)) rfl, bW_of (dk_tw_mem (n := 1002) (by decide +kernel)) rfl, by decide +kernel, by decide +kernel, by decide, by decide +kernel, by decide +kernel⟩, fun _ => ⟨bW_of (dk_tw_mem (n := 2202) (by decide +kernel)) rfl, bW_of (dk_sel (j := 2) (n := _) (by rfl)) rfl⟩, (fun h => absurd h (by decide)), (fun h => absurd h (by decide))⟩
/-- Tape.open(I)V -/
def ey93 : bY := (⟨"SpanCopier$Tape", "open", "(I)V"⟩, prog_11_method_3_code, (Option.none : Option Jvm.ClassFile.FieldType))
theorem emp93 : dk_mp (ey93, 2) 0 := ⟨⟨bW_of (dk_tw_mem (n := 2196) (by decide +kernel)) rfl, bW_of (dk_tw_mem (n := 1002) (by decide +kernel)) rfl, by decide +kernel, by decide +kernel, by decide, by decide +kernel, by decide +kernel⟩, fun _ => ⟨bW_of (dk_tw_mem (n := 2195) (by decide +kernel)) rfl, bW_of (dk_sel (j := 1) (n := _) (by rfl)) rfl⟩, (fun h => absurd h (by decide)), (fun h => absurd h (by decide))⟩
/-- Tape.stepToNumber(II)Z -/
def ey103 : bY := (⟨"SpanCopier$Tape", "stepToNumber", "(II)Z"⟩, prog_11_method_13_code, (Option.some Jvm.ClassFile.FieldType.boolean))
theorem emp103 : dk_mp (ey103, 3) 0 := ⟨⟨bW_of (dk_tw_mem (n := 3031) (by decide +kernel)) rfl, bW_of (dk_tw_mem (n := 1002) (by decide +kernel)) rfl, by decide +kernel, by decide +kernel, by decide, by decide +kernel, by decide +kernel⟩, fun _ => ⟨bW_of (dk_tw_mem (n := 3030) (by decide +kernel)) rfl, bW_of (dk_sel (j := 10) (n := _) (by rfl)) rfl⟩, (fun h => absurd h (by decide)), (fun h => absurd h (by decide))⟩
/-- Tape.stepOverEnd()Z -/
def ey104 : bY := (⟨"SpanCopier$Tape", "stepOverEnd", "()Z"⟩, prog_11_method_14_code, (Option.some Jvm.ClassFile.FieldType.boolean))
theorem emp104 : dk_mp (ey104, 1) 0 := ⟨⟨bW_of (dk_tw_mem (n := 3065) (by decide +kernel)) rfl, bW_of (dk_tw_mem (n := 1002) (by decide +kernel)) rfl, by decide +kernel, by decide +kernel, by decide, by decide +kernel, by decide +kernel⟩, fun _ => ⟨bW_of (dk_tw_mem (n := 3064) (by decide +kernel)) rfl, bW_of (dk_sel (j := 16) (n := _) (by rfl)) rfl⟩, (fun h => absurd h (by decide)), (fun h => absurd h (by decide))⟩
/-- Tape.<init>()V -/
def ey91 : bY := (⟨"SpanCopier$Tape", "<init>", "()V"⟩, prog_11_method_1_code, (Option.none : Option Jvm.ClassFile.FieldType))
theorem emp91 : dk_mp (ey91, 1) 1 := ⟨⟨bW_of (dk_tw_mem (n := 1035) (by decide +kernel)) rfl, bW_of (dk_tw_mem (n := 1002) (by decide +kernel)) rfl, by decide +kernel, by decide +kernel, by decide, by decide +kernel, by decide +kernel⟩, (fun h => absurd h (by decide)), fun _ => ⟨bW_of (dk_tw_mem (n := 1034) (by decide +kernel)) rfl, rfl⟩, (fun h => absurd h (by decide))⟩
/-- Order.<init>()V -/
def ey20 : bY := (⟨"SpanCopier$Order", "<init>", "()V"⟩, prog_5_method_1_code, (Option.none : Option Jvm.ClassFile.FieldType))
theorem emp20 : dk_mp (ey20, 2) 1 := ⟨⟨bW_of (dk_tw_mem (n := 2027) (by decide +kernel)) rfl, bW_of (dk_tw_mem (n := 1012) (by decide +kernel)) rfl, by decide +kernel, by decide +kernel, by decide, by decide +kernel, by decide +kernel⟩, (fun h => absurd h (by decide)), fun _ => ⟨bW_of (dk_tw_mem (n := 2026) (by decide +kernel)) rfl, rfl⟩, (fun h => absurd h (by decide))⟩
/-- Order.setting(I)I -/
def ey21 : bY := (⟨"SpanCopier$Order", "setting", "(I)I"⟩, prog_5_method_2_code, (Option.some Jvm.ClassFile.FieldType.int))
theorem emp21 : dk_mp (ey21, 2) 0 := ⟨⟨bW_of (dk_tw_mem (n := 5207) (by decide +kernel)) rfl, bW_of (dk_tw_mem (n := 1012) (by decide +kernel)) rfl, by decide +kernel, by decide +kernel, by decide, by decide +kernel, by decide +kernel⟩, fun _ => ⟨bW_of (dk_tw_mem (n := 5206) (by decide +kernel)) rfl, bW_of (dk_sel (j := 107) (n := _) (by rfl)) rfl⟩, (fun h => absurd h (by decide)), (fun h => absurd h (by decide))⟩
/-- Order.isToldFirst(LSpanCopier.Tape;I)Z -/
def ey25 : bY := (⟨"SpanCopier$Order", "isToldFirst", "(LSpanCopier$Tape;I)Z"⟩, prog_5_method_6_code, (Option.some Jvm.ClassFile.FieldType.boolean))
theorem emp25 : dk_mp (ey25, 3) 0 := ⟨⟨bW_of (dk_tw_mem (n := 3021) (by decide +kernel)) rfl, bW_of (dk_tw_mem (n := 1012) (by decide +kernel)) rfl, by decide +kernel, by decide +kernel, by decide, by decide +kernel, by decide +kernel⟩, fun _ => ⟨bW_of (dk_tw_mem (n := 3020) (by decide +kernel)) rfl, bW_of (dk_sel (j := 8) (n := _) (by rfl)) rfl⟩, (fun h => absurd h (by decide)), (fun h => absurd h (by decide))⟩
/-- Order.readSetting(LSpanCopier.Tape;I)Z -/
def ey24 : bY := (⟨"SpanCopier$Order", "readSetting", "(LSpanCopier$Tape;I)Z"⟩, prog_5_method_5_code, (Option.some Jvm.ClassFile.FieldType.boolean))
theorem emp24 : dk_mp (ey24, 3) 0 := ⟨⟨bW_of (dk_tw_mem (n := 3017) (by decide +kernel)) rfl, bW_of (dk_tw_mem (n := 1012) (by decide +kernel)) rfl, by decide +kernel, by decide +kernel, by decide, by decide +kernel, by decide +kernel⟩, fun _ => ⟨bW_of (dk_tw_mem (n := 3016) (by decide +kernel)) rfl, bW_of (dk_sel (j := 7) (n := _) (by rfl)) rfl⟩, (fun h => absurd h (by decide)), (fun h => absurd h (by decide))⟩
/-- Order.readPolicy(LSpanCopier.Tape;)Z -/
def ey26 : bY := (⟨"SpanCopier$Order", "readPolicy", "(LSpanCopier$Tape;)Z"⟩, prog_5_method_7_code, (Option.some Jvm.ClassFile.FieldType.boolean))
theorem emp26 : dk_mp (ey26, 2) 0 := ⟨⟨bW_of (dk_tw_mem (n := 3036) (by decide +kernel)) rfl, bW_of (dk_tw_mem (n := 1012) (by decide +kernel)) rfl, by decide +kernel, by decide +kernel, by decide, by decide +kernel, by decide +kernel⟩, fun _ => ⟨bW_of (dk_tw_mem (n := 3035) (by decide +kernel)) rfl, bW_of (dk_sel (j := 11) (n := _) (by rfl)) rfl⟩, (fun h => absurd h (by decide)), (fun h => absurd h (by decide))⟩
/-- Order.readName(LSpanCopier.Tape;)Z -/
def ey30 : bY := (⟨"SpanCopier$Order", "readName", "(LSpanCopier$Tape;)Z"⟩, prog_5_method_11_code, (Option.some Jvm.ClassFile.FieldType.boolean))
theorem emp30 : dk_mp (ey30, 2) 0 := ⟨⟨bW_of (dk_tw_mem (n := 3045) (by decide +kernel)) rfl, bW_of (dk_tw_mem (n := 1012) (by decide +kernel)) rfl, by decide +kernel, by decide +kernel, by decide, by decide +kernel, by decide +kernel⟩, fun _ => ⟨bW_of (dk_tw_mem (n := 3044) (by decide +kernel)) rfl, bW_of (dk_sel (j := 13) (n := _) (by rfl)) rfl⟩, (fun h => absurd h (by decide)), (fun h => absurd h (by decide))⟩
/-- Order.readTo(LSpanCopier.Tape;)Z -/
def ey27 : bY := (⟨"SpanCopier$Order", "readTo", "(LSpanCopier$Tape;)Z"⟩, prog_5_method_8_code, (Option.some Jvm.ClassFile.FieldType.boolean))
theorem emp27 : dk_mp (ey27, 2) 0 := ⟨⟨bW_of (dk_tw_mem (n := 3041) (by decide +kernel)) rfl, bW_of (dk_tw_mem (n := 1012) (by decide +kernel)) rfl, by decide +kernel, by decide +kernel, by decide, by decide +kernel, by decide +kernel⟩, fun _ => ⟨bW_of (dk_tw_mem (n := 3040) (by decide +kernel)) rfl, bW_of (dk_sel (j := 12) (n := _) (by rfl)) rfl⟩, (fun h => absurd h (by decide)), (fun h => absurd h (by decide))⟩
/-- Order.readHas(LSpanCopier.Tape;)Z -/
def ey28 : bY := (⟨"SpanCopier$Order", "readHas", "(LSpanCopier$Tape;)Z"⟩, prog_5_method_9_code, (Option.some Jvm.ClassFile.FieldType.boolean))
theorem emp28 : dk_mp (ey28, 2) 0 := ⟨⟨bW_of (dk_tw_mem (n := 3049) (by decide +kernel)) rfl, bW_of (dk_tw_mem (n := 1012) (by decide +kernel)) rfl, by decide +kernel, by decide +kernel, by decide, by decide +kernel, by decide +kernel⟩, fun _ => ⟨bW_of (dk_tw_mem (n := 3048) (by decide +kernel)) rfl, bW_of (dk_sel (j := 14) (n := _) (by rfl)) rfl⟩, (fun h => absurd h (by decide)), (fun h => absurd h (by decide))⟩
/-- Order.readAct(LSpanCopier.Tape;)Z -/
def ey29 : bY := (⟨"SpanCopier$Order", "readAct", "(LSpanCopier$Tape;)Z"⟩, prog_5_method_10_code, (Option.some Jvm.ClassFile.FieldType.boolean))
theorem emp29 : dk_mp (ey29, 5) 0 := ⟨⟨bW_of (dk_tw_mem (n := 3053) (by decide +kernel)) rfl, bW_of (dk_tw_mem (n := 1012) (by decide +kernel)) rfl, by decide +kernel, by decide +kernel, by decide, by decide +kernel, by decide +kernel⟩, fun _ => ⟨bW_of (dk_tw_mem (n := 3052) (by decide +kernel)) rfl, bW_of (dk_sel (j := 15) (n := _) (by rfl)) rfl⟩, (fun h => absurd h (by decide)), (fun h => absurd h (by decide))⟩
/-- Order.readLine(LSpanCopier.Tape;)Z -/
def ey23 : bY := (⟨"SpanCopier$Order", "readLine", "(LSpanCopier$Tape;)Z"⟩, prog_5_method_4_code, (Option.some Jvm.ClassFile.FieldType.boolean))
theorem emp23 : dk_mp (ey23, 2) 0 := ⟨⟨bW_of (dk_tw_mem (n := 3005) (by decide +kernel)) rfl, bW_of (dk_tw_mem (n := 1012) (by decide +kernel)) rfl, by decide +kernel, by decide +kernel, by decide, by decide +kernel, by decide +kernel⟩, fun _ => ⟨bW_of (dk_tw_mem (n := 3004) (by decide +kernel)) rfl, bW_of (dk_sel (j := 6) (n := _) (by rfl)) rfl⟩, (fun h => absurd h (by decide)), (fun h => absurd h (by decide))⟩
/-- Order.readLines(LSpanCopier.Tape;)I -/
def ey22 : bY := (⟨"SpanCopier$Order", "readLines", "(LSpanCopier$Tape;)I"⟩, prog_5_method_3_code, (Option.some Jvm.ClassFile.FieldType.int))
theorem emp22 : dk_mp (ey22, 3) 0 := ⟨⟨bW_of (dk_tw_mem (n := 3001) (by decide +kernel)) rfl, bW_of (dk_tw_mem (n := 1012) (by decide +kernel)) rfl, by decide +kernel, by decide +kernel, by decide, by decide +kernel, by decide +kernel⟩, fun _ => ⟨bW_of (dk_tw_mem (n := 3000) (by decide +kernel)) rfl, bW_of (dk_sel (j := 5) (n := _) (by rfl)) rfl⟩, (fun h => absurd h (by decide)), (fun h => absurd h (by decide))⟩
/-- Book.<init>()V -/
def ey0 : bY := (⟨"SpanCopier$Book", "<init>", "()V"⟩, prog_3_method_1_code, (Option.none : Option Jvm.ClassFile.FieldType))
theorem emp0 : dk_mp (ey0, 2) 1 := ⟨⟨bW_of (dk_tw_mem (n := 1093) (by decide +kernel)) rfl, bW_of (dk_tw_mem (n := 1005) (by decide +kernel)) rfl, by decide +kernel, by decide +kernel, by decide, by decide +kernel, by decide +kernel⟩, (fun h => absurd h (by decide)), fun _ => ⟨bW_of (dk_tw_mem (n := 1092) (by decide +kernel)) rfl, rfl⟩, (fun h => absurd h (by decide))⟩
/-- Book.takesUnit(LSpanCopier.Word;)Z -/
def ey3 : bY := (⟨"SpanCopier$Book", "takesUnit", "(LSpanCopier$Word;)Z"⟩, prog_3_method_4_code, (Option.some Jvm.ClassFile.FieldType.boolean))
theorem emp3 : dk_mp (ey3, 1) 2 := ⟨⟨bW_of (dk_tw_mem (n := 5062) (by decide +kernel)) rfl, bW_of (dk_tw_mem (n := 1005) (by decide +kernel)) rfl, by decide +kernel, by decide +kernel, by decide, by decide +kernel, by decide +kernel⟩, (fun h => absurd h (by decide)), (fun h => absurd h (by decide)), fun _ => bW_of (dk_tw_mem (n := 5061) (by decide +kernel)) rfl⟩
/-- Book.takesTicks(LSpanCopier.Word;)Z -/
def ey4 : bY := (⟨"SpanCopier$Book", "takesTicks", "(LSpanCopier$Word;)Z"⟩, prog_3_method_5_code, (Option.some Jvm.ClassFile.FieldType.boolean))
theorem emp4 : dk_mp (ey4, 1) 2 := ⟨⟨bW_of (dk_tw_mem (n := 5073) (by decide +kernel)) rfl, bW_of (dk_tw_mem (n := 1005) (by decide +kernel)) rfl, by decide +kernel, by decide +kernel, by decide, by decide +kernel, by decide +kernel⟩, (fun h => absurd h (by decide)), (fun h => absurd h (by decide)), fun _ => bW_of (dk_tw_mem (n := 5072) (by decide +kernel)) rfl⟩
/-- Book.readLine(LSpanCopier.Tape;I)Z -/
def ey2 : bY := (⟨"SpanCopier$Book", "readLine", "(LSpanCopier$Tape;I)Z"⟩, prog_3_method_3_code, (Option.some Jvm.ClassFile.FieldType.boolean))
theorem emp2 : dk_mp (ey2, 4) 0 := ⟨⟨bW_of (dk_tw_mem (n := 5059) (by decide +kernel)) rfl, bW_of (dk_tw_mem (n := 1005) (by decide +kernel)) rfl, by decide +kernel, by decide +kernel, by decide, by decide +kernel, by decide +kernel⟩, fun _ => ⟨bW_of (dk_tw_mem (n := 5058) (by decide +kernel)) rfl, bW_of (dk_sel (j := 95) (n := _) (by rfl)) rfl⟩, (fun h => absurd h (by decide)), (fun h => absurd h (by decide))⟩
/-- Book.readLines(LSpanCopier.Tape;)Z -/
def ey1 : bY := (⟨"SpanCopier$Book", "readLines", "(LSpanCopier$Tape;)Z"⟩, prog_3_method_2_code, (Option.some Jvm.ClassFile.FieldType.boolean))
theorem emp1 : dk_mp (ey1, 3) 0 := ⟨⟨bW_of (dk_tw_mem (n := 5055) (by decide +kernel)) rfl, bW_of (dk_tw_mem (n := 1005) (by decide +kernel)) rfl, by decide +kernel, by decide +kernel, by decide, by decide +kernel, by decide +kernel⟩, fun _ => ⟨bW_of (dk_tw_mem (n := 5054) (by decide +kernel)) rfl, bW_of (dk_sel (j := 94) (n := _) (by rfl)) rfl⟩, (fun h => absurd h (by decide)), (fun h => absurd h (by decide))⟩
/-- Places.<init>()V -/
def ey31 : bY := (⟨"SpanCopier$Places", "<init>", "()V"⟩, prog_6_method_1_code, (Option.none : Option Jvm.ClassFile.FieldType))
theorem emp31 : dk_mp (ey31, 1) 1 := ⟨⟨bW_of (dk_tw_mem (n := 1161) (by decide +kernel)) rfl, bW_of (dk_tw_mem (n := 1009) (by decide +kernel)) rfl, by decide +kernel, by decide +kernel, by decide, by decide +kernel, by decide +kernel⟩, (fun h => absurd h (by decide)), fun _ => ⟨bW_of (dk_tw_mem (n := 1160) (by decide +kernel)) rfl, rfl⟩, (fun h => absurd h (by decide))⟩
/-- Places.copyFrom(LSpanCopier.Places;)V -/
def ey32 : bY := (⟨"SpanCopier$Places", "copyFrom", "(LSpanCopier$Places;)V"⟩, prog_6_method_2_code, (Option.none : Option Jvm.ClassFile.FieldType))
theorem emp32 : dk_mp (ey32, 2) 0 := ⟨⟨bW_of (dk_tw_mem (n := 3133) (by decide +kernel)) rfl, bW_of (dk_tw_mem (n := 1009) (by decide +kernel)) rfl, by decide +kernel, by decide +kernel, by decide, by decide +kernel, by decide +kernel⟩, fun _ => ⟨bW_of (dk_tw_mem (n := 3132) (by decide +kernel)) rfl, bW_of (dk_sel (j := 29) (n := _) (by rfl)) rfl⟩, (fun h => absurd h (by decide)), (fun h => absurd h (by decide))⟩
/-- Places.clear()V -/
def ey33 : bY := (⟨"SpanCopier$Places", "clear", "()V"⟩, prog_6_method_3_code, (Option.none : Option Jvm.ClassFile.FieldType))
theorem emp33 : dk_mp (ey33, 1) 0 := ⟨⟨bW_of (dk_tw_mem (n := 3089) (by decide +kernel)) rfl, bW_of (dk_tw_mem (n := 1009) (by decide +kernel)) rfl, by decide +kernel, by decide +kernel, by decide, by decide +kernel, by decide +kernel⟩, fun _ => ⟨bW_of (dk_tw_mem (n := 3088) (by decide +kernel)) rfl, bW_of (dk_sel (j := 22) (n := _) (by rfl)) rfl⟩, (fun h => absurd h (by decide)), (fun h => absurd h (by decide))⟩
/-- Places.has(I)Z -/
def ey34 : bY := (⟨"SpanCopier$Places", "has", "(I)Z"⟩, prog_6_method_4_code, (Option.some Jvm.ClassFile.FieldType.boolean))
theorem emp34 : dk_mp (ey34, 2) 0 := ⟨⟨bW_of (dk_tw_mem (n := 4074) (by decide +kernel)) rfl, bW_of (dk_tw_mem (n := 1009) (by decide +kernel)) rfl, by decide +kernel, by decide +kernel, by decide, by decide +kernel, by decide +kernel⟩, fun _ => ⟨bW_of (dk_tw_mem (n := 4073) (by decide +kernel)) rfl, bW_of (dk_sel (j := 64) (n := _) (by rfl)) rfl⟩, (fun h => absurd h (by decide)), (fun h => absurd h (by decide))⟩
/-- Places.mark(II)V -/
def ey35 : bY := (⟨"SpanCopier$Places", "mark", "(II)V"⟩, prog_6_method_5_code, (Option.none : Option Jvm.ClassFile.FieldType))
theorem emp35 : dk_mp (ey35, 4) 0 := ⟨⟨bW_of (dk_tw_mem (n := 3208) (by decide +kernel)) rfl, bW_of (dk_tw_mem (n := 1009) (by decide +kernel)) rfl, by decide +kernel, by decide +kernel, by decide, by decide +kernel, by decide +kernel⟩, fun _ => ⟨bW_of (dk_tw_mem (n := 3207) (by decide +kernel)) rfl, bW_of (dk_sel (j := 42) (n := _) (by rfl)) rfl⟩, (fun h => absurd h (by decide)), (fun h => absurd h (by decide))⟩
/-- Places.unmark(II)Z -/
def ey36 : bY := (⟨"SpanCopier$Places", "unmark", "(II)Z"⟩, prog_6_method_6_code, (Option.some Jvm.ClassFile.FieldType.boolean))
theorem emp36 : dk_mp (ey36, 5) 0 := ⟨⟨bW_of (dk_tw_mem (n := 3237) (by decide +kernel)) rfl, bW_of (dk_tw_mem (n := 1009) (by decide +kernel)) rfl, by decide +kernel, by decide +kernel, by decide, by decide +kernel, by decide +kernel⟩, fun _ => ⟨bW_of (dk_tw_mem (n := 3236) (by decide +kernel)) rfl, bW_of (dk_sel (j := 48) (n := _) (by rfl)) rfl⟩, (fun h => absurd h (by decide)), (fun h => absurd h (by decide))⟩
/-- Places.nextFrom(I)I -/
def ey37 : bY := (⟨"SpanCopier$Places", "nextFrom", "(I)I"⟩, prog_6_method_7_code, (Option.some Jvm.ClassFile.FieldType.int))
theorem emp37 : dk_mp (ey37, 3) 0 := ⟨⟨bW_of (dk_tw_mem (n := 3219) (by decide +kernel)) rfl, bW_of (dk_tw_mem (n := 1009) (by decide +kernel)) rfl, by decide +kernel, by decide +kernel, by decide, by decide +kernel, by decide +kernel⟩, fun _ => ⟨bW_of (dk_tw_mem (n := 3218) (by decide +kernel)) rfl, bW_of (dk_sel (j := 44) (n := _) (by rfl)) rfl⟩, (fun h => absurd h (by decide)), (fun h => absurd h (by decide))⟩
/-- Places.endOf(I)I -/
def ey38 : bY := (⟨"SpanCopier$Places", "endOf", "(I)I"⟩, prog_6_method_8_code, (Option.some Jvm.ClassFile.FieldType.int))
theorem emp38 : dk_mp (ey38, 3) 0 := ⟨⟨bW_of (dk_tw_mem (n := 3223) (by decide +kernel)) rfl, bW_of (dk_tw_mem (n := 1009) (by decide +kernel)) rfl, by decide +kernel, by decide +kernel, by decide, by decide +kernel, by decide +kernel⟩, fun _ => ⟨bW_of (dk_tw_mem (n := 3222) (by decide +kernel)) rfl, bW_of (dk_sel (j := 45) (n := _) (by rfl)) rfl⟩, (fun h => absurd h (by decide)), (fun h => absurd h (by decide))⟩
/-- Places.startsSpan(I)Z -/
def ey39 : bY := (⟨"SpanCopier$Places", "startsSpan", "(I)Z"⟩, prog_6_method_9_code, (Option.some Jvm.ClassFile.FieldType.boolean))
theorem emp39 : dk_mp (ey39, 2) 0 := ⟨⟨bW_of (dk_tw_mem (n := 4174) (by decide +kernel)) rfl, bW_of (dk_tw_mem (n := 1009) (by decide +kernel)) rfl, by decide +kernel, by decide +kernel, by decide, by decide +kernel, by decide +kernel⟩, fun _ => ⟨bW_of (dk_tw_mem (n := 4173) (by decide +kernel)) rfl, bW_of (dk_sel (j := 79) (n := _) (by rfl)) rfl⟩, (fun h => absurd h (by decide)), (fun h => absurd h (by decide))⟩
/-- Places.countSpans()I -/
def ey40 : bY := (⟨"SpanCopier$Places", "countSpans", "()I"⟩, prog_6_method_10_code, (Option.some Jvm.ClassFile.FieldType.int))
theorem emp40 : dk_mp (ey40, 3) 0 := ⟨⟨bW_of (dk_tw_mem (n := 4170) (by decide +kernel)) rfl, bW_of (dk_tw_mem (n := 1009) (by decide +kernel)) rfl, by decide +kernel, by decide +kernel, by decide, by decide +kernel, by decide +kernel⟩, fun _ => ⟨bW_of (dk_tw_mem (n := 4169) (by decide +kernel)) rfl, bW_of (dk_sel (j := 78) (n := _) (by rfl)) rfl⟩, (fun h => absurd h (by decide)), (fun h => absurd h (by decide))⟩
/-- Places.edge(II)I -/
def ey41 : bY := (⟨"SpanCopier$Places", "edge", "(II)I"⟩, prog_6_method_11_code, (Option.some Jvm.ClassFile.FieldType.int))
theorem emp41 : dk_mp (ey41, 5) 0 := ⟨⟨bW_of (dk_tw_mem (n := 4191) (by decide +kernel)) rfl, bW_of (dk_tw_mem (n := 1009) (by decide +kernel)) rfl, by decide +kernel, by decide +kernel, by decide, by decide +kernel, by decide +kernel⟩, fun _ => ⟨bW_of (dk_tw_mem (n := 4190) (by decide +kernel)) rfl, bW_of (dk_sel (j := 80) (n := _) (by rfl)) rfl⟩, (fun h => absurd h (by decide)), (fun h => absurd h (by decide))⟩
/-- Link.<init>()V -/
def ey5 : bY := (⟨"SpanCopier$Link", "<init>", "()V"⟩, prog_4_method_1_code, (Option.none : Option Jvm.ClassFile.FieldType))
theorem emp5 : dk_mp (ey5, 1) 1 := ⟨⟨bW_of (dk_tw_mem (n := 1126) (by decide +kernel)) rfl, bW_of (dk_tw_mem (n := 1007) (by decide +kernel)) rfl, by decide +kernel, by decide +kernel, by decide, by decide +kernel, by decide +kernel⟩, (fun h => absurd h (by decide)), fun _ => ⟨bW_of (dk_tw_mem (n := 1125) (by decide +kernel)) rfl, rfl⟩, (fun h => absurd h (by decide))⟩
/-- Link.clear()V -/
def ey6 : bY := (⟨"SpanCopier$Link", "clear", "()V"⟩, prog_4_method_2_code, (Option.none : Option Jvm.ClassFile.FieldType))
theorem emp6 : dk_mp (ey6, 1) 0 := ⟨⟨bW_of (dk_tw_mem (n := 3081) (by decide +kernel)) rfl, bW_of (dk_tw_mem (n := 1007) (by decide +kernel)) rfl, by decide +kernel, by decide +kernel, by decide, by decide +kernel, by decide +kernel⟩, fun _ => ⟨bW_of (dk_tw_mem (n := 3080) (by decide +kernel)) rfl, bW_of (dk_sel (j := 20) (n := _) (by rfl)) rfl⟩, (fun h => absurd h (by decide)), (fun h => absurd h (by decide))⟩
/-- Link.goesOut(I)Z -/
def ey8 : bY := (⟨"SpanCopier$Link", "goesOut", "(I)Z"⟩, prog_4_method_4_code, (Option.some Jvm.ClassFile.FieldType.boolean))
theorem emp8 : dk_mp (ey8, 1) 2 := ⟨⟨bW_of (dk_tw_mem (n := 3196) (by decide +kernel)) rfl, bW_of (dk_tw_mem (n := 1007) (by decide +kernel)) rfl, by decide +kernel, by decide +kernel, by decide, by decide +kernel, by decide +kernel⟩, (fun h => absurd h (by decide)), (fun h => absurd h (by decide)), fun _ => bW_of (dk_tw_mem (n := 3195) (by decide +kernel)) rfl⟩
/-- Link.spanFrom(I)I -/
def ey9 : bY := (⟨"SpanCopier$Link", "spanFrom", "(I)I"⟩, prog_4_method_5_code, (Option.some Jvm.ClassFile.FieldType.int))
theorem emp9 : dk_mp (ey9, 1) 2 := ⟨⟨bW_of (dk_tw_mem (n := 4022) (by decide +kernel)) rfl, bW_of (dk_tw_mem (n := 1007) (by decide +kernel)) rfl, by decide +kernel, by decide +kernel, by decide, by decide +kernel, by decide +kernel⟩, (fun h => absurd h (by decide)), (fun h => absurd h (by decide)), fun _ => bW_of (dk_tw_mem (n := 4021) (by decide +kernel)) rfl⟩
/-- Link.spanTo(I)I -/
def ey10 : bY := (⟨"SpanCopier$Link", "spanTo", "(I)I"⟩, prog_4_method_6_code, (Option.some Jvm.ClassFile.FieldType.int))
theorem emp10 : dk_mp (ey10, 1) 2 := ⟨⟨bW_of (dk_tw_mem (n := 4025) (by decide +kernel)) rfl, bW_of (dk_tw_mem (n := 1007) (by decide +kernel)) rfl, by decide +kernel, by decide +kernel, by decide, by decide +kernel, by decide +kernel⟩, (fun h => absurd h (by decide)), (fun h => absurd h (by decide)), fun _ => bW_of (dk_tw_mem (n := 4024) (by decide +kernel)) rfl⟩
/-- Link.has(I)Z -/
def ey11 : bY := (⟨"SpanCopier$Link", "has", "(I)Z"⟩, prog_4_method_7_code, (Option.some Jvm.ClassFile.FieldType.boolean))
theorem emp11 : dk_mp (ey11, 2) 0 := ⟨⟨bW_of (dk_tw_mem (n := 3185) (by decide +kernel)) rfl, bW_of (dk_tw_mem (n := 1007) (by decide +kernel)) rfl, by decide +kernel, by decide +kernel, by decide, by decide +kernel, by decide +kernel⟩, fun _ => ⟨bW_of (dk_tw_mem (n := 3184) (by decide +kernel)) rfl, bW_of (dk_sel (j := 37) (n := _) (by rfl)) rfl⟩, (fun h => absurd h (by decide)), (fun h => absurd h (by decide))⟩
/-- Link.copyFrom(LSpanCopier.Link;)V -/
def ey7 : bY := (⟨"SpanCopier$Link", "copyFrom", "(LSpanCopier$Link;)V"⟩, prog_4_method_3_code, (Option.none : Option Jvm.ClassFile.FieldType))
theorem emp7 : dk_mp (ey7, 2) 0 := ⟨⟨bW_of (dk_tw_mem (n := 3124) (by decide +kernel)) rfl, bW_of (dk_tw_mem (n := 1007) (by decide +kernel)) rfl, by decide +kernel, by decide +kernel, by decide, by decide +kernel, by decide +kernel⟩, fun _ => ⟨bW_of (dk_tw_mem (n := 3123) (by decide +kernel)) rfl, bW_of (dk_sel (j := 27) (n := _) (by rfl)) rfl⟩, (fun h => absurd h (by decide)), (fun h => absurd h (by decide))⟩
/-- Link.get(II)I -/
def ey12 : bY := (⟨"SpanCopier$Link", "get", "(II)I"⟩, prog_4_method_8_code, (Option.some Jvm.ClassFile.FieldType.int))
theorem emp12 : dk_mp (ey12, 3) 0 := ⟨⟨bW_of (dk_tw_mem (n := 3181) (by decide +kernel)) rfl, bW_of (dk_tw_mem (n := 1007) (by decide +kernel)) rfl, by decide +kernel, by decide +kernel, by decide, by decide +kernel, by decide +kernel⟩, fun _ => ⟨bW_of (dk_tw_mem (n := 3180) (by decide +kernel)) rfl, bW_of (dk_sel (j := 36) (n := _) (by rfl)) rfl⟩, (fun h => absurd h (by decide)), (fun h => absurd h (by decide))⟩
/-- Link.send(III)V -/
def ey13 : bY := (⟨"SpanCopier$Link", "send", "(III)V"⟩, prog_4_method_9_code, (Option.none : Option Jvm.ClassFile.FieldType))
theorem emp13 : dk_mp (ey13, 5) 0 := ⟨⟨bW_of (dk_tw_mem (n := 3228) (by decide +kernel)) rfl, bW_of (dk_tw_mem (n := 1007) (by decide +kernel)) rfl, by decide +kernel, by decide +kernel, by decide, by decide +kernel, by decide +kernel⟩, fun _ => ⟨bW_of (dk_tw_mem (n := 3227) (by decide +kernel)) rfl, bW_of (dk_sel (j := 46) (n := _) (by rfl)) rfl⟩, (fun h => absurd h (by decide)), (fun h => absurd h (by decide))⟩
/-- Link.sendNak(LSpanCopier.Places;II)V -/
def ey14 : bY := (⟨"SpanCopier$Link", "sendNak", "(LSpanCopier$Places;II)V"⟩, prog_4_method_10_code, (Option.none : Option Jvm.ClassFile.FieldType))
theorem emp14 : dk_mp (ey14, 7) 0 := ⟨⟨bW_of (dk_tw_mem (n := 3215) (by decide +kernel)) rfl, bW_of (dk_tw_mem (n := 1007) (by decide +kernel)) rfl, by decide +kernel, by decide +kernel, by decide, by decide +kernel, by decide +kernel⟩, fun _ => ⟨bW_of (dk_tw_mem (n := 3214) (by decide +kernel)) rfl, bW_of (dk_sel (j := 43) (n := _) (by rfl)) rfl⟩, (fun h => absurd h (by decide)), (fun h => absurd h (by decide))⟩
/-- Link.remove(I)I -/
def ey16 : bY := (⟨"SpanCopier$Link", "remove", "(I)I"⟩, prog_4_method_12_code, (Option.some Jvm.ClassFile.FieldType.int))
theorem emp16 : dk_mp (ey16, 3) 0 := ⟨⟨bW_of (dk_tw_mem (n := 3193) (by decide +kernel)) rfl, bW_of (dk_tw_mem (n := 1007) (by decide +kernel)) rfl, by decide +kernel, by decide +kernel, by decide, by decide +kernel, by decide +kernel⟩, fun _ => ⟨bW_of (dk_tw_mem (n := 3192) (by decide +kernel)) rfl, bW_of (dk_sel (j := 39) (n := _) (by rfl)) rfl⟩, (fun h => absurd h (by decide)), (fun h => absurd h (by decide))⟩
/-- Link.take(I)V -/
def ey15 : bY := (⟨"SpanCopier$Link", "take", "(I)V"⟩, prog_4_method_11_code, (Option.none : Option Jvm.ClassFile.FieldType))
theorem emp15 : dk_mp (ey15, 2) 0 := ⟨⟨bW_of (dk_tw_mem (n := 3189) (by decide +kernel)) rfl, bW_of (dk_tw_mem (n := 1007) (by decide +kernel)) rfl, by decide +kernel, by decide +kernel, by decide, by decide +kernel, by decide +kernel⟩, fun _ => ⟨bW_of (dk_tw_mem (n := 3188) (by decide +kernel)) rfl, bW_of (dk_sel (j := 38) (n := _) (by rfl)) rfl⟩, (fun h => absurd h (by decide)), (fun h => absurd h (by decide))⟩
/-- Link.repeat(I)I -/
def ey17 : bY := (⟨"SpanCopier$Link", "repeat", "(I)I"⟩, prog_4_method_13_code, (Option.some Jvm.ClassFile.FieldType.int))
theorem emp17 : dk_mp (ey17, 2) 0 := ⟨⟨bW_of (dk_tw_mem (n := 4119) (by decide +kernel)) rfl, bW_of (dk_tw_mem (n := 1007) (by decide +kernel)) rfl, by decide +kernel, by decide +kernel, by decide, by decide +kernel, by decide +kernel⟩, fun _ => ⟨bW_of (dk_tw_mem (n := 4118) (by decide +kernel)) rfl, bW_of (dk_sel (j := 72) (n := _) (by rfl)) rfl⟩, (fun h => absurd h (by decide)), (fun h => absurd h (by decide))⟩
/-- Link.delay(II)I -/
def ey18 : bY := (⟨"SpanCopier$Link", "delay", "(II)I"⟩, prog_4_method_14_code, (Option.some Jvm.ClassFile.FieldType.int))
theorem emp18 : dk_mp (ey18, 3) 0 := ⟨⟨bW_of (dk_tw_mem (n := 4127) (by decide +kernel)) rfl, bW_of (dk_tw_mem (n := 1007) (by decide +kernel)) rfl, by decide +kernel, by decide +kernel, by decide, by decide +kernel, by decide +kernel⟩, fun _ => ⟨bW_of (dk_tw_mem (n := 4126) (by decide +kernel)) rfl, bW_of (dk_sel (j := 73) (n := _) (by rfl)) rfl⟩, (fun h => absurd h (by decide)), (fun h => absurd h (by decide))⟩
/-- Link.flip(I)I -/
def ey19 : bY := (⟨"SpanCopier$Link", "flip", "(I)I"⟩, prog_4_method_15_code, (Option.some Jvm.ClassFile.FieldType.int))
theorem emp19 : dk_mp (ey19, 2) 0 := ⟨⟨bW_of (dk_tw_mem (n := 4135) (by decide +kernel)) rfl, bW_of (dk_tw_mem (n := 1007) (by decide +kernel)) rfl, by decide +kernel, by decide +kernel, by decide, by decide +kernel, by decide +kernel⟩, fun _ => ⟨bW_of (dk_tw_mem (n := 4134) (by decide +kernel)) rfl, bW_of (dk_sel (j := 74) (n := _) (by rfl)) rfl⟩, (fun h => absurd h (by decide)), (fun h => absurd h (by decide))⟩
/-- Shelf.<init>()V -/
def ey67 : bY := (⟨"SpanCopier$Shelf", "<init>", "()V"⟩, prog_9_method_1_code, (Option.none : Option Jvm.ClassFile.FieldType))
theorem emp67 : dk_mp (ey67, 1) 1 := ⟨⟨bW_of (dk_tw_mem (n := 2004) (by decide +kernel)) rfl, bW_of (dk_tw_mem (n := 1011) (by decide +kernel)) rfl, by decide +kernel, by decide +kernel, by decide, by decide +kernel, by decide +kernel⟩, (fun h => absurd h (by decide)), fun _ => ⟨bW_of (dk_tw_mem (n := 2003) (by decide +kernel)) rfl, rfl⟩, (fun h => absurd h (by decide))⟩
/-- Shelf.clear(I)V -/
def ey68 : bY := (⟨"SpanCopier$Shelf", "clear", "(I)V"⟩, prog_9_method_2_code, (Option.none : Option Jvm.ClassFile.FieldType))
theorem emp68 : dk_mp (ey68, 2) 0 := ⟨⟨bW_of (dk_tw_mem (n := 3101) (by decide +kernel)) rfl, bW_of (dk_tw_mem (n := 1011) (by decide +kernel)) rfl, by decide +kernel, by decide +kernel, by decide, by decide +kernel, by decide +kernel⟩, fun _ => ⟨bW_of (dk_tw_mem (n := 3100) (by decide +kernel)) rfl, bW_of (dk_sel (j := 24) (n := _) (by rfl)) rfl⟩, (fun h => absurd h (by decide)), (fun h => absurd h (by decide))⟩
/-- Shelf.copyFrom(LSpanCopier.Shelf;)V -/
def ey69 : bY := (⟨"SpanCopier$Shelf", "copyFrom", "(LSpanCopier$Shelf;)V"⟩, prog_9_method_3_code, (Option.none : Option Jvm.ClassFile.FieldType))
theorem emp69 : dk_mp (ey69, 2) 0 := ⟨⟨bW_of (dk_tw_mem (n := 3144) (by decide +kernel)) rfl, bW_of (dk_tw_mem (n := 1011) (by decide +kernel)) rfl, by decide +kernel, by decide +kernel, by decide, by decide +kernel, by decide +kernel⟩, fun _ => ⟨bW_of (dk_tw_mem (n := 3143) (by decide +kernel)) rfl, bW_of (dk_sel (j := 31) (n := _) (by rfl)) rfl⟩, (fun h => absurd h (by decide)), (fun h => absurd h (by decide))⟩
/-- Shelf.entry(I)I -/
def ey70 : bY := (⟨"SpanCopier$Shelf", "entry", "(I)I"⟩, prog_9_method_4_code, (Option.some Jvm.ClassFile.FieldType.int))
theorem emp70 : dk_mp (ey70, 2) 0 := ⟨⟨bW_of (dk_tw_mem (n := 4216) (by decide +kernel)) rfl, bW_of (dk_tw_mem (n := 1011) (by decide +kernel)) rfl, by decide +kernel, by decide +kernel, by decide, by decide +kernel, by decide +kernel⟩, fun _ => ⟨bW_of (dk_tw_mem (n := 4215) (by decide +kernel)) rfl, bW_of (dk_sel (j := 82) (n := _) (by rfl)) rfl⟩, (fun h => absurd h (by decide)), (fun h => absurd h (by decide))⟩
/-- Shelf.tryAct(LSpanCopier.Order;I)Z -/
def ey72 : bY := (⟨"SpanCopier$Shelf", "tryAct", "(LSpanCopier$Order;I)Z"⟩, prog_9_method_6_code, (Option.some Jvm.ClassFile.FieldType.boolean))
theorem emp72 : dk_mp (ey72, 7) 0 := ⟨⟨bW_of (dk_tw_mem (n := 4091) (by decide +kernel)) rfl, bW_of (dk_tw_mem (n := 1011) (by decide +kernel)) rfl, by decide +kernel, by decide +kernel, by decide, by decide +kernel, by decide +kernel⟩, fun _ => ⟨bW_of (dk_tw_mem (n := 4090) (by decide +kernel)) rfl, bW_of (dk_sel (j := 68) (n := _) (by rfl)) rfl⟩, (fun h => absurd h (by decide)), (fun h => absurd h (by decide))⟩
/-- Shelf.goOn(LSpanCopier.Order;)Z -/
def ey71 : bY := (⟨"SpanCopier$Shelf", "goOn", "(LSpanCopier$Order;)Z"⟩, prog_9_method_5_code, (Option.some Jvm.ClassFile.FieldType.boolean))
theorem emp71 : dk_mp (ey71, 3) 0 := ⟨⟨bW_of (dk_tw_mem (n := 4087) (by decide +kernel)) rfl, bW_of (dk_tw_mem (n := 1011) (by decide +kernel)) rfl, by decide +kernel, by decide +kernel, by decide, by decide +kernel, by decide +kernel⟩, fun _ => ⟨bW_of (dk_tw_mem (n := 4086) (by decide +kernel)) rfl, bW_of (dk_sel (j := 67) (n := _) (by rfl)) rfl⟩, (fun h => absurd h (by decide)), (fun h => absurd h (by decide))⟩
/-- Sender.<init>()V -/
def ey42 : bY := (⟨"SpanCopier$Sender", "<init>", "()V"⟩, prog_7_method_1_code, (Option.none : Option Jvm.ClassFile.FieldType))
theorem emp42 : dk_mp (ey42, 1) 1 := ⟨⟨bW_of (dk_tw_mem (n := 1155) (by decide +kernel)) rfl, bW_of (dk_tw_mem (n := 1008) (by decide +kernel)) rfl, by decide +kernel, by decide +kernel, by decide, by decide +kernel, by decide +kernel⟩, (fun h => absurd h (by decide)), fun _ => ⟨bW_of (dk_tw_mem (n := 1154) (by decide +kernel)) rfl, rfl⟩, (fun h => absurd h (by decide))⟩
/-- Sender.clear()V -/
def ey43 : bY := (⟨"SpanCopier$Sender", "clear", "()V"⟩, prog_7_method_2_code, (Option.none : Option Jvm.ClassFile.FieldType))
theorem emp43 : dk_mp (ey43, 1) 0 := ⟨⟨bW_of (dk_tw_mem (n := 3085) (by decide +kernel)) rfl, bW_of (dk_tw_mem (n := 1008) (by decide +kernel)) rfl, by decide +kernel, by decide +kernel, by decide, by decide +kernel, by decide +kernel⟩, fun _ => ⟨bW_of (dk_tw_mem (n := 3084) (by decide +kernel)) rfl, bW_of (dk_sel (j := 21) (n := _) (by rfl)) rfl⟩, (fun h => absurd h (by decide)), (fun h => absurd h (by decide))⟩
/-- Sender.copyFrom(LSpanCopier.Sender;)V -/
def ey44 : bY := (⟨"SpanCopier$Sender", "copyFrom", "(LSpanCopier$Sender;)V"⟩, prog_7_method_3_code, (Option.none : Option Jvm.ClassFile.FieldType))
theorem emp44 : dk_mp (ey44, 2) 0 := ⟨⟨bW_of (dk_tw_mem (n := 3129) (by decide +kernel)) rfl, bW_of (dk_tw_mem (n := 1008) (by decide +kernel)) rfl, by decide +kernel, by decide +kernel, by decide, by decide +kernel, by decide +kernel⟩, fun _ => ⟨bW_of (dk_tw_mem (n := 3128) (by decide +kernel)) rfl, bW_of (dk_sel (j := 28) (n := _) (by rfl)) rfl⟩, (fun h => absurd h (by decide)), (fun h => absurd h (by decide))⟩
/-- Sender.isActive()Z -/
def ey45 : bY := (⟨"SpanCopier$Sender", "isActive", "()Z"⟩, prog_7_method_4_code, (Option.some Jvm.ClassFile.FieldType.boolean))
theorem emp45 : dk_mp (ey45, 1) 0 := ⟨⟨bW_of (dk_tw_mem (n := 4018) (by decide +kernel)) rfl, bW_of (dk_tw_mem (n := 1008) (by decide +kernel)) rfl, by decide +kernel, by decide +kernel, by decide, by decide +kernel, by decide +kernel⟩, fun _ => ⟨bW_of (dk_tw_mem (n := 4017) (by decide +kernel)) rfl, bW_of (dk_sel (j := 53) (n := _) (by rfl)) rfl⟩, (fun h => absurd h (by decide)), (fun h => absurd h (by decide))⟩
/-- Sender.isOver()Z -/
def ey46 : bY := (⟨"SpanCopier$Sender", "isOver", "()Z"⟩, prog_7_method_5_code, (Option.some Jvm.ClassFile.FieldType.boolean))
theorem emp46 : dk_mp (ey46, 1) 0 := ⟨⟨bW_of (dk_tw_mem (n := 5005) (by decide +kernel)) rfl, bW_of (dk_tw_mem (n := 1008) (by decide +kernel)) rfl, by decide +kernel, by decide +kernel, by decide, by decide +kernel, by decide +kernel⟩, fun _ => ⟨bW_of (dk_tw_mem (n := 5004) (by decide +kernel)) rfl, bW_of (dk_sel (j := 87) (n := _) (by rfl)) rfl⟩, (fun h => absurd h (by decide)), (fun h => absurd h (by decide))⟩
/-- Sender.meetNak(LSpanCopier.Link;)V -/
def ey48 : bY := (⟨"SpanCopier$Sender", "meetNak", "(LSpanCopier$Link;)V"⟩, prog_7_method_7_code, (Option.none : Option Jvm.ClassFile.FieldType))
theorem emp48 : dk_mp (ey48, 5) 0 := ⟨⟨bW_of (dk_tw_mem (n := 4014) (by decide +kernel)) rfl, bW_of (dk_tw_mem (n := 1008) (by decide +kernel)) rfl, by decide +kernel, by decide +kernel, by decide, by decide +kernel, by decide +kernel⟩, fun _ => ⟨bW_of (dk_tw_mem (n := 4013) (by decide +kernel)) rfl, bW_of (dk_sel (j := 52) (n := _) (by rfl)) rfl⟩, (fun h => absurd h (by decide)), (fun h => absurd h (by decide))⟩
/-- Sender.meetFin(LSpanCopier.Link;)V -/
def ey49 : bY := (⟨"SpanCopier$Sender", "meetFin", "(LSpanCopier$Link;)V"⟩, prog_7_method_8_code, (Option.none : Option Jvm.ClassFile.FieldType))
theorem emp49 : dk_mp (ey49, 2) 0 := ⟨⟨bW_of (dk_tw_mem (n := 4030) (by decide +kernel)) rfl, bW_of (dk_tw_mem (n := 1008) (by decide +kernel)) rfl, by decide +kernel, by decide +kernel, by decide, by decide +kernel, by decide +kernel⟩, fun _ => ⟨bW_of (dk_tw_mem (n := 4029) (by decide +kernel)) rfl, bW_of (dk_sel (j := 54) (n := _) (by rfl)) rfl⟩, (fun h => absurd h (by decide)), (fun h => absurd h (by decide))⟩
/-- Sender.sendEof(LSpanCopier.World;)V -/
def ey53 : bY := (⟨"SpanCopier$Sender", "sendEof", "(LSpanCopier$World;)V"⟩, prog_7_method_12_code, (Option.none : Option Jvm.ClassFile.FieldType))
theorem emp53 : dk_mp (ey53, 2) 0 := ⟨⟨bW_of (dk_tw_mem (n := 4050) (by decide +kernel)) rfl, bW_of (dk_tw_mem (n := 1008) (by decide +kernel)) rfl, by decide +kernel, by decide +kernel, by decide, by decide +kernel, by decide +kernel⟩, fun _ => ⟨bW_of (dk_tw_mem (n := 4049) (by decide +kernel)) rfl, bW_of (dk_sel (j := 58) (n := _) (by rfl)) rfl⟩, (fun h => absurd h (by decide)), (fun h => absurd h (by decide))⟩
/-- Sender.waitForAck(LSpanCopier.World;)V -/
def ey54 : bY := (⟨"SpanCopier$Sender", "waitForAck", "(LSpanCopier$World;)V"⟩, prog_7_method_13_code, (Option.none : Option Jvm.ClassFile.FieldType))
theorem emp54 : dk_mp (ey54, 2) 0 := ⟨⟨bW_of (dk_tw_mem (n := 4054) (by decide +kernel)) rfl, bW_of (dk_tw_mem (n := 1008) (by decide +kernel)) rfl, by decide +kernel, by decide +kernel, by decide, by decide +kernel, by decide +kernel⟩, fun _ => ⟨bW_of (dk_tw_mem (n := 4053) (by decide +kernel)) rfl, bW_of (dk_sel (j := 59) (n := _) (by rfl)) rfl⟩, (fun h => absurd h (by decide)), (fun h => absurd h (by decide))⟩
