/-- World.crashTaker()I -/
def ey117 : bY := (⟨"SpanCopier$World", "crashTaker", "()I"⟩, prog_13_method_11_code, (Option.some Jvm.ClassFile.FieldType.int))
theorem emp117 : dk_mp (ey117, 1) 0 := ⟨⟨bW_of (dk_tw_mem (n := 4154) rfl) rfl, bW_of (dk_tw_mem (n := 1006) rfl) rfl, by decide +kernel, by decide +kernel, by decide, by decide +kernel, by decide +kernel⟩, fun _ => ⟨bW_of (dk_tw_mem (n := 4153) rfl) rfl, bW_of (dk_sel (j := 76) (n := _) (by rfl)) rfl⟩, (fun h => absurd h (by decide)), (fun h => absurd h (by decide))⟩
/-- World.drawWhatHappens()V -/
def ey114 : bY := (⟨"SpanCopier$World", "drawWhatHappens", "()V"⟩, prog_13_method_8_code, (Option.none : Option Jvm.ClassFile.FieldType))
theorem emp114 : dk_mp (ey114, 3) 0 := ⟨⟨bW_of (dk_tw_mem (n := 5021) rfl) rfl, bW_of (dk_tw_mem (n := 1006) rfl) rfl, by decide +kernel, by decide +kernel, by decide, by decide +kernel, by decide +kernel⟩, fun _ => ⟨bW_of (dk_tw_mem (n := 5020) rfl) rfl, bW_of (dk_sel (j := 89) (n := _) (by rfl)) rfl⟩, (fun h => absurd h (by decide)), (fun h => absurd h (by decide))⟩
/-- World.countNeed()I -/
def ey118 : bY := (⟨"SpanCopier$World", "countNeed", "()I"⟩, prog_13_method_12_code, (Option.some Jvm.ClassFile.FieldType.int))
theorem emp118 : dk_mp (ey118, 4) 0 := ⟨⟨bW_of (dk_tw_mem (n := 4224) rfl) rfl, bW_of (dk_tw_mem (n := 1006) rfl) rfl, by decide +kernel, by decide +kernel, by decide, by decide +kernel, by decide +kernel⟩, fun _ => ⟨bW_of (dk_tw_mem (n := 4223) rfl) rfl, bW_of (dk_sel (j := 83) (n := _) (by rfl)) rfl⟩, (fun h => absurd h (by decide)), (fun h => absurd h (by decide))⟩
/-- World.bothOver()Z -/
def ey119 : bY := (⟨"SpanCopier$World", "bothOver", "()Z"⟩, prog_13_method_13_code, (Option.some Jvm.ClassFile.FieldType.boolean))
theorem emp119 : dk_mp (ey119, 1) 0 := ⟨⟨bW_of (dk_tw_mem (n := 5001) rfl) rfl, bW_of (dk_tw_mem (n := 1006) rfl) rfl, by decide +kernel, by decide +kernel, by decide, by decide +kernel, by decide +kernel⟩, fun _ => ⟨bW_of (dk_tw_mem (n := 5000) rfl) rfl, bW_of (dk_sel (j := 86) (n := _) (by rfl)) rfl⟩, (fun h => absurd h (by decide)), (fun h => absurd h (by decide))⟩
/-- World.bothDone()Z -/
def ey120 : bY := (⟨"SpanCopier$World", "bothDone", "()Z"⟩, prog_13_method_14_code, (Option.some Jvm.ClassFile.FieldType.boolean))
theorem emp120 : dk_mp (ey120, 1) 0 := ⟨⟨bW_of (dk_tw_mem (n := 5043) rfl) rfl, bW_of (dk_tw_mem (n := 1006) rfl) rfl, by decide +kernel, by decide +kernel, by decide, by decide +kernel, by decide +kernel⟩, fun _ => ⟨bW_of (dk_tw_mem (n := 5042) rfl) rfl, bW_of (dk_sel (j := 92) (n := _) (by rfl)) rfl⟩, (fun h => absurd h (by decide)), (fun h => absurd h (by decide))⟩
/-- World.oneFailed()Z -/
def ey121 : bY := (⟨"SpanCopier$World", "oneFailed", "()Z"⟩, prog_13_method_15_code, (Option.some Jvm.ClassFile.FieldType.boolean))
theorem emp121 : dk_mp (ey121, 1) 0 := ⟨⟨bW_of (dk_tw_mem (n := 5047) rfl) rfl, bW_of (dk_tw_mem (n := 1006) rfl) rfl, by decide +kernel, by decide +kernel, by decide, by decide +kernel, by decide +kernel⟩, fun _ => ⟨bW_of (dk_tw_mem (n := 5046) rfl) rfl, bW_of (dk_sel (j := 93) (n := _) (by rfl)) rfl⟩, (fun h => absurd h (by decide)), (fun h => absurd h (by decide))⟩
/-- World.isStill()Z -/
def ey123 : bY := (⟨"SpanCopier$World", "isStill", "()Z"⟩, prog_13_method_17_code, (Option.some Jvm.ClassFile.FieldType.boolean))
theorem emp123 : dk_mp (ey123, 2) 0 := ⟨⟨bW_of (dk_tw_mem (n := 5009) rfl) rfl, bW_of (dk_tw_mem (n := 1006) rfl) rfl, by decide +kernel, by decide +kernel, by decide, by decide +kernel, by decide +kernel⟩, fun _ => ⟨bW_of (dk_tw_mem (n := 5008) rfl) rfl, bW_of (dk_sel (j := 88) (n := _) (by rfl)) rfl⟩, (fun h => absurd h (by decide)), (fun h => absurd h (by decide))⟩
/-- World.passUntilOver()I -/
def ey122 : bY := (⟨"SpanCopier$World", "passUntilOver", "()I"⟩, prog_13_method_16_code, (Option.some Jvm.ClassFile.FieldType.int))
theorem emp122 : dk_mp (ey122, 2) 0 := ⟨⟨bW_of (dk_tw_mem (n := 4237) rfl) rfl, bW_of (dk_tw_mem (n := 1006) rfl) rfl, by decide +kernel, by decide +kernel, by decide, by decide +kernel, by decide +kernel⟩, fun _ => ⟨bW_of (dk_tw_mem (n := 4236) rfl) rfl, bW_of (dk_sel (j := 85) (n := _) (by rfl)) rfl⟩, (fun h => absurd h (by decide)), (fun h => absurd h (by decide))⟩
/-- World.whyWrong(II)I -/
def ey125 : bY := (⟨"SpanCopier$World", "whyWrong", "(II)I"⟩, prog_13_method_19_code, (Option.some Jvm.ClassFile.FieldType.int))
theorem emp125 : dk_mp (ey125, 2) 2 := ⟨⟨bW_of (dk_tw_mem (n := 5091) rfl) rfl, bW_of (dk_tw_mem (n := 1006) rfl) rfl, by decide +kernel, by decide +kernel, by decide, by decide +kernel, by decide +kernel⟩, (fun h => absurd h (by decide)), (fun h => absurd h (by decide)), fun _ => bW_of (dk_tw_mem (n := 5090) rfl) rfl⟩
/-- World.live(LSpanCopier.Book;I)I -/
def ey124 : bY := (⟨"SpanCopier$World", "live", "(LSpanCopier$Book;I)I"⟩, prog_13_method_18_code, (Option.some Jvm.ClassFile.FieldType.int))
theorem emp124 : dk_mp (ey124, 6) 0 := ⟨⟨bW_of (dk_tw_mem (n := 5086) rfl) rfl, bW_of (dk_tw_mem (n := 1006) rfl) rfl, by decide +kernel, by decide +kernel, by decide, by decide +kernel, by decide +kernel⟩, fun _ => ⟨bW_of (dk_tw_mem (n := 5085) rfl) rfl, bW_of (dk_sel (j := 96) (n := _) (by rfl)) rfl⟩, (fun h => absurd h (by decide)), (fun h => absurd h (by decide))⟩
/-- SpanCopier.<init>()V -/
def ey126 : bY := (⟨"SpanCopier", "<init>", "()V"⟩, prog_1_method_1_code, (Option.none : Option Jvm.ClassFile.FieldType))
theorem emp126 : dk_mp (ey126, 1) 1 := ⟨⟨bW_of (dk_tw_mem (n := 1027) rfl) rfl, bW_of (dk_tw_mem (n := 1001) rfl) rfl, by decide +kernel, by decide +kernel, by decide, by decide +kernel, by decide +kernel⟩, (fun h => absurd h (by decide)), fun _ => ⟨bW_of (dk_tw_mem (n := 1026) rfl) rfl, rfl⟩, (fun h => absurd h (by decide))⟩
/-- SpanCopier.feed(IIIII)I -/
def ey127 : bY := (⟨"SpanCopier", "feed", "(IIIII)I"⟩, prog_1_method_2_code, (Option.some Jvm.ClassFile.FieldType.int))
theorem emp127 : dk_mp (ey127, 6) 0 := ⟨⟨bW_of (dk_tw_mem (n := 2180) rfl) rfl, bW_of (dk_tw_mem (n := 1001) rfl) rfl, by decide +kernel, by decide +kernel, by decide, by decide +kernel, by decide +kernel⟩, fun _ => ⟨bW_of (dk_tw_mem (n := 2178) rfl) rfl, bW_of (dk_tw_mem (n := 2179) rfl) rfl⟩, (fun h => absurd h (by decide)), (fun h => absurd h (by decide))⟩
/-- SpanCopier.end(I)Z -/
def ey128 : bY := (⟨"SpanCopier", "end", "(I)Z"⟩, prog_1_method_3_code, (Option.some Jvm.ClassFile.FieldType.boolean))
theorem emp128 : dk_mp (ey128, 2) 0 := ⟨⟨bW_of (dk_tw_mem (n := 2188) rfl) rfl, bW_of (dk_tw_mem (n := 1001) rfl) rfl, by decide +kernel, by decide +kernel, by decide, by decide +kernel, by decide +kernel⟩, fun _ => ⟨bW_of (dk_tw_mem (n := 2186) rfl) rfl, bW_of (dk_tw_mem (n := 2187) rfl) rfl⟩, (fun h => absurd h (by decide)), (fun h => absurd h (by decide))⟩
/-- SpanCopier.closeText()V -/
def ey130 : bY := (⟨"SpanCopier", "closeText", "()V"⟩, prog_1_method_5_code, (Option.none : Option Jvm.ClassFile.FieldType))
theorem emp130 : dk_mp (ey130, 1) 0 := ⟨⟨bW_of (dk_tw_mem (n := 3069) rfl) rfl, bW_of (dk_tw_mem (n := 1001) rfl) rfl, by decide +kernel, by decide +kernel, by decide, by decide +kernel, by decide +kernel⟩, fun _ => ⟨bW_of (dk_tw_mem (n := 3068) rfl) rfl, bW_of (dk_sel (j := 17) (n := _) (by rfl)) rfl⟩, (fun h => absurd h (by decide)), (fun h => absurd h (by decide))⟩
/-- SpanCopier.order()I -/
def ey129 : bY := (⟨"SpanCopier", "order", "()I"⟩, prog_1_method_4_code, (Option.some Jvm.ClassFile.FieldType.int))
theorem emp129 : dk_mp (ey129, 3) 0 := ⟨⟨bW_of (dk_tw_mem (n := 2192) rfl) rfl, bW_of (dk_tw_mem (n := 1001) rfl) rfl, by decide +kernel, by decide +kernel, by decide, by decide +kernel, by decide +kernel⟩, fun _ => ⟨bW_of (dk_tw_mem (n := 2190) rfl) rfl, bW_of (dk_tw_mem (n := 2191) rfl) rfl⟩, (fun h => absurd h (by decide)), (fun h => absurd h (by decide))⟩
/-- SpanCopier.fault()I -/
def ey131 : bY := (⟨"SpanCopier", "fault", "()I"⟩, prog_1_method_6_code, (Option.some Jvm.ClassFile.FieldType.int))
theorem emp131 : dk_mp (ey131, 1) 0 := ⟨⟨bW_of (dk_tw_mem (n := 3108) rfl) rfl, bW_of (dk_tw_mem (n := 1001) rfl) rfl, by decide +kernel, by decide +kernel, by decide, by decide +kernel, by decide +kernel⟩, fun _ => ⟨bW_of (dk_tw_mem (n := 3106) rfl) rfl, bW_of (dk_tw_mem (n := 3107) rfl) rfl⟩, (fun h => absurd h (by decide)), (fun h => absurd h (by decide))⟩
/-- SpanCopier.lookBefore()V -/
def ey133 : bY := (⟨"SpanCopier", "lookBefore", "()V"⟩, prog_1_method_8_code, (Option.none : Option Jvm.ClassFile.FieldType))
theorem emp133 : dk_mp (ey133, 1) 0 := ⟨⟨bW_of (dk_tw_mem (n := 3116) rfl) rfl, bW_of (dk_tw_mem (n := 1001) rfl) rfl, by decide +kernel, by decide +kernel, by decide, by decide +kernel, by decide +kernel⟩, fun _ => ⟨bW_of (dk_tw_mem (n := 3115) rfl) rfl, bW_of (dk_sel (j := 25) (n := _) (by rfl)) rfl⟩, (fun h => absurd h (by decide)), (fun h => absurd h (by decide))⟩
/-- SpanCopier.keepLooked()V -/
def ey134 : bY := (⟨"SpanCopier", "keepLooked", "()V"⟩, prog_1_method_9_code, (Option.none : Option Jvm.ClassFile.FieldType))
theorem emp134 : dk_mp (ey134, 3) 0 := ⟨⟨bW_of (dk_tw_mem (n := 3165) rfl) rfl, bW_of (dk_tw_mem (n := 1001) rfl) rfl, by decide +kernel, by decide +kernel, by decide, by decide +kernel, by decide +kernel⟩, fun _ => ⟨bW_of (dk_tw_mem (n := 3164) rfl) rfl, bW_of (dk_sel (j := 33) (n := _) (by rfl)) rfl⟩, (fun h => absurd h (by decide)), (fun h => absurd h (by decide))⟩
/-- SpanCopier.file()I -/
def ey132 : bY := (⟨"SpanCopier", "file", "()I"⟩, prog_1_method_7_code, (Option.some Jvm.ClassFile.FieldType.int))
theorem emp132 : dk_mp (ey132, 2) 0 := ⟨⟨bW_of (dk_tw_mem (n := 3112) rfl) rfl, bW_of (dk_tw_mem (n := 1001) rfl) rfl, by decide +kernel, by decide +kernel, by decide, by decide +kernel, by decide +kernel⟩, fun _ => ⟨bW_of (dk_tw_mem (n := 3110) rfl) rfl, bW_of (dk_tw_mem (n := 3111) rfl) rfl⟩, (fun h => absurd h (by decide)), (fun h => absurd h (by decide))⟩
/-- SpanCopier.keptIfAbove(I)I -/
def ey136 : bY := (⟨"SpanCopier", "keptIfAbove", "(I)I"⟩, prog_1_method_11_code, (Option.some Jvm.ClassFile.FieldType.int))
theorem emp136 : dk_mp (ey136, 2) 0 := ⟨⟨bW_of (dk_tw_mem (n := 4102) rfl) rfl, bW_of (dk_tw_mem (n := 1001) rfl) rfl, by decide +kernel, by decide +kernel, by decide, by decide +kernel, by decide +kernel⟩, fun _ => ⟨bW_of (dk_tw_mem (n := 4101) rfl) rfl, bW_of (dk_sel (j := 70) (n := _) (by rfl)) rfl⟩, (fun h => absurd h (by decide)), (fun h => absurd h (by decide))⟩
/-- SpanCopier.ticks(I)I -/
def ey135 : bY := (⟨"SpanCopier", "ticks", "(I)I"⟩, prog_1_method_10_code, (Option.some Jvm.ClassFile.FieldType.int))
theorem emp135 : dk_mp (ey135, 2) 0 := ⟨⟨bW_of (dk_tw_mem (n := 3169) rfl) rfl, bW_of (dk_tw_mem (n := 1001) rfl) rfl, by decide +kernel, by decide +kernel, by decide, by decide +kernel, by decide +kernel⟩, fun _ => ⟨bW_of (dk_tw_mem (n := 3167) rfl) rfl, bW_of (dk_tw_mem (n := 3168) rfl) rfl⟩, (fun h => absurd h (by decide)), (fun h => absurd h (by decide))⟩
/-- SpanCopier.keptIfDone(I)I -/
def ey138 : bY := (⟨"SpanCopier", "keptIfDone", "(I)I"⟩, prog_1_method_13_code, (Option.some Jvm.ClassFile.FieldType.int))
theorem emp138 : dk_mp (ey138, 2) 0 := ⟨⟨bW_of (dk_tw_mem (n := 4111) rfl) rfl, bW_of (dk_tw_mem (n := 1001) rfl) rfl, by decide +kernel, by decide +kernel, by decide, by decide +kernel, by decide +kernel⟩, fun _ => ⟨bW_of (dk_tw_mem (n := 4110) rfl) rfl, bW_of (dk_sel (j := 71) (n := _) (by rfl)) rfl⟩, (fun h => absurd h (by decide)), (fun h => absurd h (by decide))⟩
/-- SpanCopier.lose(I)I -/
def ey137 : bY := (⟨"SpanCopier", "lose", "(I)I"⟩, prog_1_method_12_code, (Option.some Jvm.ClassFile.FieldType.int))
theorem emp137 : dk_mp (ey137, 2) 0 := ⟨⟨bW_of (dk_tw_mem (n := 4106) rfl) rfl, bW_of (dk_tw_mem (n := 1001) rfl) rfl, by decide +kernel, by decide +kernel, by decide, by decide +kernel, by decide +kernel⟩, fun _ => ⟨bW_of (dk_tw_mem (n := 4104) rfl) rfl, bW_of (dk_tw_mem (n := 4105) rfl) rfl⟩, (fun h => absurd h (by decide)), (fun h => absurd h (by decide))⟩
/-- SpanCopier.twice(I)I -/
def ey139 : bY := (⟨"SpanCopier", "twice", "(I)I"⟩, prog_1_method_14_code, (Option.some Jvm.ClassFile.FieldType.int))
theorem emp139 : dk_mp (ey139, 2) 0 := ⟨⟨bW_of (dk_tw_mem (n := 4115) rfl) rfl, bW_of (dk_tw_mem (n := 1001) rfl) rfl, by decide +kernel, by decide +kernel, by decide, by decide +kernel, by decide +kernel⟩, fun _ => ⟨bW_of (dk_tw_mem (n := 4113) rfl) rfl, bW_of (dk_tw_mem (n := 4114) rfl) rfl⟩, (fun h => absurd h (by decide)), (fun h => absurd h (by decide))⟩
/-- SpanCopier.late(II)I -/
def ey140 : bY := (⟨"SpanCopier", "late", "(II)I"⟩, prog_1_method_15_code, (Option.some Jvm.ClassFile.FieldType.int))
theorem emp140 : dk_mp (ey140, 3) 0 := ⟨⟨bW_of (dk_tw_mem (n := 4123) rfl) rfl, bW_of (dk_tw_mem (n := 1001) rfl) rfl, by decide +kernel, by decide +kernel, by decide, by decide +kernel, by decide +kernel⟩, fun _ => ⟨bW_of (dk_tw_mem (n := 4121) rfl) rfl, bW_of (dk_tw_mem (n := 4122) rfl) rfl⟩, (fun h => absurd h (by decide)), (fun h => absurd h (by decide))⟩
/-- SpanCopier.spoil(I)I -/
def ey141 : bY := (⟨"SpanCopier", "spoil", "(I)I"⟩, prog_1_method_16_code, (Option.some Jvm.ClassFile.FieldType.int))
theorem emp141 : dk_mp (ey141, 2) 0 := ⟨⟨bW_of (dk_tw_mem (n := 4131) rfl) rfl, bW_of (dk_tw_mem (n := 1001) rfl) rfl, by decide +kernel, by decide +kernel, by decide, by decide +kernel, by decide +kernel⟩, fun _ => ⟨bW_of (dk_tw_mem (n := 4129) rfl) rfl, bW_of (dk_tw_mem (n := 4130) rfl) rfl⟩, (fun h => absurd h (by decide)), (fun h => absurd h (by decide))⟩
/-- SpanCopier.prompt()I -/
def ey142 : bY := (⟨"SpanCopier", "prompt", "()I"⟩, prog_1_method_17_code, (Option.some Jvm.ClassFile.FieldType.int))
theorem emp142 : dk_mp (ey142, 1) 0 := ⟨⟨bW_of (dk_tw_mem (n := 4140) rfl) rfl, bW_of (dk_tw_mem (n := 1001) rfl) rfl, by decide +kernel, by decide +kernel, by decide, by decide +kernel, by decide +kernel⟩, fun _ => ⟨bW_of (dk_tw_mem (n := 4138) rfl) rfl, bW_of (dk_tw_mem (n := 4139) rfl) rfl⟩, (fun h => absurd h (by decide)), (fun h => absurd h (by decide))⟩
/-- SpanCopier.crash()I -/
def ey143 : bY := (⟨"SpanCopier", "crash", "()I"⟩, prog_1_method_18_code, (Option.some Jvm.ClassFile.FieldType.int))
theorem emp143 : dk_mp (ey143, 1) 0 := ⟨⟨bW_of (dk_tw_mem (n := 4150) rfl) rfl, bW_of (dk_tw_mem (n := 1001) rfl) rfl, by decide +kernel, by decide +kernel, by decide, by decide +kernel, by decide +kernel⟩, fun _ => ⟨bW_of (dk_tw_mem (n := 4148) rfl) rfl, bW_of (dk_tw_mem (n := 4149) rfl) rfl⟩, (fun h => absurd h (by decide)), (fun h => absurd h (by decide))⟩
/-- SpanCopier.undo()I -/
def ey144 : bY := (⟨"SpanCopier", "undo", "()I"⟩, prog_1_method_19_code, (Option.some Jvm.ClassFile.FieldType.int))
theorem emp144 : dk_mp (ey144, 2) 0 := ⟨⟨bW_of (dk_tw_mem (n := 4162) rfl) rfl, bW_of (dk_tw_mem (n := 1001) rfl) rfl, by decide +kernel, by decide +kernel, by decide, by decide +kernel, by decide +kernel⟩, fun _ => ⟨bW_of (dk_tw_mem (n := 4160) rfl) rfl, bW_of (dk_tw_mem (n := 4161) rfl) rfl⟩, (fun h => absurd h (by decide)), (fun h => absurd h (by decide))⟩
/-- SpanCopier.now(I)I -/
def ey145 : bY := (⟨"SpanCopier", "now", "(I)I"⟩, prog_1_method_20_code, (Option.some Jvm.ClassFile.FieldType.int))
theorem emp145 : dk_mp (ey145, 2) 0 := ⟨⟨bW_of (dk_tw_mem (n := 4166) rfl) rfl, bW_of (dk_tw_mem (n := 1001) rfl) rfl, by decide +kernel, by decide +kernel, by decide, by decide +kernel, by decide +kernel⟩, fun _ => ⟨bW_of (dk_tw_mem (n := 4164) rfl) rfl, bW_of (dk_tw_mem (n := 4165) rfl) rfl⟩, (fun h => absurd h (by decide)), (fun h => absurd h (by decide))⟩
/-- SpanCopier.span(III)I -/
def ey147 : bY := (⟨"SpanCopier", "span", "(III)I"⟩, prog_1_method_22_code, (Option.some Jvm.ClassFile.FieldType.int))
theorem emp147 : dk_mp (ey147, 6) 0 := ⟨⟨bW_of (dk_tw_mem (n := 4179) rfl) rfl, bW_of (dk_tw_mem (n := 1001) rfl) rfl, by decide +kernel, by decide +kernel, by decide, by decide +kernel, by decide +kernel⟩, fun _ => ⟨bW_of (dk_tw_mem (n := 4177) rfl) rfl, bW_of (dk_tw_mem (n := 4178) rfl) rfl⟩, (fun h => absurd h (by decide)), (fun h => absurd h (by decide))⟩
/-- SpanCopier.gap(II)I -/
def ey148 : bY := (⟨"SpanCopier", "gap", "(II)I"⟩, prog_1_method_23_code, (Option.some Jvm.ClassFile.FieldType.int))
theorem emp148 : dk_mp (ey148, 3) 0 := ⟨⟨bW_of (dk_tw_mem (n := 4187) rfl) rfl, bW_of (dk_tw_mem (n := 1001) rfl) rfl, by decide +kernel, by decide +kernel, by decide, by decide +kernel, by decide +kernel⟩, fun _ => ⟨bW_of (dk_tw_mem (n := 4185) rfl) rfl, bW_of (dk_tw_mem (n := 4186) rfl) rfl⟩, (fun h => absurd h (by decide)), (fun h => absurd h (by decide))⟩
/-- SpanCopier.resend(II)I -/
def ey149 : bY := (⟨"SpanCopier", "resend", "(II)I"⟩, prog_1_method_24_code, (Option.some Jvm.ClassFile.FieldType.int))
theorem emp149 : dk_mp (ey149, 3) 0 := ⟨⟨bW_of (dk_tw_mem (n := 4196) rfl) rfl, bW_of (dk_tw_mem (n := 1001) rfl) rfl, by decide +kernel, by decide +kernel, by decide, by decide +kernel, by decide +kernel⟩, fun _ => ⟨bW_of (dk_tw_mem (n := 4194) rfl) rfl, bW_of (dk_tw_mem (n := 4195) rfl) rfl⟩, (fun h => absurd h (by decide)), (fun h => absurd h (by decide))⟩
/-- SpanCopier.taken(I)I -/
def ey150 : bY := (⟨"SpanCopier", "taken", "(I)I"⟩, prog_1_method_25_code, (Option.some Jvm.ClassFile.FieldType.int))
theorem emp150 : dk_mp (ey150, 2) 0 := ⟨⟨bW_of (dk_tw_mem (n := 4200) rfl) rfl, bW_of (dk_tw_mem (n := 1001) rfl) rfl, by decide +kernel, by decide +kernel, by decide, by decide +kernel, by decide +kernel⟩, fun _ => ⟨bW_of (dk_tw_mem (n := 4198) rfl) rfl, bW_of (dk_tw_mem (n := 4199) rfl) rfl⟩, (fun h => absurd h (by decide)), (fun h => absurd h (by decide))⟩
/-- SpanCopier.store()I -/
def ey152 : bY := (⟨"SpanCopier", "store", "()I"⟩, prog_1_method_27_code, (Option.some Jvm.ClassFile.FieldType.int))
theorem emp152 : dk_mp (ey152, 1) 0 := ⟨⟨bW_of (dk_tw_mem (n := 4208) rfl) rfl, bW_of (dk_tw_mem (n := 1001) rfl) rfl, by decide +kernel, by decide +kernel, by decide, by decide +kernel, by decide +kernel⟩, fun _ => ⟨bW_of (dk_tw_mem (n := 4206) rfl) rfl, bW_of (dk_tw_mem (n := 4207) rfl) rfl⟩, (fun h => absurd h (by decide)), (fun h => absurd h (by decide))⟩
/-- SpanCopier.journal(I)I -/
def ey153 : bY := (⟨"SpanCopier", "journal", "(I)I"⟩, prog_1_method_28_code, (Option.some Jvm.ClassFile.FieldType.int))
theorem emp153 : dk_mp (ey153, 2) 0 := ⟨⟨bW_of (dk_tw_mem (n := 4212) rfl) rfl, bW_of (dk_tw_mem (n := 1001) rfl) rfl, by decide +kernel, by decide +kernel, by decide, by decide +kernel, by decide +kernel⟩, fun _ => ⟨bW_of (dk_tw_mem (n := 4210) rfl) rfl, bW_of (dk_tw_mem (n := 4211) rfl) rfl⟩, (fun h => absurd h (by decide)), (fun h => absurd h (by decide))⟩
/-- SpanCopier.need()I -/
def ey154 : bY := (⟨"SpanCopier", "need", "()I"⟩, prog_1_method_29_code, (Option.some Jvm.ClassFile.FieldType.int))
theorem emp154 : dk_mp (ey154, 1) 0 := ⟨⟨bW_of (dk_tw_mem (n := 4220) rfl) rfl, bW_of (dk_tw_mem (n := 1001) rfl) rfl, by decide +kernel, by decide +kernel, by decide, by decide +kernel, by decide +kernel⟩, fun _ => ⟨bW_of (dk_tw_mem (n := 4218) rfl) rfl, bW_of (dk_tw_mem (n := 4219) rfl) rfl⟩, (fun h => absurd h (by decide)), (fun h => absurd h (by decide))⟩
/-- SpanCopier.overAs(I)I -/
def ey157 : bY := (⟨"SpanCopier", "overAs", "(I)I"⟩, prog_1_method_32_code, (Option.some Jvm.ClassFile.FieldType.int))
theorem emp157 : dk_mp (ey157, 2) 0 := ⟨⟨bW_of (dk_tw_mem (n := 5013) rfl) rfl, bW_of (dk_tw_mem (n := 1001) rfl) rfl, by decide +kernel, by decide +kernel, by decide, by decide +kernel, by decide +kernel⟩, fun _ => ⟨bW_of (dk_tw_mem (n := 5011) rfl) rfl, bW_of (dk_tw_mem (n := 5012) rfl) rfl⟩, (fun h => absurd h (by decide)), (fun h => absurd h (by decide))⟩
/-- SpanCopier.told(I)I -/
def ey163 : bY := (⟨"SpanCopier", "told", "(I)I"⟩, prog_1_method_38_code, (Option.some Jvm.ClassFile.FieldType.int))
theorem emp163 : dk_mp (ey163, 2) 0 := ⟨⟨bW_of (dk_tw_mem (n := 5101) rfl) rfl, bW_of (dk_tw_mem (n := 1001) rfl) rfl, by decide +kernel, by decide +kernel, by decide, by decide +kernel, by decide +kernel⟩, fun _ => ⟨bW_of (dk_tw_mem (n := 5099) rfl) rfl, bW_of (dk_tw_mem (n := 5100) rfl) rfl⟩, (fun h => absurd h (by decide)), (fun h => absurd h (by decide))⟩
/-- SpanCopier.restore(I)Z -/
def ey167 : bY := (⟨"SpanCopier", "restore", "(I)Z"⟩, prog_1_method_42_code, (Option.some Jvm.ClassFile.FieldType.boolean))
theorem emp167 : dk_mp (ey167, 3) 0 := ⟨⟨bW_of (dk_tw_mem (n := 5199) rfl) rfl, bW_of (dk_tw_mem (n := 1001) rfl) rfl, by decide +kernel, by decide +kernel, by decide, by decide +kernel, by decide +kernel⟩, fun _ => ⟨bW_of (dk_tw_mem (n := 5197) rfl) rfl, bW_of (dk_tw_mem (n := 5198) rfl) rfl⟩, (fun h => absurd h (by decide)), (fun h => absurd h (by decide))⟩
