/-- SpanCopier.count(I)I -/
def ey168 : bY := (⟨"SpanCopier", "count", "(I)I"⟩, prog_1_method_43_code, (Option.some Jvm.ClassFile.FieldType.int))
theorem emp168 : dk_mp (ey168, 2) 0 := ⟨⟨bW_of (dk_tw_mem (n := 5203) rfl) rfl, bW_of (dk_tw_mem (n := 1001) rfl) rfl, by decide +kernel, by decide +kernel, by decide, by decide +kernel, by decide +kernel⟩, fun _ => ⟨bW_of (dk_tw_mem (n := 5201) rfl) rfl, bW_of (dk_tw_mem (n := 5202) rfl) rfl⟩, (fun h => absurd h (by decide)), (fun h => absurd h (by decide))⟩
/-- SpanCopier.image(I)Z -/
def ey166 : bY := (⟨"SpanCopier", "image", "(I)Z"⟩, prog_1_method_41_code, (Option.some Jvm.ClassFile.FieldType.boolean))
theorem emp166 : dk_mp (ey166, 3) 0 := ⟨⟨bW_of (dk_tw_mem (n := 5195) rfl) rfl, bW_of (dk_tw_mem (n := 1001) rfl) rfl, by decide +kernel, by decide +kernel, by decide, by decide +kernel, by decide +kernel⟩, fun _ => ⟨bW_of (dk_tw_mem (n := 5193) rfl) rfl, bW_of (dk_tw_mem (n := 5194) rfl) rfl⟩, (fun h => absurd h (by decide)), (fun h => absurd h (by decide))⟩
/-- SpanCopier.trialWorld()LSpanCopier.World; -/
def ey156 : bY := (⟨"SpanCopier", "trialWorld", "()LSpanCopier$World;"⟩, prog_1_method_31_code, (Option.some (Jvm.ClassFile.FieldType.object "SpanCopier$World")))
theorem emp156 : dk_mp (ey156, 1) 0 := ⟨⟨bW_of (dk_tw_mem (n := 4233) rfl) rfl, bW_of (dk_tw_mem (n := 1001) rfl) rfl, by decide +kernel, by decide +kernel, by decide, by decide +kernel, by decide +kernel⟩, fun _ => ⟨bW_of (dk_tw_mem (n := 4232) rfl) rfl, bW_of (dk_sel (j := 84) (n := _) (by rfl)) rfl⟩, (fun h => absurd h (by decide)), (fun h => absurd h (by decide))⟩
/-- SpanCopier.isDoneByDraws(I)Z -/
def ey160 : bY := (⟨"SpanCopier", "isDoneByDraws", "(I)Z"⟩, prog_1_method_35_code, (Option.some Jvm.ClassFile.FieldType.boolean))
theorem emp160 : dk_mp (ey160, 4) 0 := ⟨⟨bW_of (dk_tw_mem (n := 5039) rfl) rfl, bW_of (dk_tw_mem (n := 1001) rfl) rfl, by decide +kernel, by decide +kernel, by decide, by decide +kernel, by decide +kernel⟩, fun _ => ⟨bW_of (dk_tw_mem (n := 5038) rfl) rfl, bW_of (dk_sel (j := 91) (n := _) (by rfl)) rfl⟩, (fun h => absurd h (by decide)), (fun h => absurd h (by decide))⟩
/-- SpanCopier.odds(II)I -/
def ey159 : bY := (⟨"SpanCopier", "odds", "(II)I"⟩, prog_1_method_34_code, (Option.some Jvm.ClassFile.FieldType.int))
theorem emp159 : dk_mp (ey159, 5) 0 := ⟨⟨bW_of (dk_tw_mem (n := 5035) rfl) rfl, bW_of (dk_tw_mem (n := 1001) rfl) rfl, by decide +kernel, by decide +kernel, by decide, by decide +kernel, by decide +kernel⟩, fun _ => ⟨bW_of (dk_tw_mem (n := 5033) rfl) rfl, bW_of (dk_tw_mem (n := 5034) rfl) rfl⟩, (fun h => absurd h (by decide)), (fun h => absurd h (by decide))⟩
/-- SpanCopier.over()I -/
def ey155 : bY := (⟨"SpanCopier", "over", "()I"⟩, prog_1_method_30_code, (Option.some Jvm.ClassFile.FieldType.int))
theorem emp155 : dk_mp (ey155, 3) 0 := ⟨⟨bW_of (dk_tw_mem (n := 4229) rfl) rfl, bW_of (dk_tw_mem (n := 1001) rfl) rfl, by decide +kernel, by decide +kernel, by decide, by decide +kernel, by decide +kernel⟩, fun _ => ⟨bW_of (dk_tw_mem (n := 4227) rfl) rfl, bW_of (dk_tw_mem (n := 4228) rfl) rfl⟩, (fun h => absurd h (by decide)), (fun h => absurd h (by decide))⟩
/-- SpanCopier.drawn(II)I -/
def ey158 : bY := (⟨"SpanCopier", "drawn", "(II)I"⟩, prog_1_method_33_code, (Option.some Jvm.ClassFile.FieldType.int))
theorem emp158 : dk_mp (ey158, 4) 0 := ⟨⟨bW_of (dk_tw_mem (n := 5017) rfl) rfl, bW_of (dk_tw_mem (n := 1001) rfl) rfl, by decide +kernel, by decide +kernel, by decide, by decide +kernel, by decide +kernel⟩, fun _ => ⟨bW_of (dk_tw_mem (n := 5015) rfl) rfl, bW_of (dk_tw_mem (n := 5016) rfl) rfl⟩, (fun h => absurd h (by decide)), (fun h => absurd h (by decide))⟩
/-- SpanCopier.tellJudged(IILSpanCopier.World;)V -/
def ey162 : bY := (⟨"SpanCopier", "tellJudged", "(IILSpanCopier$World;)V"⟩, prog_1_method_37_code, (Option.none : Option Jvm.ClassFile.FieldType))
theorem emp162 : dk_mp (ey162, 4) 0 := ⟨⟨bW_of (dk_tw_mem (n := 5097) rfl) rfl, bW_of (dk_tw_mem (n := 1001) rfl) rfl, by decide +kernel, by decide +kernel, by decide, by decide +kernel, by decide +kernel⟩, fun _ => ⟨bW_of (dk_tw_mem (n := 5096) rfl) rfl, bW_of (dk_sel (j := 97) (n := _) (by rfl)) rfl⟩, (fun h => absurd h (by decide)), (fun h => absurd h (by decide))⟩
/-- SpanCopier.book(I)I -/
def ey161 : bY := (⟨"SpanCopier", "book", "(I)I"⟩, prog_1_method_36_code, (Option.some Jvm.ClassFile.FieldType.int))
theorem emp161 : dk_mp (ey161, 5) 0 := ⟨⟨bW_of (dk_tw_mem (n := 5051) rfl) rfl, bW_of (dk_tw_mem (n := 1001) rfl) rfl, by decide +kernel, by decide +kernel, by decide, by decide +kernel, by decide +kernel⟩, fun _ => ⟨bW_of (dk_tw_mem (n := 5049) rfl) rfl, bW_of (dk_tw_mem (n := 5050) rfl) rfl⟩, (fun h => absurd h (by decide)), (fun h => absurd h (by decide))⟩
/-- SpanCopier.sentence()I -/
def ey164 : bY := (⟨"SpanCopier", "sentence", "()I"⟩, prog_1_method_39_code, (Option.some Jvm.ClassFile.FieldType.int))
theorem emp164 : dk_mp (ey164, 2) 0 := ⟨⟨bW_of (dk_tw_mem (n := 5105) rfl) rfl, bW_of (dk_tw_mem (n := 1001) rfl) rfl, by decide +kernel, by decide +kernel, by decide, by decide +kernel, by decide +kernel⟩, fun _ => ⟨bW_of (dk_tw_mem (n := 5103) rfl) rfl, bW_of (dk_tw_mem (n := 5104) rfl) rfl⟩, (fun h => absurd h (by decide)), (fun h => absurd h (by decide))⟩
/-- SpanCopier.said(I)I -/
def ey165 : bY := (⟨"SpanCopier", "said", "(I)I"⟩, prog_1_method_40_code, (Option.some Jvm.ClassFile.FieldType.int))
theorem emp165 : dk_mp (ey165, 5) 0 := ⟨⟨bW_of (dk_tw_mem (n := 5177) rfl) rfl, bW_of (dk_tw_mem (n := 1001) rfl) rfl, by decide +kernel, by decide +kernel, by decide, by decide +kernel, by decide +kernel⟩, fun _ => ⟨bW_of (dk_tw_mem (n := 5175) rfl) rfl, bW_of (dk_tw_mem (n := 5176) rfl) rfl⟩, (fun h => absurd h (by decide)), (fun h => absurd h (by decide))⟩
/-- SpanCopierModel.refuse()I -/
def ey169 : bY := (⟨"SpanCopierModel", "refuse", "()I"⟩, prog_15_method_2_code, (Option.some Jvm.ClassFile.FieldType.int))
theorem emp169 : dk_mp (ey169, 1) 0 := ⟨⟨bW_of (dk_tw_mem (n := 8039) rfl) rfl, bW_of (dk_tw_mem (n := 1015) rfl) rfl, by decide +kernel, by decide +kernel, by decide, by decide +kernel, by decide +kernel⟩, fun _ => ⟨bW_of (dk_tw_mem (n := 8038) rfl) rfl, bW_of (dk_sel (j := 173) (n := _) (by rfl)) rfl⟩, (fun h => absurd h (by decide)), (fun h => absurd h (by decide))⟩
/-- SpanCopierModel.take()I -/
def ey173 : bY := (⟨"SpanCopierModel", "take", "()I"⟩, prog_15_method_6_code, (Option.some Jvm.ClassFile.FieldType.int))
theorem emp173 : dk_mp (ey173, 2) 0 := ⟨⟨bW_of (dk_tw_mem (n := 6206) rfl) rfl, bW_of (dk_tw_mem (n := 1015) rfl) rfl, by decide +kernel, by decide +kernel, by decide, by decide +kernel, by decide +kernel⟩, fun _ => ⟨bW_of (dk_tw_mem (n := 6205) rfl) rfl, bW_of (dk_sel (j := 114) (n := _) (by rfl)) rfl⟩, (fun h => absurd h (by decide)), (fun h => absurd h (by decide))⟩
/-- SpanCopierModel.has(II)Z -/
def ey175 : bY := (⟨"SpanCopierModel", "has", "(II)Z"⟩, prog_15_method_8_code, (Option.some Jvm.ClassFile.FieldType.boolean))
theorem emp175 : dk_mp (ey175, 2) 2 := ⟨⟨bW_of (dk_tw_mem (n := 7045) rfl) rfl, bW_of (dk_tw_mem (n := 1015) rfl) rfl, by decide +kernel, by decide +kernel, by decide, by decide +kernel, by decide +kernel⟩, (fun h => absurd h (by decide)), (fun h => absurd h (by decide)), fun _ => bW_of (dk_tw_mem (n := 7044) rfl) rfl⟩
/-- SpanCopierModel.isDigit(I)Z -/
def ey178 : bY := (⟨"SpanCopierModel", "isDigit", "(I)Z"⟩, prog_15_method_14_code, (Option.some Jvm.ClassFile.FieldType.boolean))
theorem emp178 : dk_mp (ey178, 1) 2 := ⟨⟨bW_of (dk_tw_mem (n := 6216) rfl) rfl, bW_of (dk_tw_mem (n := 1015) rfl) rfl, by decide +kernel, by decide +kernel, by decide, by decide +kernel, by decide +kernel⟩, (fun h => absurd h (by decide)), (fun h => absurd h (by decide)), fun _ => bW_of (dk_tw_mem (n := 6215) rfl) rfl⟩
/-- SpanCopierModel.isLetter(I)Z -/
def ey179 : bY := (⟨"SpanCopierModel", "isLetter", "(I)Z"⟩, prog_15_method_15_code, (Option.some Jvm.ClassFile.FieldType.boolean))
theorem emp179 : dk_mp (ey179, 1) 2 := ⟨⟨bW_of (dk_tw_mem (n := 6213) rfl) rfl, bW_of (dk_tw_mem (n := 1015) rfl) rfl, by decide +kernel, by decide +kernel, by decide, by decide +kernel, by decide +kernel⟩, (fun h => absurd h (by decide)), (fun h => absurd h (by decide)), fun _ => bW_of (dk_tw_mem (n := 6212) rfl) rfl⟩
/-- SpanCopierModel.tapeAt(I)I -/
def ey177 : bY := (⟨"SpanCopierModel", "tapeAt", "(I)I"⟩, prog_15_method_13_code, (Option.some Jvm.ClassFile.FieldType.int))
theorem emp177 : dk_mp (ey177, 2) 0 := ⟨⟨bW_of (dk_tw_mem (n := 6220) rfl) rfl, bW_of (dk_tw_mem (n := 1015) rfl) rfl, by decide +kernel, by decide +kernel, by decide, by decide +kernel, by decide +kernel⟩, fun _ => ⟨bW_of (dk_tw_mem (n := 6219) rfl) rfl, bW_of (dk_sel (j := 116) (n := _) (by rfl)) rfl⟩, (fun h => absurd h (by decide)), (fun h => absurd h (by decide))⟩
/-- SpanCopierModel.least(II)I -/
def ey176 : bY := (⟨"SpanCopierModel", "least", "(II)I"⟩, prog_15_method_10_code, (Option.some Jvm.ClassFile.FieldType.int))
theorem emp176 : dk_mp (ey176, 2) 2 := ⟨⟨bW_of (dk_tw_mem (n := 7092) rfl) rfl, bW_of (dk_tw_mem (n := 1015) rfl) rfl, by decide +kernel, by decide +kernel, by decide, by decide +kernel, by decide +kernel⟩, (fun h => absurd h (by decide)), (fun h => absurd h (by decide)), fun _ => bW_of (dk_tw_mem (n := 7091) rfl) rfl⟩
/-- SpanCopierModel.isIn(III)Z -/
def ey174 : bY := (⟨"SpanCopierModel", "isIn", "(III)Z"⟩, prog_15_method_7_code, (Option.some Jvm.ClassFile.FieldType.boolean))
theorem emp174 : dk_mp (ey174, 3) 2 := ⟨⟨bW_of (dk_tw_mem (n := 7011) rfl) rfl, bW_of (dk_tw_mem (n := 1015) rfl) rfl, by decide +kernel, by decide +kernel, by decide, by decide +kernel, by decide +kernel⟩, (fun h => absurd h (by decide)), (fun h => absurd h (by decide)), fun _ => bW_of (dk_tw_mem (n := 7010) rfl) rfl⟩
/-- SpanCopierModel.come(I)V -/
def ey170 : bY := (⟨"SpanCopierModel", "come", "(I)V"⟩, prog_15_method_3_code, (Option.none : Option Jvm.ClassFile.FieldType))
theorem emp170 : dk_mp (ey170, 3) 0 := ⟨⟨bW_of (dk_tw_mem (n := 6054) rfl) rfl, bW_of (dk_tw_mem (n := 1015) rfl) rfl, by decide +kernel, by decide +kernel, by decide, by decide +kernel, by decide +kernel⟩, fun _ => ⟨bW_of (dk_tw_mem (n := 6052) rfl) rfl, bW_of (dk_sel (j := 109) (n := _) (by rfl)) rfl⟩, (fun h => absurd h (by decide)), (fun h => absurd h (by decide))⟩
/-- SpanCopierModel.feed(IIIII)I -/
def ey171 : bY := (⟨"SpanCopierModel", "feed", "(IIIII)I"⟩, prog_15_method_4_code, (Option.some Jvm.ClassFile.FieldType.int))
theorem emp171 : dk_mp (ey171, 6) 0 := ⟨⟨bW_of (dk_tw_mem (n := 6049) rfl) rfl, bW_of (dk_tw_mem (n := 1015) rfl) rfl, by decide +kernel, by decide +kernel, by decide, by decide +kernel, by decide +kernel⟩, fun _ => ⟨bW_of (dk_tw_mem (n := 6047) rfl) rfl, bW_of (dk_tw_mem (n := 6048) rfl) rfl⟩, (fun h => absurd h (by decide)), (fun h => absurd h (by decide))⟩
/-- SpanCopierModel.end(I)Z -/
def ey172 : bY := (⟨"SpanCopierModel", "end", "(I)Z"⟩, prog_15_method_5_code, (Option.some Jvm.ClassFile.FieldType.boolean))
theorem emp172 : dk_mp (ey172, 2) 0 := ⟨⟨bW_of (dk_tw_mem (n := 6058) rfl) rfl, bW_of (dk_tw_mem (n := 1015) rfl) rfl, by decide +kernel, by decide +kernel, by decide, by decide +kernel, by decide +kernel⟩, fun _ => ⟨bW_of (dk_tw_mem (n := 6056) rfl) rfl, bW_of (dk_tw_mem (n := 6057) rfl) rfl⟩, (fun h => absurd h (by decide)), (fun h => absurd h (by decide))⟩
/-- SpanCopierModel.fault()I -/
def ey205 : bY := (⟨"SpanCopierModel", "fault", "()I"⟩, prog_15_method_41_code, (Option.some Jvm.ClassFile.FieldType.int))
theorem emp205 : dk_mp (ey205, 1) 0 := ⟨⟨bW_of (dk_tw_mem (n := 7061) rfl) rfl, bW_of (dk_tw_mem (n := 1015) rfl) rfl, by decide +kernel, by decide +kernel, by decide, by decide +kernel, by decide +kernel⟩, fun _ => ⟨bW_of (dk_tw_mem (n := 7059) rfl) rfl, bW_of (dk_tw_mem (n := 7060) rfl) rfl⟩, (fun h => absurd h (by decide)), (fun h => absurd h (by decide))⟩
/-- SpanCopierModel.spelt(IIIIII)J -/
def ey181 : bY := (⟨"SpanCopierModel", "spelt", "(IIIIII)J"⟩, prog_15_method_17_code, (Option.some Jvm.ClassFile.FieldType.long))
theorem emp181 : dk_mp (ey181, 8) 2 := ⟨⟨bW_of (dk_tw_mem (n := 6236) rfl) rfl, bW_of (dk_tw_mem (n := 1015) rfl) rfl, by decide +kernel, by decide +kernel, by decide, by decide +kernel, by decide +kernel⟩, (fun h => absurd h (by decide)), (fun h => absurd h (by decide)), fun _ => bW_of (dk_tw_mem (n := 6235) rfl) rfl⟩
/-- SpanCopierModel.wordOf(I)J -/
def ey182 : bY := (⟨"SpanCopierModel", "wordOf", "(I)J"⟩, prog_15_method_18_code, (Option.some Jvm.ClassFile.FieldType.long))
theorem emp182 : dk_mp (ey182, 1) 2 := ⟨⟨bW_of (dk_tw_mem (n := 6233) rfl) rfl, bW_of (dk_tw_mem (n := 1015) rfl) rfl, by decide +kernel, by decide +kernel, by decide, by decide +kernel, by decide +kernel⟩, (fun h => absurd h (by decide)), (fun h => absurd h (by decide)), fun _ => bW_of (dk_tw_mem (n := 6232) rfl) rfl⟩
/-- SpanCopierModel.isWord(I)Z -/
def ey183 : bY := (⟨"SpanCopierModel", "isWord", "(I)Z"⟩, prog_15_method_19_code, (Option.some Jvm.ClassFile.FieldType.boolean))
theorem emp183 : dk_mp (ey183, 2) 0 := ⟨⟨bW_of (dk_tw_mem (n := 6230) rfl) rfl, bW_of (dk_tw_mem (n := 1015) rfl) rfl, by decide +kernel, by decide +kernel, by decide, by decide +kernel, by decide +kernel⟩, fun _ => ⟨bW_of (dk_tw_mem (n := 6229) rfl) rfl, bW_of (dk_sel (j := 118) (n := _) (by rfl)) rfl⟩, (fun h => absurd h (by decide)), (fun h => absurd h (by decide))⟩
/-- SpanCopierModel.isSign(I)Z -/
def ey184 : bY := (⟨"SpanCopierModel", "isSign", "(I)Z"⟩, prog_15_method_20_code, (Option.some Jvm.ClassFile.FieldType.boolean))
theorem emp184 : dk_mp (ey184, 2) 0 := ⟨⟨bW_of (dk_tw_mem (n := 7057) rfl) rfl, bW_of (dk_tw_mem (n := 1015) rfl) rfl, by decide +kernel, by decide +kernel, by decide, by decide +kernel, by decide +kernel⟩, fun _ => ⟨bW_of (dk_tw_mem (n := 7056) rfl) rfl, bW_of (dk_sel (j := 131) (n := _) (by rfl)) rfl⟩, (fun h => absurd h (by decide)), (fun h => absurd h (by decide))⟩
/-- SpanCopierModel.bad(I)Z -/
def ey186 : bY := (⟨"SpanCopierModel", "bad", "(I)Z"⟩, prog_15_method_22_code, (Option.some Jvm.ClassFile.FieldType.boolean))
theorem emp186 : dk_mp (ey186, 2) 0 := ⟨⟨bW_of (dk_tw_mem (n := 7004) rfl) rfl, bW_of (dk_tw_mem (n := 1015) rfl) rfl, by decide +kernel, by decide +kernel, by decide, by decide +kernel, by decide +kernel⟩, fun _ => ⟨bW_of (dk_tw_mem (n := 7003) rfl) rfl, bW_of (dk_sel (j := 120) (n := _) (by rfl)) rfl⟩, (fun h => absurd h (by decide)), (fun h => absurd h (by decide))⟩
/-- SpanCopierModel.isName()Z -/
def ey185 : bY := (⟨"SpanCopierModel", "isName", "()Z"⟩, prog_15_method_21_code, (Option.some Jvm.ClassFile.FieldType.boolean))
theorem emp185 : dk_mp (ey185, 2) 0 := ⟨⟨bW_of (dk_tw_mem (n := 7031) rfl) rfl, bW_of (dk_tw_mem (n := 1015) rfl) rfl, by decide +kernel, by decide +kernel, by decide, by decide +kernel, by decide +kernel⟩, fun _ => ⟨bW_of (dk_tw_mem (n := 7030) rfl) rfl, bW_of (dk_sel (j := 126) (n := _) (by rfl)) rfl⟩, (fun h => absurd h (by decide)), (fun h => absurd h (by decide))⟩
/-- SpanCopierModel.begin(I)V -/
def ey189 : bY := (⟨"SpanCopierModel", "begin", "(I)V"⟩, prog_15_method_25_code, (Option.none : Option Jvm.ClassFile.FieldType))
theorem emp189 : dk_mp (ey189, 2) 0 := ⟨⟨bW_of (dk_tw_mem (n := 6202) rfl) rfl, bW_of (dk_tw_mem (n := 1015) rfl) rfl, by decide +kernel, by decide +kernel, by decide, by decide +kernel, by decide +kernel⟩, fun _ => ⟨bW_of (dk_tw_mem (n := 6201) rfl) rfl, bW_of (dk_sel (j := 113) (n := _) (by rfl)) rfl⟩, (fun h => absurd h (by decide)), (fun h => absurd h (by decide))⟩
/-- SpanCopierModel.readNumber(II)Z -/
def ey187 : bY := (⟨"SpanCopierModel", "readNumber", "(II)Z"⟩, prog_15_method_23_code, (Option.some Jvm.ClassFile.FieldType.boolean))
theorem emp187 : dk_mp (ey187, 3) 0 := ⟨⟨bW_of (dk_tw_mem (n := 7008) rfl) rfl, bW_of (dk_tw_mem (n := 1015) rfl) rfl, by decide +kernel, by decide +kernel, by decide, by decide +kernel, by decide +kernel⟩, fun _ => ⟨bW_of (dk_tw_mem (n := 7007) rfl) rfl, bW_of (dk_sel (j := 121) (n := _) (by rfl)) rfl⟩, (fun h => absurd h (by decide)), (fun h => absurd h (by decide))⟩
/-- SpanCopierModel.readEnd()Z -/
def ey188 : bY := (⟨"SpanCopierModel", "readEnd", "()Z"⟩, prog_15_method_24_code, (Option.some Jvm.ClassFile.FieldType.boolean))
theorem emp188 : dk_mp (ey188, 1) 0 := ⟨⟨bW_of (dk_tw_mem (n := 7053) rfl) rfl, bW_of (dk_tw_mem (n := 1015) rfl) rfl, by decide +kernel, by decide +kernel, by decide, by decide +kernel, by decide +kernel⟩, fun _ => ⟨bW_of (dk_tw_mem (n := 7052) rfl) rfl, bW_of (dk_sel (j := 130) (n := _) (by rfl)) rfl⟩, (fun h => absurd h (by decide)), (fun h => absurd h (by decide))⟩
/-- SpanCopierModel.findIn([JIIJ)I -/
def ey194 : bY := (⟨"SpanCopierModel", "findIn", "([JIIJ)I"⟩, prog_15_method_30_code, (Option.some Jvm.ClassFile.FieldType.int))
theorem emp194 : dk_mp (ey194, 6) 2 := ⟨⟨bW_of (dk_tw_mem (n := 7034) rfl) rfl, bW_of (dk_tw_mem (n := 1015) rfl) rfl, by decide +kernel, by decide +kernel, by decide, by decide +kernel, by decide +kernel⟩, (fun h => absurd h (by decide)), (fun h => absurd h (by decide)), fun _ => bW_of (dk_tw_mem (n := 7033) rfl) rfl⟩
/-- SpanCopierModel.put(IZ)Z -/
def ey195 : bY := (⟨"SpanCopierModel", "put", "(IZ)Z"⟩, prog_15_method_31_code, (Option.some Jvm.ClassFile.FieldType.boolean))
theorem emp195 : dk_mp (ey195, 3) 0 := ⟨⟨bW_of (dk_tw_mem (n := 7015) rfl) rfl, bW_of (dk_tw_mem (n := 1015) rfl) rfl, by decide +kernel, by decide +kernel, by decide, by decide +kernel, by decide +kernel⟩, fun _ => ⟨bW_of (dk_tw_mem (n := 7014) rfl) rfl, bW_of (dk_sel (j := 122) (n := _) (by rfl)) rfl⟩, (fun h => absurd h (by decide)), (fun h => absurd h (by decide))⟩
/-- SpanCopierModel.isFresh(I)Z -/
def ey196 : bY := (⟨"SpanCopierModel", "isFresh", "(I)Z"⟩, prog_15_method_32_code, (Option.some Jvm.ClassFile.FieldType.boolean))
theorem emp196 : dk_mp (ey196, 2) 0 := ⟨⟨bW_of (dk_tw_mem (n := 7000) rfl) rfl, bW_of (dk_tw_mem (n := 1015) rfl) rfl, by decide +kernel, by decide +kernel, by decide, by decide +kernel, by decide +kernel⟩, fun _ => ⟨bW_of (dk_tw_mem (n := 6239) rfl) rfl, bW_of (dk_sel (j := 119) (n := _) (by rfl)) rfl⟩, (fun h => absurd h (by decide)), (fun h => absurd h (by decide))⟩
/-- SpanCopierModel.isAnyName()Z -/
def ey197 : bY := (⟨"SpanCopierModel", "isAnyName", "()Z"⟩, prog_15_method_33_code, (Option.some Jvm.ClassFile.FieldType.boolean))
theorem emp197 : dk_mp (ey197, 1) 0 := ⟨⟨bW_of (dk_tw_mem (n := 7027) rfl) rfl, bW_of (dk_tw_mem (n := 1015) rfl) rfl, by decide +kernel, by decide +kernel, by decide, by decide +kernel, by decide +kernel⟩, fun _ => ⟨bW_of (dk_tw_mem (n := 7026) rfl) rfl, bW_of (dk_sel (j := 125) (n := _) (by rfl)) rfl⟩, (fun h => absurd h (by decide)), (fun h => absurd h (by decide))⟩
/-- SpanCopierModel.takeName()V -/
def ey198 : bY := (⟨"SpanCopierModel", "takeName", "()V"⟩, prog_15_method_34_code, (Option.none : Option Jvm.ClassFile.FieldType))
theorem emp198 : dk_mp (ey198, 1) 0 := ⟨⟨bW_of (dk_tw_mem (n := 7038) rfl) rfl, bW_of (dk_tw_mem (n := 1015) rfl) rfl, by decide +kernel, by decide +kernel, by decide, by decide +kernel, by decide +kernel⟩, fun _ => ⟨bW_of (dk_tw_mem (n := 7037) rfl) rfl, bW_of (dk_sel (j := 127) (n := _) (by rfl)) rfl⟩, (fun h => absurd h (by decide)), (fun h => absurd h (by decide))⟩
/-- SpanCopierModel.readAnyName()Z -/
def ey199 : bY := (⟨"SpanCopierModel", "readAnyName", "()Z"⟩, prog_15_method_35_code, (Option.some Jvm.ClassFile.FieldType.boolean))
theorem emp199 : dk_mp (ey199, 1) 0 := ⟨⟨bW_of (dk_tw_mem (n := 7023) rfl) rfl, bW_of (dk_tw_mem (n := 1015) rfl) rfl, by decide +kernel, by decide +kernel, by decide, by decide +kernel, by decide +kernel⟩, fun _ => ⟨bW_of (dk_tw_mem (n := 7022) rfl) rfl, bW_of (dk_sel (j := 124) (n := _) (by rfl)) rfl⟩, (fun h => absurd h (by decide)), (fun h => absurd h (by decide))⟩
/-- SpanCopierModel.readPolicy()Z -/
def ey200 : bY := (⟨"SpanCopierModel", "readPolicy", "()Z"⟩, prog_15_method_36_code, (Option.some Jvm.ClassFile.FieldType.boolean))
theorem emp200 : dk_mp (ey200, 2) 0 := ⟨⟨bW_of (dk_tw_mem (n := 7019) rfl) rfl, bW_of (dk_tw_mem (n := 1015) rfl) rfl, by decide +kernel, by decide +kernel, by decide, by decide +kernel, by decide +kernel⟩, fun _ => ⟨bW_of (dk_tw_mem (n := 7018) rfl) rfl, bW_of (dk_sel (j := 123) (n := _) (by rfl)) rfl⟩, (fun h => absurd h (by decide)), (fun h => absurd h (by decide))⟩
/-- SpanCopierModel.readHas()Z -/
def ey201 : bY := (⟨"SpanCopierModel", "readHas", "()Z"⟩, prog_15_method_37_code, (Option.some Jvm.ClassFile.FieldType.boolean))
theorem emp201 : dk_mp (ey201, 1) 0 := ⟨⟨bW_of (dk_tw_mem (n := 7042) rfl) rfl, bW_of (dk_tw_mem (n := 1015) rfl) rfl, by decide +kernel, by decide +kernel, by decide, by decide +kernel, by decide +kernel⟩, fun _ => ⟨bW_of (dk_tw_mem (n := 7041) rfl) rfl, bW_of (dk_sel (j := 128) (n := _) (by rfl)) rfl⟩, (fun h => absurd h (by decide)), (fun h => absurd h (by decide))⟩
