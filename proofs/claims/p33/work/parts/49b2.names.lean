/-- SpanCopier.store()I -/
def ey152 : bY := (⟨"SpanCopier", "store", "()I"⟩, prog_1_method_27_code, (Option.some Jvm.ClassFile.FieldType.int))
theorem emp152 : dk_mp (ey152, 1) 0 := ⟨⟨bW_of (dk_tw_mem (n := 4208) (by decide +kernel)) rfl, bW_of (dk_tw_mem (n := 1001) (by decide +kernel)) rfl, by decide +kernel, by decide +kernel, by decide, by decide +kernel, by decide +kernel⟩, fun _ => ⟨bW_of (dk_tw_mem (n := 4206) (by decide +kernel)) rfl, bW_of (dk_tw_mem (n := 4207) (by decide +kernel)) rfl⟩, (fun h => absurd h (by decide)), (fun h => absurd h (by decide))⟩
/-- SpanCopier.journal(I)I -/
def ey153 : bY := (⟨"SpanCopier", "journal", "(I)I"⟩, prog_1_method_28_code, (Option.some Jvm.ClassFile.FieldType.int))
theorem emp153 : dk_mp (ey153, 2) 0 := ⟨⟨bW_of (dk_tw_mem (n := 4212) (by decide +kernel)) rfl, bW_of (dk_tw_mem (n := 1001) (by decide +kernel)) rfl, by decide +kernel, by decide +kernel, by decide, by decide +kernel, by decide +kernel⟩, fun _ => ⟨bW_of (dk_tw_mem (n := 4210) (by decide +kernel)) rfl, bW_of (dk_tw_mem (n := 4211) (by decide +kernel)) rfl⟩, (fun h => absurd h (by decide)), (fun h => absurd h (by decide))⟩
/-- SpanCopier.need()I -/
def ey154 : bY := (⟨"SpanCopier", "need", "()I"⟩, prog_1_method_29_code, (Option.some Jvm.ClassFile.FieldType.int))
theorem emp154 : dk_mp (ey154, 1) 0 := ⟨⟨bW_of (dk_tw_mem (n := 4220) (by decide +kernel)) rfl, bW_of (dk_tw_mem (n := 1001) (by decide +kernel)) rfl, by decide +kernel, by decide +kernel, by decide, by decide +kernel, by decide +kernel⟩, fun _ => ⟨bW_of (dk_tw_mem (n := 4218) (by decide +kernel)) rfl, bW_of (dk_tw_mem (n := 4219) (by decide +kernel)) rfl⟩, (fun h => absurd h (by decide)), (fun h => absurd h (by decide))⟩
/-- SpanCopier.overAs(I)I -/
def ey157 : bY := (⟨"SpanCopier", "overAs", "(I)I"⟩, prog_1_method_32_code, (Option.some Jvm.ClassFile.FieldType.int))
theorem emp157 : dk_mp (ey157, 2) 0 := ⟨⟨bW_of (dk_tw_mem (n := 5013) (by decide +kernel)) rfl, bW_of (dk_tw_mem (n := 1001) (by decide +kernel)) rfl, by decide +kernel, by decide +kernel, by decide, by decide +kernel, by decide +kernel⟩, fun _ => ⟨bW_of (dk_tw_mem (n := 5011) (by decide +kernel)) rfl, bW_of (dk_tw_mem (n := 5012) (by decide +kernel)) rfl⟩, (fun h => absurd h (by decide)), (fun h => absurd h (by decide))⟩
/-- SpanCopier.told(I)I -/
def ey163 : bY := (⟨"SpanCopier", "told", "(I)I"⟩, prog_1_method_38_code, (Option.some Jvm.ClassFile.FieldType.int))
theorem emp163 : dk_mp (ey163, 2) 0 := ⟨⟨bW_of (dk_tw_mem (n := 5101) (by decide +kernel)) rfl, bW_of (dk_tw_mem (n := 1001) (by decide +kernel)) rfl, by decide +kernel, by decide +kernel, by decide, by decide +kernel, by decide +kernel⟩, fun _ => ⟨bW_of (dk_tw_mem (n := 5099) (by decide +kernel)) rfl, bW_of (dk_tw_mem (n := 5100) (by decide +kernel)) rfl⟩, (fun h => absurd h (by decide)), (fun h => absurd h (by decide))⟩
/-- SpanCopier.restore(I)Z -/
def ey167 : bY := (⟨"SpanCopier", "restore", "(I)Z"⟩, prog_1_method_42_code, (Option.some Jvm.ClassFile.FieldType.boolean))
theorem emp167 : dk_mp (ey167, 3) 0 := ⟨⟨bW_of (dk_tw_mem (n := 5199) (by decide +kernel)) rfl, bW_of (dk_tw_mem (n := 1001) (by decide +kernel)) rfl, by decide +kernel, by decide +kernel, by decide, by decide +kernel, by decide +kernel⟩, fun _ => ⟨bW_of (dk_tw_mem (n := 5197) (by decide +kernel)) rfl, bW_of (dk_tw_mem (n := 5198) (by decide +kernel)) rfl⟩, (fun h => absurd h (by decide)), (fun h => absurd h (by decide))⟩
/-- SpanCopier.count(I)I -/
def ey168 : bY := (⟨"SpanCopier", "count", "(I)I"⟩, prog_1_method_43_code, (Option.some Jvm.ClassFile.FieldType.int))
theorem emp168 : dk_mp (ey168, 2) 0 := ⟨⟨bW_of (dk_tw_mem (n := 5203) (by decide +kernel)) rfl, bW_of (dk_tw_mem (n := 1001) (by decide +kernel)) rfl, by decide +kernel, by decide +kernel, by decide, by decide +kernel, by decide +kernel⟩, fun _ => ⟨bW_of (dk_tw_mem (n := 5201) (by decide +kernel)) rfl, bW_of (dk_tw_mem (n := 5202) (by decide +kernel)) rfl⟩, (fun h => absurd h (by decide)), (fun h => absurd h (by decide))⟩
/-- SpanCopier.image(I)Z -/
def ey166 : bY := (⟨"SpanCopier", "image", "(I)Z"⟩, prog_1_method_41_code, (Option.some Jvm.ClassFile.FieldType.boolean))
theorem emp166 : dk_mp (ey166, 3) 0 := ⟨⟨bW_of (dk_tw_mem (n := 5195) (by decide +kernel)) rfl, bW_of (dk_tw_mem (n := 1001) (by decide +kernel)) rfl, by decide +kernel, by decide +kernel, by decide, by decide +kernel, by decide +kernel⟩, fun _ => ⟨bW_of (dk_tw_mem (n := 5193) (by decide +kernel)) rfl, bW_of (dk_tw_mem (n := 5194) (by decide +kernel)) rfl⟩, (fun h => absurd h (by decide)), (fun h => absurd h (by decide))⟩
/-- SpanCopier.trialWorld()LSpanCopier.World; -/
def ey156 : bY := (⟨"SpanCopier", "trialWorld", "()LSpanCopier$World;"⟩, prog_1_method_31_code, (Option.some (Jvm.ClassFile.FieldType.object "SpanCopier$World")))
theorem emp156 : dk_mp (ey156, 1) 0 := ⟨⟨bW_of (dk_tw_mem (n := 4233) (by decide +kernel)) rfl, bW_of (dk_tw_mem (n := 1001) (by decide +kernel)) rfl, by decide +kernel, by decide +kernel, by decide, by decide +kernel, by decide +kernel⟩, fun _ => ⟨bW_of (dk_tw_mem (n := 4232) (by decide +kernel)) rfl, bW_of (dk_sel (j := 84) (n := _) (by rfl)) rfl⟩, (fun h => absurd h (by decide)), (fun h => absurd h (by decide))⟩
/-- SpanCopier.isDoneByDraws(I)Z -/
def ey160 : bY := (⟨"SpanCopier", "isDoneByDraws", "(I)Z"⟩, prog_1_method_35_code, (Option.some Jvm.ClassFile.FieldType.boolean))
theorem emp160 : dk_mp (ey160, 4) 0 := ⟨⟨bW_of (dk_tw_mem (n := 5039) (by decide +kernel)) rfl, bW_of (dk_tw_mem (n := 1001) (by decide +kernel)) rfl, by decide +kernel, by decide +kernel, by decide, by decide +kernel, by decide +kernel⟩, fun _ => ⟨bW_of (dk_tw_mem (n := 5038) (by decide +kernel)) rfl, bW_of (dk_sel (j := 91) (n := _) (by rfl)) rfl⟩, (fun h => absurd h (by decide)), (fun h => absurd h (by decide))⟩
/-- SpanCopier.odds(II)I -/
def ey159 : bY := (⟨"SpanCopier", "odds", "(II)I"⟩, prog_1_method_34_code, (Option.some Jvm.ClassFile.FieldType.int))
theorem emp159 : dk_mp (ey159, 5) 0 := ⟨⟨bW_of (dk_tw_mem (n := 5035) (by decide +kernel)) rfl, bW_of (dk_tw_mem (n := 1001) (by decide +kernel)) rfl, by decide +kernel, by decide +kernel, by decide, by decide +kernel, by decide +kernel⟩, fun _ => ⟨bW_of (dk_tw_mem (n := 5033) (by decide +kernel)) rfl, bW_of (dk_tw_mem (n := 5034) (by decide +kernel)) rfl⟩, (fun h => absurd h (by decide)), (fun h => absurd h (by decide))⟩
/-- SpanCopier.over()I -/
def ey155 : bY := (⟨"SpanCopier", "over", "()I"⟩, prog_1_method_30_code, (Option.some Jvm.ClassFile.FieldType.int))
theorem emp155 : dk_mp (ey155, 3) 0 := ⟨⟨bW_of (dk_tw_mem (n := 4229) (by decide +kernel)) rfl, bW_of (dk_tw_mem (n := 1001) (by decide +kernel)) rfl, by decide +kernel, by decide +kernel, by decide, by decide +kernel, by decide +kernel⟩, fun _ => ⟨bW_of (dk_tw_mem (n := 4227) (by decide +kernel)) rfl, bW_of (dk_tw_mem (n := 4228) (by decide +kernel)) rfl⟩, (fun h => absurd h (by decide)), (fun h => absurd h (by decide))⟩
/-- SpanCopier.drawn(II)I -/
def ey158 : bY := (⟨"SpanCopier", "drawn", "(II)I"⟩, prog_1_method_33_code, (Option.some Jvm.ClassFile.FieldType.int))
theorem emp158 : dk_mp (ey158, 4) 0 := ⟨⟨bW_of (dk_tw_mem (n := 5017) (by decide +kernel)) rfl, bW_of (dk_tw_mem (n := 1001) (by decide +kernel)) rfl, by decide +kernel, by decide +kernel, by decide, by decide +kernel, by decide +kernel⟩, fun _ => ⟨bW_of (dk_tw_mem (n := 5015) (by decide +kernel)) rfl, bW_of (dk_tw_mem (n := 5016) (by decide +kernel)) rfl⟩, (fun h => absurd h (by decide)), (fun h => absurd h (by decide))⟩
/-- SpanCopier.tellJudged(IILSpanCopier.World;)V -/
def ey162 : bY := (⟨"SpanCopier", "tellJudged", "(IILSpanCopier$World;)V"⟩, prog_1_method_37_code, (Option.none : Option Jvm.ClassFile.FieldType))
theorem emp162 : dk_mp (ey162, 4) 0 := ⟨⟨bW_of (dk_tw_mem (n := 5097) (by decide +kernel)) rfl, bW_of (dk_tw_mem (n := 1001) (by decide +kernel)) rfl, by decide +kernel, by decide +kernel, by decide, by decide +kernel, by decide +kernel⟩, fun _ => ⟨bW_of (dk_tw_mem (n := 5096) (by decide +kernel)) rfl, bW_of (dk_sel (j := 97) (n := _) (by rfl)) rfl⟩, (fun h => absurd h (by decide)), (fun h => absurd h (by decide))⟩
/-- SpanCopier.book(I)I -/
def ey161 : bY := (⟨"SpanCopier", "book", "(I)I"⟩, prog_1_method_36_code, (Option.some Jvm.ClassFile.FieldType.int))
theorem emp161 : dk_mp (ey161, 5) 0 := ⟨⟨bW_of (dk_tw_mem (n := 5051) (by decide +kernel)) rfl, bW_of (dk_tw_mem (n := 1001) (by decide +kernel)) rfl, by decide +kernel, by decide +kernel, by decide, by decide +kernel, by decide +kernel⟩, fun _ => ⟨bW_of (dk_tw_mem (n := 5049) (by decide +kernel)) rfl, bW_of (dk_tw_mem (n := 5050) (by decide +kernel)) rfl⟩, (fun h => absurd h (by decide)), (fun h => absurd h (by decide))⟩
/-- SpanCopier.sentence()I -/
def ey164 : bY := (⟨"SpanCopier", "sentence", "()I"⟩, prog_1_method_39_code, (Option.some Jvm.ClassFile.FieldType.int))
theorem emp164 : dk_mp (ey164, 2) 0 := ⟨⟨bW_of (dk_tw_mem (n := 5105) (by decide +kernel)) rfl, bW_of (dk_tw_mem (n := 1001) (by decide +kernel)) rfl, by decide +kernel, by decide +kernel, by decide, by decide +kernel, by decide +kernel⟩, fun _ => ⟨bW_of (dk_tw_mem (n := 5103) (by decide +kernel)) rfl, bW_of (dk_tw_mem (n := 5104) (by decide +kernel)) rfl⟩, (fun h => absurd h (by decide)), (fun h => absurd h (by decide))⟩
/-- SpanCopier.said(I)I -/
def ey165 : bY := (⟨"SpanCopier", "said", "(I)I"⟩, prog_1_method_40_code, (Option.some Jvm.ClassFile.FieldType.int))
theorem emp165 : dk_mp (ey165, 5) 0 := ⟨⟨bW_of (dk_tw_mem (n := 5177) (by decide +kernel)) rfl, bW_of (dk_tw_mem (n := 1001) (by decide +kernel)) rfl, by decide +kernel, by decide +kernel, by decide, by decide +kernel, by decide +kernel⟩, fun _ => ⟨bW_of (dk_tw_mem (n := 5175) (by decide +kernel)) rfl, bW_of (dk_tw_mem (n := 5176) (by decide +kernel)) rfl⟩, (fun h => absurd h (by decide)), (fun h => absurd h (by decide))⟩
/-- SpanCopierModel.refuse()I -/
def ey169 : bY := (⟨"SpanCopierModel", "refuse", "()I"⟩, prog_15_method_2_code, (Option.some Jvm.ClassFile.FieldType.int))
theorem emp169 : dk_mp (ey169, 1) 0 := ⟨⟨bW_of (dk_tw_mem (n := 8039) (by decide +kernel)) rfl, bW_of (dk_tw_mem (n := 1015) (by decide +kernel)) rfl, by decide +kernel, by decide +kernel, by decide, by decide +kernel, by decide +kernel⟩, fun _ => ⟨bW_of (dk_tw_mem (n := 8038) (by decide +kernel)) rfl, bW_of (dk_sel (j := 173) (n := _) (by rfl)) rfl⟩, (fun h => absurd h (by decide)), (fun h => absurd h (by decide))⟩
/-- SpanCopierModel.take()I -/
def ey173 : bY := (⟨"SpanCopierModel", "take", "()I"⟩, prog_15_method_6_code, (Option.some Jvm.ClassFile.FieldType.int))
theorem emp173 : dk_mp (ey173, 2) 0 := ⟨⟨bW_of (dk_tw_mem (n := 6206) (by decide +kernel)) rfl, bW_of (dk_tw_mem (n := 1015) (by decide +kernel)) rfl, by decide +kernel, by decide +kernel, by decide, by decide +kernel, by decide +kernel⟩, fun _ => ⟨bW_of (dk_tw_mem (n := 6205) (by decide +kernel)) rfl, bW_of (dk_sel (j := 114) (n := _) (by rfl)) rfl⟩, (fun h => absurd h (by decide)), (fun h => absurd h (by decide))⟩
/-- SpanCopierModel.has(II)Z -/
def ey175 : bY := (⟨"SpanCopierModel", "has", "(II)Z"⟩, prog_15_method_8_code, (Option.some Jvm.ClassFile.FieldType.boolean))
theorem emp175 : dk_mp (ey175, 2) 2 := ⟨⟨bW_of (dk_tw_mem (n := 7045) (by decide +kernel)) rfl, bW_of (dk_tw_mem (n := 1015) (by decide +kernel)) rfl, by decide +kernel, by decide +kernel, by decide, by decide +kernel, by decide +kernel⟩, (fun h => absurd h (by decide)), (fun h => absurd h (by decide)), fun _ => bW_of (dk_tw_mem (n := 7044) (by decide +kernel)) rfl⟩
/-- SpanCopierModel.isDigit(I)Z -/
def ey178 : bY := (⟨"SpanCopierModel", "isDigit", "(I)Z"⟩, prog_15_method_14_code, (Option.some Jvm.ClassFile.FieldType.boolean))
theorem emp178 : dk_mp (ey178, 1) 2 := ⟨⟨bW_of (dk_tw_mem (n := 6216) (by decide +kernel)) rfl, bW_of (dk_tw_mem (n := 1015) (by decide +kernel)) rfl, by decide +kernel, by decide +kernel, by decide, by decide +kernel, by decide +kernel⟩, (fun h => absurd h (by decide)), (fun h => absurd h (by decide)), fun _ => bW_of (dk_tw_mem (n := 6215) (by decide +kernel)) rfl⟩
/-- SpanCopierModel.isLetter(I)Z -/
def ey179 : bY := (⟨"SpanCopierModel", "isLetter", "(I)Z"⟩, prog_15_method_15_code, (Option.some Jvm.ClassFile.FieldType.boolean))
theorem emp179 : dk_mp (ey179, 1) 2 := ⟨⟨bW_of (dk_tw_mem (n := 6213) (by decide +kernel)) rfl, bW_of (dk_tw_mem (n := 1015) (by decide +kernel)) rfl, by decide +kernel, by decide +kernel, by decide, by decide +kernel, by decide +kernel⟩, (fun h => absurd h (by decide)), (fun h => absurd h (by decide)), fun _ => bW_of (dk_tw_mem (n := 6212) (by decide +kernel)) rfl⟩
/-- SpanCopierModel.tapeAt(I)I -/
def ey177 : bY := (⟨"SpanCopierModel", "tapeAt", "(I)I"⟩, prog_15_method_13_code, (Option.some Jvm.ClassFile.FieldType.int))
theorem emp177 : dk_mp (ey177, 2) 0 := ⟨⟨bW_of (dk_tw_mem (n := 6220) (by decide +kernel)) rfl, bW_of (dk_tw_mem (n := 1015) (by decide +kernel)) rfl, by decide +kernel, by decide +kernel, by decide, by decide +kernel, by decide +kernel⟩, fun _ => ⟨bW_of (dk_tw_mem (n := 6219) (by decide +kernel)) rfl, bW_of (dk_sel (j := 116) (n := _) (by rfl)) rfl⟩, (fun h => absurd h (by decide)), (fun h => absurd h (by decide))⟩
/-- SpanCopierModel.least(II)I -/
def ey176 : bY := (⟨"SpanCopierModel", "least", "(II)I"⟩, prog_15_method_10_code, (Option.some Jvm.ClassFile.FieldType.int))
theorem emp176 : dk_mp (ey176, 2) 2 := ⟨⟨bW_of (dk_tw_mem (n := 7092) (by decide +kernel)) rfl, bW_of (dk_tw_mem (n := 1015) (by decide +kernel)) rfl, by decide +kernel, by decide +kernel, by decide, by decide +kernel, by decide +kernel⟩, (fun h => absurd h (by decide)), (fun h => absurd h (by decide)), fun _ => bW_of (dk_tw_mem (n := 7091) (by decide +kernel)) rfl⟩
/-- SpanCopierModel.isIn(III)Z -/
def ey174 : bY := (⟨"SpanCopierModel", "isIn", "(III)Z"⟩, prog_15_method_7_code, (Option.some Jvm.ClassFile.FieldType.boolean))
theorem emp174 : dk_mp (ey174, 3) 2 := ⟨⟨bW_of (dk_tw_mem (n := 7011) (by decide +kernel)) rfl, bW_of (dk_tw_mem (n := 1015) (by decide +kernel)) rfl, by decide +kernel, by decide +kernel, by decide, by decide +kernel, by decide +kernel⟩, (fun h => absurd h (by decide)), (fun h => absurd h (by decide)), fun _ => bW_of (dk_tw_mem (n := 7010) (by decide +kernel)) rfl⟩
/-- SpanCopierModel.come(I)V -/
def ey170 : bY := (⟨"SpanCopierModel", "come", "(I)V"⟩, prog_15_method_3_code, (Option.none : Option Jvm.ClassFile.FieldType))
theorem emp170 : dk_mp (ey170, 3) 0 := ⟨⟨bW_of (dk_tw_mem (n := 6054) (by decide +kernel)) rfl, bW_of (dk_tw_mem (n := 1015) (by decide +kernel)) rfl, by decide +kernel, by decide +kernel, by decide, by decide +kernel, by decide +kernel⟩, fun _ => ⟨bW_of (dk_tw_mem (n := 6052) (by decide +kernel)) rfl, bW_of (dk_sel (j := 109) (n := _) (by rfl)) rfl⟩, (fun h => absurd h (by decide)), (fun h => absurd h (by decide))⟩
/-- SpanCopierModel.feed(IIIII)I -/
def ey171 : bY := (⟨"SpanCopierModel", "feed", "(IIIII)I"⟩, prog_15_method_4_code, (Option.some Jvm.ClassFile.FieldType.int))
theorem emp171 : dk_mp (ey171, 6) 0 := ⟨⟨bW_of (dk_tw_mem (n := 6049) (by decide +kernel)) rfl, bW_of (dk_tw_mem (n := 1015) (by decide +kernel)) rfl, by decide +kernel, by decide +kernel, by decide, by decide +kernel, by decide +kernel⟩, fun _ => ⟨bW_of (dk_tw_mem (n := 6047) (by decide +kernel)) rfl, bW_of (dk_tw_mem (n := 6048) (by decide +kernel)) rfl⟩, (fun h => absurd h (by decide)), (fun h => absurd h (by decide))⟩
/-- SpanCopierModel.end(I)Z -/
def ey172 : bY := (⟨"SpanCopierModel", "end", "(I)Z"⟩, prog_15_method_5_code, (Option.some Jvm.ClassFile.FieldType.boolean))
theorem emp172 : dk_mp (ey172, 2) 0 := ⟨⟨bW_of (dk_tw_mem (n := 6058) (by decide +kernel)) rfl, bW_of (dk_tw_mem (n := 1015) (by decide +kernel)) rfl, by decide +kernel, by decide +kernel, by decide, by decide +kernel, by decide +kernel⟩, fun _ => ⟨bW_of (dk_tw_mem (n := 6056) (by decide +kernel)) rfl, bW_of (dk_tw_mem (n := 6057) (by decide +kernel)) rfl⟩, (fun h => absurd h (by decide)), (fun h => absurd h (by decide))⟩
/-- SpanCopierModel.fault()I -/
def ey205 : bY := (⟨"SpanCopierModel", "fault", "()I"⟩, prog_15_method_41_code, (Option.some Jvm.ClassFile.FieldType.int))
theorem emp205 : dk_mp (ey205, 1) 0 := ⟨⟨bW_of (dk_tw_mem (n := 7061) (by decide +kernel)) rfl, bW_of (dk_tw_mem (n := 1015) (by decide +kernel)) rfl, by decide +kernel, by decide +kernel, by decide, by decide +kernel, by decide +kernel⟩, fun _ => ⟨bW_of (dk_tw_mem (n := 7059) (by decide +kernel)) rfl, bW_of (dk_tw_mem (n := 7060) (by decide +kernel)) rfl⟩, (fun h => absurd h (by decide)), (fun h => absurd h (by decide))⟩
/-- SpanCopierModel.spelt(IIIIII)J -/
def ey181 : bY := (⟨"SpanCopierModel", "spelt", "(IIIIII)J"⟩, prog_15_method_17_code, (Option.some Jvm.ClassFile.FieldType.long))
theorem emp181 : dk_mp (ey181, 8) 2 := ⟨⟨bW_of (dk_tw_mem (n := 6236) (by decide +kernel)) rfl, bW_of (dk_tw_mem (n := 1015) (by decide +kernel)) rfl, by decide +kernel, by decide +kernel, by decide, by decide +kernel, by decide +kernel⟩, (fun h => absurd h (by decide)), (fun h => absurd h (by decide)), fun _ => bW_of (dk_tw_mem (n := 6235) (by decide +kernel)) rfl⟩
/-- SpanCopierModel.wordOf(I)J -/
def ey182 : bY := (⟨"SpanCopierModel", "wordOf", "(I)J"⟩, prog_15_method_18_code, (Option.some Jvm.ClassFile.FieldType.long))
theorem emp182 : dk_mp (ey182, 1) 2 := ⟨⟨bW_of (dk_tw_mem (n := 6233) (by decide +kernel)) rfl, bW_of (dk_tw_mem (n := 1015) (by decide +kernel)) rfl, by decide +kernel, by decide +kernel, by decide, by decide +kernel, by decide +kernel⟩, (fun h => absurd h (by decide)), (fun h => absurd h (by decide)), fun _ => bW_of (dk_tw_mem (n := 6232) (by decide +kernel)) rfl⟩
/-- SpanCopierModel.isWord(I)Z -/
def ey183 : bY := (⟨"SpanCopierModel", "isWord", "(I)Z"⟩, prog_15_method_19_code, (Option.some Jvm.ClassFile.FieldType.boolean))
theorem emp183 : dk_mp (ey183, 2) 0 := ⟨⟨bW_of (dk_tw_mem (n := 6230) (by decide +kernel)) rfl, bW_of (dk_tw_mem (n := 1015) (by decide +kernel)) rfl, by decide +kernel, by decide +kernel, by decide, by decide +kernel, by decide +kernel⟩, fun _ => ⟨bW_of (dk_tw_mem (n := 6229) (by decide +kernel)) rfl, bW_of (dk_sel (j := 118) (n := _) (by rfl)) rfl⟩, (fun h => absurd h (by decide)), (fun h => absurd h (by decide))⟩
/-- SpanCopierModel.isSign(I)Z -/
def ey184 : bY := (⟨"SpanCopierModel", "isSign", "(I)Z"⟩, prog_15_method_20_code, (Option.some Jvm.ClassFile.FieldType.boolean))
theorem emp184 : dk_mp (ey184, 2) 0 := ⟨⟨bW_of (dk_tw_mem (n := 7057) (by decide +kernel)) rfl, bW_of (dk_tw_mem (n := 1015) (by decide +kernel)) rfl, by decide +kernel, by decide +kernel, by decide, by decide +kernel, by decide +kernel⟩, fun _ => ⟨bW_of (dk_tw_mem (n := 7056) (by decide +kernel)) rfl, bW_of (dk_sel (j := 131) (n := _) (by rfl)) rfl⟩, (fun h => absurd h (by decide)), (fun h => absurd h (by decide))⟩
/-- SpanCopierModel.bad(I)Z -/
def ey186 : bY := (⟨"SpanCopierModel", "bad", "(I)Z"⟩, prog_15_method_22_code, (Option.some Jvm.ClassFile.FieldType.boolean))
theorem emp186 : dk_mp (ey186, 2) 0 := ⟨⟨bW_of (dk_tw_mem (n := 7004) (by decide +kernel)) rfl, bW_of (dk_tw_mem (n := 1015) (by decide +kernel)) rfl, by decide +kernel, by decide +kernel, by decide, by decide +kernel, by decide +kernel⟩, fun _ => ⟨bW_of (dk_tw_mem (n := 7003) (by decide +kernel)) rfl, bW_of (dk_sel (j := 120) (n := _) (by rfl)) rfl⟩, (fun h => absurd h (by decide)), (fun h => absurd h (by decide))⟩
/-- SpanCopierModel.isName()Z -/
def ey185 : bY := (⟨"SpanCopierModel", "isName", "()Z"⟩, prog_15_method_21_code, (Option.some Jvm.ClassFile.FieldType.boolean))
theorem emp185 : dk_mp (ey185, 2) 0 := ⟨⟨bW_of (dk_tw_mem (n := 7031) (by decide +kernel)) rfl, bW_of (dk_tw_mem (n := 1015) (by decide +kernel)) rfl, by decide +kernel, by decide +kernel, by decide, by decide +kernel, by decide +kernel⟩, fun _ => ⟨bW_of (dk_tw_mem (n := 7030) (by decide +kernel)) rfl, bW_of (dk_sel (j := 126) (n := _) (by rfl)) rfl⟩, (fun h => absurd h (by decide)), (fun h => absurd h (by decide))⟩
/-- SpanCopierModel.begin(I)V -/
def ey189 : bY := (⟨"SpanCopierModel", "begin", "(I)V"⟩, prog_15_method_25_code, (Option.none : Option Jvm.ClassFile.FieldType))
theorem emp189 : dk_mp (ey189, 2) 0 := ⟨⟨bW_of (dk_tw_mem (n := 6202) (by decide +kernel)) rfl, bW_of (dk_tw_mem (n := 1015) (by decide +kernel)) rfl, by decide +kernel, by decide +kernel, by decide, by decide +kernel, by decide +kernel⟩, fun _ => ⟨bW_of (dk_tw_mem (n := 6201) (by decide +kernel)) rfl, bW_of (dk_sel (j := 113) (n := _) (by rfl)) rfl⟩, (fun h => absurd h (by decide)), (fun h => absurd h (by decide))⟩
/-- SpanCopierModel.readNumber(II)Z -/
def ey187 : bY := (⟨"SpanCopierModel", "readNumber", "(II)Z"⟩, prog_15_method_23_code, (Option.some Jvm.ClassFile.FieldType.boolean))
theorem emp187 : dk_mp (ey187, 3) 0 := ⟨⟨bW_of (dk_tw_mem (n := 7008) (by decide +kernel)) rfl, bW_of (dk_tw_mem (n := 1015) (by decide +kernel)) rfl, by decide +kernel, by decide +kernel, by decide, by decide +kernel, by decide +kernel⟩, fun _ => ⟨bW_of (dk_tw_mem (n := 7007) (by decide +kernel)) rfl, bW_of (dk_sel (j := 121) (n := _) (by rfl)) rfl⟩, (fun h => absurd h (by decide)), (fun h => absurd h (by decide))⟩
/-- SpanCopierModel.readEnd()Z -/
def ey188 : bY := (⟨"SpanCopierModel", "readEnd", "()Z"⟩, prog_15_method_24_code, (Option.some Jvm.ClassFile.FieldType.boolean))
theorem emp188 : dk_mp (ey188, 1) 0 := ⟨⟨bW_of (dk_tw_mem (n := 7053) (by decide +kernel)) rfl, bW_of (dk_tw_mem (n := 1015) (by decide +kernel)) rfl, by decide +kernel, by decide +kernel, by decide, by decide +kernel, by decide +kernel⟩, fun _ => ⟨bW_of (dk_tw_mem (n := 7052) (by decide +kernel)) rfl, bW_of (dk_sel (j := 130) (n := _) (by rfl)) rfl⟩, (fun h => absurd h (by decide)), (fun h => absurd h (by decide))⟩
/-- SpanCopierModel.findIn([JIIJ)I -/
def ey194 : bY := (⟨"SpanCopierModel", "findIn", "([JIIJ)I"⟩, prog_15_method_30_code, (Option.some Jvm.ClassFile.FieldType.int))
theorem emp194 : dk_mp (ey194, 6) 2 := ⟨⟨bW_of (dk_tw_mem (n := 7034) (by decide +kernel)) rfl, bW_of (dk_tw_mem (n := 1015) (by decide +kernel)) rfl, by decide +kernel, by decide +kernel, by decide, by decide +kernel, by decide +kernel⟩, (fun h => absurd h (by decide)), (fun h => absurd h (by decide)), fun _ => bW_of (dk_tw_mem (n := 7033) (by decide +kernel)) rfl⟩
/-- SpanCopierModel.put(IZ)Z -/
def ey195 : bY := (⟨"SpanCopierModel", "put", "(IZ)Z"⟩, prog_15_method_31_code, (Option.some Jvm.ClassFile.FieldType.boolean))
theorem emp195 : dk_mp (ey195, 3) 0 := ⟨⟨bW_of (dk_tw_mem (n := 7015) (by decide +kernel)) rfl, bW_of (dk_tw_mem (n := 1015) (by decide +kernel)) rfl, by decide +kernel, by decide +kernel, by decide, by decide +kernel, by decide +kernel⟩, fun _ => ⟨bW_of (dk_tw_mem (n := 7014) (by decide +kernel)) rfl, bW_of (dk_sel (j := 122) (n := _) (by rfl)) rfl⟩, (fun h => absurd h (by decide)), (fun h => absurd h (by decide))⟩
/-- SpanCopierModel.isFresh(I)Z -/
def ey196 : bY := (⟨"SpanCopierModel", "isFresh", "(I)Z"⟩, prog_15_method_32_code, (Option.some Jvm.ClassFile.FieldType.boolean))
theorem emp196 : dk_mp (ey196, 2) 0 := ⟨⟨bW_of (dk_tw_mem (n := 7000) (by decide +kernel)) rfl, bW_of (dk_tw_mem (n := 1015) (by decide +kernel)) rfl, by decide +kernel, by decide +kernel, by decide, by decide +kernel, by decide +kernel⟩, fun _ => ⟨bW_of (dk_tw_mem (n := 6239) (by decide +kernel)) rfl, bW_of (dk_sel (j := 119) (n := _) (by rfl)) rfl⟩, (fun h => absurd h (by decide)), (fun h => absurd h (by decide))⟩
/-- SpanCopierModel.isAnyName()Z -/
def ey197 : bY := (⟨"SpanCopierModel", "isAnyName", "()Z"⟩, prog_15_method_33_code, (Option.some Jvm.ClassFile.FieldType.boolean))
theorem emp197 : dk_mp (ey197, 1) 0 := ⟨⟨bW_of (dk_tw_mem (n := 7027) (by decide +kernel)) rfl, bW_of (dk_tw_mem (n := 1015) (by decide +kernel)) rfl, by decide +kernel, by decide +kernel, by decide, by decide +kernel, by decide +kernel⟩, fun _ => ⟨bW_of (dk_tw_mem (n := 7026) (by decide +kernel)) rfl, bW_of (dk_sel (j := 125) (n := _) (by rfl)) rfl⟩, (fun h => absurd h (by decide)), (fun h => absurd h (by decide))⟩
/-- SpanCopierModel.takeName()V -/
def ey198 : bY := (⟨"SpanCopierModel", "takeName", "()V"⟩, prog_15_method_34_code, (Option.none : Option Jvm.ClassFile.FieldType))
theorem emp198 : dk_mp (ey198, 1) 0 := ⟨⟨bW_of (dk_tw_mem (n := 7038) (by decide +kernel)) rfl, bW_of (dk_tw_mem (n := 1015) (by decide +kernel)) rfl, by decide +kernel, by decide +kernel, by decide, by decide +kernel, by decide +kernel⟩, fun _ => ⟨bW_of (dk_tw_mem (n := 7037) (by decide +kernel)) rfl, bW_of (dk_sel (j := 127) (n := _) (by rfl)) rfl⟩, (fun h => absurd h (by decide)), (fun h => absurd h (by decide))⟩
/-- SpanCopierModel.readAnyName()Z -/
def ey199 : bY := (⟨"SpanCopierModel", "readAnyName", "()Z"⟩, prog_15_method_35_code, (Option.some Jvm.ClassFile.FieldType.boolean))
theorem emp199 : dk_mp (ey199, 1) 0 := ⟨⟨bW_of (dk_tw_mem (n := 7023) (by decide +kernel)) rfl, bW_of (dk_tw_mem (n := 1015) (by decide +kernel)) rfl, by decide +kernel, by decide +kernel, by decide, by decide +kernel, by decide +kernel⟩, fun _ => ⟨bW_of (dk_tw_mem (n := 7022) (by decide +kernel)) rfl, bW_of (dk_sel (j := 124) (n := _) (by rfl)) rfl⟩, (fun h => absurd h (by decide)), (fun h => absurd h (by decide))⟩
/-- SpanCopierModel.readPolicy()Z -/
def ey200 : bY := (⟨"SpanCopierModel", "readPolicy", "()Z"⟩, prog_15_method_36_code, (Option.some Jvm.ClassFile.FieldType.boolean))
theorem emp200 : dk_mp (ey200, 2) 0 := ⟨⟨bW_of (dk_tw_mem (n := 7019) (by decide +kernel)) rfl, bW_of (dk_tw_mem (n := 1015) (by decide +kernel)) rfl, by decide +kernel, by decide +kernel, by decide, by decide +kernel, by decide +kernel⟩, fun _ => ⟨bW_of (dk_tw_mem (n := 7018) (by decide +kernel)) rfl, bW_of (dk_sel (j := 123) (n := _) (by rfl)) rfl⟩, (fun h => absurd h (by decide)), (fun h => absurd h (by decide))⟩
/-- SpanCopierModel.readHas()Z -/
def ey201 : bY := (⟨"SpanCopierModel", "readHas", "()Z"⟩, prog_15_method_37_code, (Option.some Jvm.ClassFile.FieldType.boolean))
theorem emp201 : dk_mp (ey201, 1) 0 := ⟨⟨bW_of (dk_tw_mem (n := 7042) (by decide +kernel)) rfl, bW_of (dk_tw_mem (n := 1015) (by decide +kernel)) rfl, by decide +kernel, by decide +kernel, by decide, by decide +kernel, by decide +kernel⟩, fun _ => ⟨bW_of (dk_tw_mem (n := 7041) (by decide +kernel)) rfl, bW_of (dk_sel (j := 128) (n := _) (by rfl)) rfl⟩, (fun h => absurd h (by decide)), (fun h => absurd h (by decide))⟩
/-- SpanCopierModel.readAct()Z -/
def ey202 : bY := (⟨"SpanCopierModel", "readAct", "()Z"⟩, prog_15_method_38_code, (Option.some Jvm.ClassFile.FieldType.boolean))
theorem emp202 : dk_mp (ey202, 3) 0 := ⟨⟨bW_of (dk_tw_mem (n := 7049) (by decide +kernel)) rfl, bW_of (dk_tw_mem (n := 1015) (by decide +kernel)) rfl, by decide +kernel, by decide +kernel, by decide, by decide +kernel, by decide +kernel⟩, fun _ => ⟨bW_of (dk_tw_mem (n := 7048) (by decide +kernel)) rfl, bW_of (dk_sel (j := 129) (n := _) (by rfl)) rfl⟩, (fun h => absurd h (by decide)), (fun h => absurd h (by decide))⟩
/-- SpanCopierModel.readLine()Z -/
def ey203 : bY := (⟨"SpanCopierModel", "readLine", "()Z"⟩, prog_15_method_39_code, (Option.some Jvm.ClassFile.FieldType.boolean))
theorem emp203 : dk_mp (ey203, 1) 0 := ⟨⟨bW_of (dk_tw_mem (n := 6226) (by decide +kernel)) rfl, bW_of (dk_tw_mem (n := 1015) (by decide +kernel)) rfl, by decide +kernel, by decide +kernel, by decide, by decide +kernel, by decide +kernel⟩, fun _ => ⟨bW_of (dk_tw_mem (n := 6225) (by decide +kernel)) rfl, bW_of (dk_sel (j := 117) (n := _) (by rfl)) rfl⟩, (fun h => absurd h (by decide)), (fun h => absurd h (by decide))⟩
/-- SpanCopierModel.keep(IZ)Z -/
def ey280 : bY := (⟨"SpanCopierModel", "keep", "(IZ)Z"⟩, prog_15_method_116_code, (Option.some Jvm.ClassFile.FieldType.boolean))
theorem emp280 : dk_mp (ey280, 3) 0 := ⟨⟨bW_of (dk_tw_mem (n := 8135) (by decide +kernel)) rfl, bW_of (dk_tw_mem (n := 1015) (by decide +kernel)) rfl, by decide +kernel, by decide +kernel, by decide, by decide +kernel, by decide +kernel⟩, fun _ => ⟨bW_of (dk_tw_mem (n := 8134) (by decide +kernel)) rfl, bW_of (dk_sel (j := 183) (n := _) (by rfl)) rfl⟩, (fun h => absurd h (by decide)), (fun h => absurd h (by decide))⟩
/-- SpanCopierModel.order()I -/
def ey204 : bY := (⟨"SpanCopierModel", "order", "()I"⟩, prog_15_method_40_code, (Option.some Jvm.ClassFile.FieldType.int))
theorem emp204 : dk_mp (ey204, 3) 0 := ⟨⟨bW_of (dk_tw_mem (n := 6198) (by decide +kernel)) rfl, bW_of (dk_tw_mem (n := 1015) (by decide +kernel)) rfl, by decide +kernel, by decide +kernel, by decide, by decide +kernel, by decide +kernel⟩, fun _ => ⟨bW_of (dk_tw_mem (n := 6196) (by decide +kernel)) rfl, bW_of (dk_tw_mem (n := 6197) (by decide +kernel)) rfl⟩, (fun h => absurd h (by decide)), (fun h => absurd h (by decide))⟩
/-- SpanCopierModel.atPlace(II)I -/
def ey206 : bY := (⟨"SpanCopierModel", "atPlace", "(II)I"⟩, prog_15_method_42_code, (Option.some Jvm.ClassFile.FieldType.int))
theorem emp206 : dk_mp (ey206, 2) 2 := ⟨⟨bW_of (dk_tw_mem (n := 7191) (by decide +kernel)) rfl, bW_of (dk_tw_mem (n := 1015) (by decide +kernel)) rfl, by decide +kernel, by decide +kernel, by decide, by decide +kernel, by decide +kernel⟩, (fun h => absurd h (by decide)), (fun h => absurd h (by decide)), fun _ => bW_of (dk_tw_mem (n := 7190) (by decide +kernel)) rfl⟩
/-- SpanCopierModel.fileSum()I -/
def ey207 : bY := (⟨"SpanCopierModel", "fileSum", "()I"⟩, prog_15_method_43_code, (Option.some Jvm.ClassFile.FieldType.int))
theorem emp207 : dk_mp (ey207, 3) 0 := ⟨⟨bW_of (dk_tw_mem (n := 7188) (by decide +kernel)) rfl, bW_of (dk_tw_mem (n := 1015) (by decide +kernel)) rfl, by decide +kernel, by decide +kernel, by decide, by decide +kernel, by decide +kernel⟩, fun _ => ⟨bW_of (dk_tw_mem (n := 7187) (by decide +kernel)) rfl, bW_of (dk_sel (j := 159) (n := _) (by rfl)) rfl⟩, (fun h => absurd h (by decide)), (fun h => absurd h (by decide))⟩
/-- SpanCopierModel.takenSum()I -/
def ey208 : bY := (⟨"SpanCopierModel", "takenSum", "()I"⟩, prog_15_method_44_code, (Option.some Jvm.ClassFile.FieldType.int))
theorem emp208 : dk_mp (ey208, 3) 0 := ⟨⟨bW_of (dk_tw_mem (n := 7203) (by decide +kernel)) rfl, bW_of (dk_tw_mem (n := 1015) (by decide +kernel)) rfl, by decide +kernel, by decide +kernel, by decide, by decide +kernel, by decide +kernel⟩, fun _ => ⟨bW_of (dk_tw_mem (n := 7202) (by decide +kernel)) rfl, bW_of (dk_sel (j := 162) (n := _) (by rfl)) rfl⟩, (fun h => absurd h (by decide)), (fun h => absurd h (by decide))⟩
/-- SpanCopierModel.isGap(I)Z -/
def ey209 : bY := (⟨"SpanCopierModel", "isGap", "(I)Z"⟩, prog_15_method_45_code, (Option.some Jvm.ClassFile.FieldType.boolean))
theorem emp209 : dk_mp (ey209, 2) 0 := ⟨⟨bW_of (dk_tw_mem (n := 7120) (by decide +kernel)) rfl, bW_of (dk_tw_mem (n := 1015) (by decide +kernel)) rfl, by decide +kernel, by decide +kernel, by decide, by decide +kernel, by decide +kernel⟩, fun _ => ⟨bW_of (dk_tw_mem (n := 7119) (by decide +kernel)) rfl, bW_of (dk_sel (j := 142) (n := _) (by rfl)) rfl⟩, (fun h => absurd h (by decide)), (fun h => absurd h (by decide))⟩
/-- SpanCopierModel.isMarked(II)Z -/
def ey210 : bY := (⟨"SpanCopierModel", "isMarked", "(II)Z"⟩, prog_15_method_46_code, (Option.some Jvm.ClassFile.FieldType.boolean))
theorem emp210 : dk_mp (ey210, 3) 0 := ⟨⟨bW_of (dk_tw_mem (n := 7144) (by decide +kernel)) rfl, bW_of (dk_tw_mem (n := 1015) (by decide +kernel)) rfl, by decide +kernel, by decide +kernel, by decide, by decide +kernel, by decide +kernel⟩, fun _ => ⟨bW_of (dk_tw_mem (n := 7143) (by decide +kernel)) rfl, bW_of (dk_sel (j := 148) (n := _) (by rfl)) rfl⟩, (fun h => absurd h (by decide)), (fun h => absurd h (by decide))⟩
/-- SpanCopierModel.nextMark(IIZ)I -/
def ey211 : bY := (⟨"SpanCopierModel", "nextMark", "(IIZ)I"⟩, prog_15_method_47_code, (Option.some Jvm.ClassFile.FieldType.int))
theorem emp211 : dk_mp (ey211, 5) 0 := ⟨⟨bW_of (dk_tw_mem (n := 7140) (by decide +kernel)) rfl, bW_of (dk_tw_mem (n := 1015) (by decide +kernel)) rfl, by decide +kernel, by decide +kernel, by decide, by decide +kernel, by decide +kernel⟩, fun _ => ⟨bW_of (dk_tw_mem (n := 7139) (by decide +kernel)) rfl, bW_of (dk_sel (j := 147) (n := _) (by rfl)) rfl⟩, (fun h => absurd h (by decide)), (fun h => absurd h (by decide))⟩
/-- SpanCopierModel.spanEnd(III)I -/
def ey213 : bY := (⟨"SpanCopierModel", "spanEnd", "(III)I"⟩, prog_15_method_49_code, (Option.some Jvm.ClassFile.FieldType.int))
theorem emp213 : dk_mp (ey213, 6) 0 := ⟨⟨bW_of (dk_tw_mem (n := 7152) (by decide +kernel)) rfl, bW_of (dk_tw_mem (n := 1015) (by decide +kernel)) rfl, by decide +kernel, by decide +kernel, by decide, by decide +kernel, by decide +kernel⟩, fun _ => ⟨bW_of (dk_tw_mem (n := 7151) (by decide +kernel)) rfl, bW_of (dk_sel (j := 150) (n := _) (by rfl)) rfl⟩, (fun h => absurd h (by decide)), (fun h => absurd h (by decide))⟩
/-- SpanCopierModel.unitAt(I)I -/
def ey214 : bY := (⟨"SpanCopierModel", "unitAt", "(I)I"⟩, prog_15_method_50_code, (Option.some Jvm.ClassFile.FieldType.int))
theorem emp214 : dk_mp (ey214, 2) 0 := ⟨⟨bW_of (dk_tw_mem (n := 7104) (by decide +kernel)) rfl, bW_of (dk_tw_mem (n := 1015) (by decide +kernel)) rfl, by decide +kernel, by decide +kernel, by decide, by decide +kernel, by decide +kernel⟩, fun _ => ⟨bW_of (dk_tw_mem (n := 7103) (by decide +kernel)) rfl, bW_of (dk_sel (j := 138) (n := _) (by rfl)) rfl⟩, (fun h => absurd h (by decide)), (fun h => absurd h (by decide))⟩
/-- SpanCopierModel.isUnit(I)Z -/
def ey215 : bY := (⟨"SpanCopierModel", "isUnit", "(I)Z"⟩, prog_15_method_51_code, (Option.some Jvm.ClassFile.FieldType.boolean))
theorem emp215 : dk_mp (ey215, 2) 0 := ⟨⟨bW_of (dk_tw_mem (n := 7231) (by decide +kernel)) rfl, bW_of (dk_tw_mem (n := 1015) (by decide +kernel)) rfl, by decide +kernel, by decide +kernel, by decide, by decide +kernel, by decide +kernel⟩, fun _ => ⟨bW_of (dk_tw_mem (n := 7230) (by decide +kernel)) rfl, bW_of (dk_sel (j := 168) (n := _) (by rfl)) rfl⟩, (fun h => absurd h (by decide)), (fun h => absurd h (by decide))⟩
/-- SpanCopierModel.sendEof()V -/
def ey218 : bY := (⟨"SpanCopierModel", "sendEof", "()V"⟩, prog_15_method_54_code, (Option.none : Option Jvm.ClassFile.FieldType))
theorem emp218 : dk_mp (ey218, 1) 0 := ⟨⟨bW_of (dk_tw_mem (n := 7184) (by decide +kernel)) rfl, bW_of (dk_tw_mem (n := 1015) (by decide +kernel)) rfl, by decide +kernel, by decide +kernel, by decide, by decide +kernel, by decide +kernel⟩, fun _ => ⟨bW_of (dk_tw_mem (n := 7183) (by decide +kernel)) rfl, bW_of (dk_sel (j := 158) (n := _) (by rfl)) rfl⟩, (fun h => absurd h (by decide)), (fun h => absurd h (by decide))⟩
/-- SpanCopierModel.dataComes()V -/
def ey223 : bY := (⟨"SpanCopierModel", "dataComes", "()V"⟩, prog_15_method_59_code, (Option.none : Option Jvm.ClassFile.FieldType))
theorem emp223 : dk_mp (ey223, 6) 0 := ⟨⟨bW_of (dk_tw_mem (n := 7116) (by decide +kernel)) rfl, bW_of (dk_tw_mem (n := 1015) (by decide +kernel)) rfl, by decide +kernel, by decide +kernel, by decide, by decide +kernel, by decide +kernel⟩, fun _ => ⟨bW_of (dk_tw_mem (n := 7115) (by decide +kernel)) rfl, bW_of (dk_sel (j := 141) (n := _) (by rfl)) rfl⟩, (fun h => absurd h (by decide)), (fun h => absurd h (by decide))⟩
/-- SpanCopierModel.eofComes()V -/
def ey224 : bY := (⟨"SpanCopierModel", "eofComes", "()V"⟩, prog_15_method_60_code, (Option.none : Option Jvm.ClassFile.FieldType))
theorem emp224 : dk_mp (ey224, 1) 0 := ⟨⟨bW_of (dk_tw_mem (n := 7132) (by decide +kernel)) rfl, bW_of (dk_tw_mem (n := 1015) (by decide +kernel)) rfl, by decide +kernel, by decide +kernel, by decide, by decide +kernel, by decide +kernel⟩, fun _ => ⟨bW_of (dk_tw_mem (n := 7131) (by decide +kernel)) rfl, bW_of (dk_sel (j := 145) (n := _) (by rfl)) rfl⟩, (fun h => absurd h (by decide)), (fun h => absurd h (by decide))⟩
/-- SpanCopierModel.isBusy()Z -/
def ey225 : bY := (⟨"SpanCopierModel", "isBusy", "()Z"⟩, prog_15_method_61_code, (Option.some Jvm.ClassFile.FieldType.boolean))
theorem emp225 : dk_mp (ey225, 1) 0 := ⟨⟨bW_of (dk_tw_mem (n := 7160) (by decide +kernel)) rfl, bW_of (dk_tw_mem (n := 1015) (by decide +kernel)) rfl, by decide +kernel, by decide +kernel, by decide, by decide +kernel, by decide +kernel⟩, fun _ => ⟨bW_of (dk_tw_mem (n := 7159) (by decide +kernel)) rfl, bW_of (dk_sel (j := 152) (n := _) (by rfl)) rfl⟩, (fun h => absurd h (by decide)), (fun h => absurd h (by decide))⟩
/-- SpanCopierModel.nakComes()V -/
def ey226 : bY := (⟨"SpanCopierModel", "nakComes", "()V"⟩, prog_15_method_62_code, (Option.none : Option Jvm.ClassFile.FieldType))
theorem emp226 : dk_mp (ey226, 3) 0 := ⟨⟨bW_of (dk_tw_mem (n := 7156) (by decide +kernel)) rfl, bW_of (dk_tw_mem (n := 1015) (by decide +kernel)) rfl, by decide +kernel, by decide +kernel, by decide, by decide +kernel, by decide +kernel⟩, fun _ => ⟨bW_of (dk_tw_mem (n := 7155) (by decide +kernel)) rfl, bW_of (dk_sel (j := 151) (n := _) (by rfl)) rfl⟩, (fun h => absurd h (by decide)), (fun h => absurd h (by decide))⟩
/-- SpanCopierModel.finComes()V -/
def ey227 : bY := (⟨"SpanCopierModel", "finComes", "()V"⟩, prog_15_method_63_code, (Option.none : Option Jvm.ClassFile.FieldType))
theorem emp227 : dk_mp (ey227, 1) 0 := ⟨⟨bW_of (dk_tw_mem (n := 7164) (by decide +kernel)) rfl, bW_of (dk_tw_mem (n := 1015) (by decide +kernel)) rfl, by decide +kernel, by decide +kernel, by decide, by decide +kernel, by decide +kernel⟩, fun _ => ⟨bW_of (dk_tw_mem (n := 7163) (by decide +kernel)) rfl, bW_of (dk_sel (j := 153) (n := _) (by rfl)) rfl⟩, (fun h => absurd h (by decide)), (fun h => absurd h (by decide))⟩
/-- SpanCopierModel.goesToTaker(I)Z -/
def ey222 : bY := (⟨"SpanCopierModel", "goesToTaker", "(I)Z"⟩, prog_15_method_58_code, (Option.some Jvm.ClassFile.FieldType.boolean))
theorem emp222 : dk_mp (ey222, 1) 2 := ⟨⟨bW_of (dk_tw_mem (n := 8042) (by decide +kernel)) rfl, bW_of (dk_tw_mem (n := 1015) (by decide +kernel)) rfl, by decide +kernel, by decide +kernel, by decide, by decide +kernel, by decide +kernel⟩, (fun h => absurd h (by decide)), (fun h => absurd h (by decide)), fun _ => bW_of (dk_tw_mem (n := 8041) (by decide +kernel)) rfl⟩
/-- SpanCopierModel.comes()V -/
def ey228 : bY := (⟨"SpanCopierModel", "comes", "()V"⟩, prog_15_method_64_code, (Option.none : Option Jvm.ClassFile.FieldType))
theorem emp228 : dk_mp (ey228, 1) 0 := ⟨⟨bW_of (dk_tw_mem (n := 7112) (by decide +kernel)) rfl, bW_of (dk_tw_mem (n := 1015) (by decide +kernel)) rfl, by decide +kernel, by decide +kernel, by decide, by decide +kernel, by decide +kernel⟩, fun _ => ⟨bW_of (dk_tw_mem (n := 7111) (by decide +kernel)) rfl, bW_of (dk_sel (j := 140) (n := _) (by rfl)) rfl⟩, (fun h => absurd h (by decide)), (fun h => absurd h (by decide))⟩
/-- SpanCopierModel.sendsAgain()V -/
def ey230 : bY := (⟨"SpanCopierModel", "sendsAgain", "()V"⟩, prog_15_method_66_code, (Option.none : Option Jvm.ClassFile.FieldType))
theorem emp230 : dk_mp (ey230, 4) 0 := ⟨⟨bW_of (dk_tw_mem (n := 7172) (by decide +kernel)) rfl, bW_of (dk_tw_mem (n := 1015) (by decide +kernel)) rfl, by decide +kernel, by decide +kernel, by decide, by decide +kernel, by decide +kernel⟩, fun _ => ⟨bW_of (dk_tw_mem (n := 7171) (by decide +kernel)) rfl, bW_of (dk_sel (j := 155) (n := _) (by rfl)) rfl⟩, (fun h => absurd h (by decide)), (fun h => absurd h (by decide))⟩
/-- SpanCopierModel.sendsOn()V -/
def ey231 : bY := (⟨"SpanCopierModel", "sendsOn", "()V"⟩, prog_15_method_67_code, (Option.none : Option Jvm.ClassFile.FieldType))
theorem emp231 : dk_mp (ey231, 2) 0 := ⟨⟨bW_of (dk_tw_mem (n := 7180) (by decide +kernel)) rfl, bW_of (dk_tw_mem (n := 1015) (by decide +kernel)) rfl, by decide +kernel, by decide +kernel, by decide, by decide +kernel, by decide +kernel⟩, fun _ => ⟨bW_of (dk_tw_mem (n := 7179) (by decide +kernel)) rfl, bW_of (dk_sel (j := 157) (n := _) (by rfl)) rfl⟩, (fun h => absurd h (by decide)), (fun h => absurd h (by decide))⟩
/-- SpanCopierModel.senderGoes()V -/
def ey232 : bY := (⟨"SpanCopierModel", "senderGoes", "()V"⟩, prog_15_method_68_code, (Option.none : Option Jvm.ClassFile.FieldType))
theorem emp232 : dk_mp (ey232, 2) 0 := ⟨⟨bW_of (dk_tw_mem (n := 7168) (by decide +kernel)) rfl, bW_of (dk_tw_mem (n := 1015) (by decide +kernel)) rfl, by decide +kernel, by decide +kernel, by decide, by decide +kernel, by decide +kernel⟩, fun _ => ⟨bW_of (dk_tw_mem (n := 7167) (by decide +kernel)) rfl, bW_of (dk_sel (j := 154) (n := _) (by rfl)) rfl⟩, (fun h => absurd h (by decide)), (fun h => absurd h (by decide))⟩
/-- SpanCopierModel.finishes(I)V -/
def ey233 : bY := (⟨"SpanCopierModel", "finishes", "(I)V"⟩, prog_15_method_69_code, (Option.none : Option Jvm.ClassFile.FieldType))
theorem emp233 : dk_mp (ey233, 2) 0 := ⟨⟨bW_of (dk_tw_mem (n := 7207) (by decide +kernel)) rfl, bW_of (dk_tw_mem (n := 1015) (by decide +kernel)) rfl, by decide +kernel, by decide +kernel, by decide, by decide +kernel, by decide +kernel⟩, fun _ => ⟨bW_of (dk_tw_mem (n := 7206) (by decide +kernel)) rfl, bW_of (dk_sel (j := 163) (n := _) (by rfl)) rfl⟩, (fun h => absurd h (by decide)), (fun h => absurd h (by decide))⟩
/-- SpanCopierModel.takes()V -/
def ey234 : bY := (⟨"SpanCopierModel", "takes", "()V"⟩, prog_15_method_70_code, (Option.none : Option Jvm.ClassFile.FieldType))
theorem emp234 : dk_mp (ey234, 1) 0 := ⟨⟨bW_of (dk_tw_mem (n := 7199) (by decide +kernel)) rfl, bW_of (dk_tw_mem (n := 1015) (by decide +kernel)) rfl, by decide +kernel, by decide +kernel, by decide, by decide +kernel, by decide +kernel⟩, fun _ => ⟨bW_of (dk_tw_mem (n := 7198) (by decide +kernel)) rfl, bW_of (dk_sel (j := 161) (n := _) (by rfl)) rfl⟩, (fun h => absurd h (by decide)), (fun h => absurd h (by decide))⟩
/-- SpanCopierModel.acts(I)Z -/
def ey235 : bY := (⟨"SpanCopierModel", "acts", "(I)Z"⟩, prog_15_method_71_code, (Option.some Jvm.ClassFile.FieldType.boolean))
theorem emp235 : dk_mp (ey235, 6) 0 := ⟨⟨bW_of (dk_tw_mem (n := 7219) (by decide +kernel)) rfl, bW_of (dk_tw_mem (n := 1015) (by decide +kernel)) rfl, by decide +kernel, by decide +kernel, by decide, by decide +kernel, by decide +kernel⟩, fun _ => ⟨bW_of (dk_tw_mem (n := 7218) (by decide +kernel)) rfl, bW_of (dk_sel (j := 166) (n := _) (by rfl)) rfl⟩, (fun h => absurd h (by decide)), (fun h => absurd h (by decide))⟩
/-- SpanCopierModel.hasStopped()Z -/
def ey236 : bY := (⟨"SpanCopierModel", "hasStopped", "()Z"⟩, prog_15_method_72_code, (Option.some Jvm.ClassFile.FieldType.boolean))
theorem emp236 : dk_mp (ey236, 2) 0 := ⟨⟨bW_of (dk_tw_mem (n := 7215) (by decide +kernel)) rfl, bW_of (dk_tw_mem (n := 1015) (by decide +kernel)) rfl, by decide +kernel, by decide +kernel, by decide, by decide +kernel, by decide +kernel⟩, fun _ => ⟨bW_of (dk_tw_mem (n := 7214) (by decide +kernel)) rfl, bW_of (dk_sel (j := 165) (n := _) (by rfl)) rfl⟩, (fun h => absurd h (by decide)), (fun h => absurd h (by decide))⟩
/-- SpanCopierModel.actsOn()V -/
def ey237 : bY := (⟨"SpanCopierModel", "actsOn", "()V"⟩, prog_15_method_73_code, (Option.none : Option Jvm.ClassFile.FieldType))
theorem emp237 : dk_mp (ey237, 2) 0 := ⟨⟨bW_of (dk_tw_mem (n := 7211) (by decide +kernel)) rfl, bW_of (dk_tw_mem (n := 1015) (by decide +kernel)) rfl, by decide +kernel, by decide +kernel, by decide, by decide +kernel, by decide +kernel⟩, fun _ => ⟨bW_of (dk_tw_mem (n := 7210) (by decide +kernel)) rfl, bW_of (dk_sel (j := 164) (n := _) (by rfl)) rfl⟩, (fun h => absurd h (by decide)), (fun h => absurd h (by decide))⟩
/-- SpanCopierModel.finishing()V -/
def ey238 : bY := (⟨"SpanCopierModel", "finishing", "()V"⟩, prog_15_method_74_code, (Option.none : Option Jvm.ClassFile.FieldType))
theorem emp238 : dk_mp (ey238, 1) 0 := ⟨⟨bW_of (dk_tw_mem (n := 7223) (by decide +kernel)) rfl, bW_of (dk_tw_mem (n := 1015) (by decide +kernel)) rfl, by decide +kernel, by decide +kernel, by decide, by decide +kernel, by decide +kernel⟩, fun _ => ⟨bW_of (dk_tw_mem (n := 7222) (by decide +kernel)) rfl, bW_of (dk_sel (j := 167) (n := _) (by rfl)) rfl⟩, (fun h => absurd h (by decide)), (fun h => absurd h (by decide))⟩
/-- SpanCopierModel.takerGoes()V -/
def ey239 : bY := (⟨"SpanCopierModel", "takerGoes", "()V"⟩, prog_15_method_75_code, (Option.none : Option Jvm.ClassFile.FieldType))
theorem emp239 : dk_mp (ey239, 1) 0 := ⟨⟨bW_of (dk_tw_mem (n := 7195) (by decide +kernel)) rfl, bW_of (dk_tw_mem (n := 1015) (by decide +kernel)) rfl, by decide +kernel, by decide +kernel, by decide, by decide +kernel, by decide +kernel⟩, fun _ => ⟨bW_of (dk_tw_mem (n := 7194) (by decide +kernel)) rfl, bW_of (dk_sel (j := 160) (n := _) (by rfl)) rfl⟩, (fun h => absurd h (by decide)), (fun h => absurd h (by decide))⟩
