/-- Sender.meet(LSpanCopier.World;)V -/
def ey47 : bY := (⟨"SpanCopier$Sender", "meet", "(LSpanCopier$World;)V"⟩, prog_7_method_6_code, (Option.none : Option Jvm.ClassFile.FieldType))
theorem emp47 : dk_mp (ey47, 2) 0 := ⟨⟨bW_of (dk_tw_mem (n := 4010) rfl) rfl, bW_of (dk_tw_mem (n := 1008) rfl) rfl, by decide +kernel, by decide +kernel, by decide, by decide +kernel, by decide +kernel⟩, fun _ => ⟨bW_of (dk_tw_mem (n := 4009) rfl) rfl, bW_of (dk_sel (j := 51) (n := _) (by rfl)) rfl⟩, (fun h => absurd h (by decide)), (fun h => absurd h (by decide))⟩
/-- Taker.<init>()V -/
def ey73 : bY := (⟨"SpanCopier$Taker", "<init>", "()V"⟩, prog_10_method_1_code, (Option.none : Option Jvm.ClassFile.FieldType))
theorem emp73 : dk_mp (ey73, 1) 1 := ⟨⟨bW_of (dk_tw_mem (n := 1200) rfl) rfl, bW_of (dk_tw_mem (n := 1010) rfl) rfl, by decide +kernel, by decide +kernel, by decide, by decide +kernel, by decide +kernel⟩, (fun h => absurd h (by decide)), fun _ => ⟨bW_of (dk_tw_mem (n := 1199) rfl) rfl, rfl⟩, (fun h => absurd h (by decide))⟩
/-- Taker.clear()V -/
def ey74 : bY := (⟨"SpanCopier$Taker", "clear", "()V"⟩, prog_10_method_2_code, (Option.none : Option Jvm.ClassFile.FieldType))
theorem emp74 : dk_mp (ey74, 1) 0 := ⟨⟨bW_of (dk_tw_mem (n := 3096) rfl) rfl, bW_of (dk_tw_mem (n := 1010) rfl) rfl, by decide +kernel, by decide +kernel, by decide, by decide +kernel, by decide +kernel⟩, fun _ => ⟨bW_of (dk_tw_mem (n := 3095) rfl) rfl, bW_of (dk_sel (j := 23) (n := _) (by rfl)) rfl⟩, (fun h => absurd h (by decide)), (fun h => absurd h (by decide))⟩
/-- Taker.copyFrom(LSpanCopier.Taker;)V -/
def ey75 : bY := (⟨"SpanCopier$Taker", "copyFrom", "(LSpanCopier$Taker;)V"⟩, prog_10_method_3_code, (Option.none : Option Jvm.ClassFile.FieldType))
theorem emp75 : dk_mp (ey75, 2) 0 := ⟨⟨bW_of (dk_tw_mem (n := 3138) rfl) rfl, bW_of (dk_tw_mem (n := 1010) rfl) rfl, by decide +kernel, by decide +kernel, by decide, by decide +kernel, by decide +kernel⟩, fun _ => ⟨bW_of (dk_tw_mem (n := 3137) rfl) rfl, bW_of (dk_sel (j := 30) (n := _) (by rfl)) rfl⟩, (fun h => absurd h (by decide)), (fun h => absurd h (by decide))⟩
/-- Taker.isOver()Z -/
def ey76 : bY := (⟨"SpanCopier$Taker", "isOver", "()Z"⟩, prog_10_method_4_code, (Option.some Jvm.ClassFile.FieldType.boolean))
theorem emp76 : dk_mp (ey76, 1) 0 := ⟨⟨bW_of (dk_tw_mem (n := 4158) rfl) rfl, bW_of (dk_tw_mem (n := 1010) rfl) rfl, by decide +kernel, by decide +kernel, by decide, by decide +kernel, by decide +kernel⟩, fun _ => ⟨bW_of (dk_tw_mem (n := 4157) rfl) rfl, bW_of (dk_sel (j := 77) (n := _) (by rfl)) rfl⟩, (fun h => absurd h (by decide)), (fun h => absurd h (by decide))⟩
/-- Taker.hasByte(I)Z -/
def ey77 : bY := (⟨"SpanCopier$Taker", "hasByte", "(I)Z"⟩, prog_10_method_5_code, (Option.some Jvm.ClassFile.FieldType.boolean))
theorem emp77 : dk_mp (ey77, 2) 0 := ⟨⟨bW_of (dk_tw_mem (n := 4070) rfl) rfl, bW_of (dk_tw_mem (n := 1010) rfl) rfl, by decide +kernel, by decide +kernel, by decide, by decide +kernel, by decide +kernel⟩, fun _ => ⟨bW_of (dk_tw_mem (n := 4069) rfl) rfl, bW_of (dk_sel (j := 63) (n := _) (by rfl)) rfl⟩, (fun h => absurd h (by decide)), (fun h => absurd h (by decide))⟩
/-- Taker.byteAt(I)I -/
def ey78 : bY := (⟨"SpanCopier$Taker", "byteAt", "(I)I"⟩, prog_10_method_6_code, (Option.some Jvm.ClassFile.FieldType.int))
theorem emp78 : dk_mp (ey78, 2) 0 := ⟨⟨bW_of (dk_tw_mem (n := 4204) rfl) rfl, bW_of (dk_tw_mem (n := 1010) rfl) rfl, by decide +kernel, by decide +kernel, by decide, by decide +kernel, by decide +kernel⟩, fun _ => ⟨bW_of (dk_tw_mem (n := 4203) rfl) rfl, bW_of (dk_sel (j := 81) (n := _) (by rfl)) rfl⟩, (fun h => absurd h (by decide)), (fun h => absurd h (by decide))⟩
/-- Taker.weigh(II)I -/
def ey80 : bY := (⟨"SpanCopier$Taker", "weigh", "(II)I"⟩, prog_10_method_8_code, (Option.some Jvm.ClassFile.FieldType.int))
theorem emp80 : dk_mp (ey80, 2) 2 := ⟨⟨bW_of (dk_tw_mem (n := 3104) rfl) rfl, bW_of (dk_tw_mem (n := 1010) rfl) rfl, by decide +kernel, by decide +kernel, by decide, by decide +kernel, by decide +kernel⟩, (fun h => absurd h (by decide)), (fun h => absurd h (by decide)), fun _ => bW_of (dk_tw_mem (n := 3103) rfl) rfl⟩
/-- Taker.sumOfBytes()I -/
def ey79 : bY := (⟨"SpanCopier$Taker", "sumOfBytes", "()I"⟩, prog_10_method_7_code, (Option.some Jvm.ClassFile.FieldType.int))
theorem emp79 : dk_mp (ey79, 3) 0 := ⟨⟨bW_of (dk_tw_mem (n := 4066) rfl) rfl, bW_of (dk_tw_mem (n := 1010) rfl) rfl, by decide +kernel, by decide +kernel, by decide, by decide +kernel, by decide +kernel⟩, fun _ => ⟨bW_of (dk_tw_mem (n := 4065) rfl) rfl, bW_of (dk_sel (j := 62) (n := _) (by rfl)) rfl⟩, (fun h => absurd h (by decide)), (fun h => absurd h (by decide))⟩
/-- Taker.sendNakOfAll(LSpanCopier.World;)V -/
def ey85 : bY := (⟨"SpanCopier$Taker", "sendNakOfAll", "(LSpanCopier$World;)V"⟩, prog_10_method_13_code, (Option.none : Option Jvm.ClassFile.FieldType))
theorem emp85 : dk_mp (ey85, 2) 0 := ⟨⟨bW_of (dk_tw_mem (n := 4005) rfl) rfl, bW_of (dk_tw_mem (n := 1010) rfl) rfl, by decide +kernel, by decide +kernel, by decide, by decide +kernel, by decide +kernel⟩, fun _ => ⟨bW_of (dk_tw_mem (n := 4004) rfl) rfl, bW_of (dk_sel (j := 50) (n := _) (by rfl)) rfl⟩, (fun h => absurd h (by decide)), (fun h => absurd h (by decide))⟩
/-- Taker.copyBytes(LSpanCopier.World;II)V -/
def ey83 : bY := (⟨"SpanCopier$Taker", "copyBytes", "(LSpanCopier$World;II)V"⟩, prog_10_method_11_code, (Option.none : Option Jvm.ClassFile.FieldType))
theorem emp83 : dk_mp (ey83, 4) 0 := ⟨⟨bW_of (dk_tw_mem (n := 3233) rfl) rfl, bW_of (dk_tw_mem (n := 1010) rfl) rfl, by decide +kernel, by decide +kernel, by decide, by decide +kernel, by decide +kernel⟩, fun _ => ⟨bW_of (dk_tw_mem (n := 3232) rfl) rfl, bW_of (dk_sel (j := 47) (n := _) (by rfl)) rfl⟩, (fun h => absurd h (by decide)), (fun h => absurd h (by decide))⟩
/-- Taker.meetEof(LSpanCopier.World;)V -/
def ey84 : bY := (⟨"SpanCopier$Taker", "meetEof", "(LSpanCopier$World;)V"⟩, prog_10_method_12_code, (Option.none : Option Jvm.ClassFile.FieldType))
theorem emp84 : dk_mp (ey84, 2) 0 := ⟨⟨bW_of (dk_tw_mem (n := 4001) rfl) rfl, bW_of (dk_tw_mem (n := 1010) rfl) rfl, by decide +kernel, by decide +kernel, by decide, by decide +kernel, by decide +kernel⟩, fun _ => ⟨bW_of (dk_tw_mem (n := 4000) rfl) rfl, bW_of (dk_sel (j := 49) (n := _) (by rfl)) rfl⟩, (fun h => absurd h (by decide)), (fun h => absurd h (by decide))⟩
/-- Taker.meetData(LSpanCopier.World;)V -/
def ey82 : bY := (⟨"SpanCopier$Taker", "meetData", "(LSpanCopier$World;)V"⟩, prog_10_method_10_code, (Option.none : Option Jvm.ClassFile.FieldType))
theorem emp82 : dk_mp (ey82, 4) 0 := ⟨⟨bW_of (dk_tw_mem (n := 3204) rfl) rfl, bW_of (dk_tw_mem (n := 1010) rfl) rfl, by decide +kernel, by decide +kernel, by decide, by decide +kernel, by decide +kernel⟩, fun _ => ⟨bW_of (dk_tw_mem (n := 3203) rfl) rfl, bW_of (dk_sel (j := 41) (n := _) (by rfl)) rfl⟩, (fun h => absurd h (by decide)), (fun h => absurd h (by decide))⟩
/-- Taker.meet(LSpanCopier.World;)V -/
def ey81 : bY := (⟨"SpanCopier$Taker", "meet", "(LSpanCopier$World;)V"⟩, prog_10_method_9_code, (Option.none : Option Jvm.ClassFile.FieldType))
theorem emp81 : dk_mp (ey81, 2) 0 := ⟨⟨bW_of (dk_tw_mem (n := 3200) rfl) rfl, bW_of (dk_tw_mem (n := 1010) rfl) rfl, by decide +kernel, by decide +kernel, by decide, by decide +kernel, by decide +kernel⟩, fun _ => ⟨bW_of (dk_tw_mem (n := 3199) rfl) rfl, bW_of (dk_sel (j := 40) (n := _) (by rfl)) rfl⟩, (fun h => absurd h (by decide)), (fun h => absurd h (by decide))⟩
/-- Taker.sendFin(LSpanCopier.World;)V -/
def ey89 : bY := (⟨"SpanCopier$Taker", "sendFin", "(LSpanCopier$World;)V"⟩, prog_10_method_17_code, (Option.none : Option Jvm.ClassFile.FieldType))
theorem emp89 : dk_mp (ey89, 2) 0 := ⟨⟨bW_of (dk_tw_mem (n := 4083) rfl) rfl, bW_of (dk_tw_mem (n := 1010) rfl) rfl, by decide +kernel, by decide +kernel, by decide, by decide +kernel, by decide +kernel⟩, fun _ => ⟨bW_of (dk_tw_mem (n := 4082) rfl) rfl, bW_of (dk_sel (j := 66) (n := _) (by rfl)) rfl⟩, (fun h => absurd h (by decide)), (fun h => absurd h (by decide))⟩
/-- Taker.finish(LSpanCopier.World;I)V -/
def ey88 : bY := (⟨"SpanCopier$Taker", "finish", "(LSpanCopier$World;I)V"⟩, prog_10_method_16_code, (Option.none : Option Jvm.ClassFile.FieldType))
theorem emp88 : dk_mp (ey88, 3) 0 := ⟨⟨bW_of (dk_tw_mem (n := 4079) rfl) rfl, bW_of (dk_tw_mem (n := 1010) rfl) rfl, by decide +kernel, by decide +kernel, by decide, by decide +kernel, by decide +kernel⟩, fun _ => ⟨bW_of (dk_tw_mem (n := 4078) rfl) rfl, bW_of (dk_sel (j := 65) (n := _) (by rfl)) rfl⟩, (fun h => absurd h (by decide)), (fun h => absurd h (by decide))⟩
/-- Taker.actFinishing(LSpanCopier.World;)V -/
def ey90 : bY := (⟨"SpanCopier$Taker", "actFinishing", "(LSpanCopier$World;)V"⟩, prog_10_method_18_code, (Option.none : Option Jvm.ClassFile.FieldType))
theorem emp90 : dk_mp (ey90, 2) 0 := ⟨⟨bW_of (dk_tw_mem (n := 4098) rfl) rfl, bW_of (dk_tw_mem (n := 1010) rfl) rfl, by decide +kernel, by decide +kernel, by decide, by decide +kernel, by decide +kernel⟩, fun _ => ⟨bW_of (dk_tw_mem (n := 4097) rfl) rfl, bW_of (dk_sel (j := 69) (n := _) (by rfl)) rfl⟩, (fun h => absurd h (by decide)), (fun h => absurd h (by decide))⟩
/-- Taker.actTaking(LSpanCopier.World;)V -/
def ey87 : bY := (⟨"SpanCopier$Taker", "actTaking", "(LSpanCopier$World;)V"⟩, prog_10_method_15_code, (Option.none : Option Jvm.ClassFile.FieldType))
theorem emp87 : dk_mp (ey87, 2) 0 := ⟨⟨bW_of (dk_tw_mem (n := 4062) rfl) rfl, bW_of (dk_tw_mem (n := 1010) rfl) rfl, by decide +kernel, by decide +kernel, by decide, by decide +kernel, by decide +kernel⟩, fun _ => ⟨bW_of (dk_tw_mem (n := 4061) rfl) rfl, bW_of (dk_sel (j := 61) (n := _) (by rfl)) rfl⟩, (fun h => absurd h (by decide)), (fun h => absurd h (by decide))⟩
/-- Taker.act(LSpanCopier.World;)V -/
def ey86 : bY := (⟨"SpanCopier$Taker", "act", "(LSpanCopier$World;)V"⟩, prog_10_method_14_code, (Option.none : Option Jvm.ClassFile.FieldType))
theorem emp86 : dk_mp (ey86, 2) 0 := ⟨⟨bW_of (dk_tw_mem (n := 4058) rfl) rfl, bW_of (dk_tw_mem (n := 1010) rfl) rfl, by decide +kernel, by decide +kernel, by decide, by decide +kernel, by decide +kernel⟩, fun _ => ⟨bW_of (dk_tw_mem (n := 4057) rfl) rfl, bW_of (dk_sel (j := 60) (n := _) (by rfl)) rfl⟩, (fun h => absurd h (by decide)), (fun h => absurd h (by decide))⟩
/-- Sentence.<init>()V -/
def ey55 : bY := (⟨"SpanCopier$Sentence", "<init>", "()V"⟩, prog_8_method_1_code, (Option.none : Option Jvm.ClassFile.FieldType))
theorem emp55 : dk_mp (ey55, 2) 1 := ⟨⟨bW_of (dk_tw_mem (n := 5110) rfl) rfl, bW_of (dk_tw_mem (n := 1022) rfl) rfl, by decide +kernel, by decide +kernel, by decide, by decide +kernel, by decide +kernel⟩, (fun h => absurd h (by decide)), fun _ => ⟨bW_of (dk_tw_mem (n := 5109) rfl) rfl, rfl⟩, (fun h => absurd h (by decide))⟩
/-- Sentence.add(LSpanCopier.Word;II)V -/
def ey63 : bY := (⟨"SpanCopier$Sentence", "add", "(LSpanCopier$Word;II)V"⟩, prog_8_method_9_code, (Option.none : Option Jvm.ClassFile.FieldType))
theorem emp63 : dk_mp (ey63, 4) 0 := ⟨⟨bW_of (dk_tw_mem (n := 5163) rfl) rfl, bW_of (dk_tw_mem (n := 1022) rfl) rfl, by decide +kernel, by decide +kernel, by decide, by decide +kernel, by decide +kernel⟩, fun _ => ⟨bW_of (dk_tw_mem (n := 5162) rfl) rfl, bW_of (dk_sel (j := 102) (n := _) (by rfl)) rfl⟩, (fun h => absurd h (by decide)), (fun h => absurd h (by decide))⟩
/-- Sentence.isSaid(LSpanCopier.Word;)Z -/
def ey59 : bY := (⟨"SpanCopier$Sentence", "isSaid", "(LSpanCopier$Word;)Z"⟩, prog_8_method_5_code, (Option.some Jvm.ClassFile.FieldType.boolean))
theorem emp59 : dk_mp (ey59, 1) 2 := ⟨⟨bW_of (dk_tw_mem (n := 5147) rfl) rfl, bW_of (dk_tw_mem (n := 1022) rfl) rfl, by decide +kernel, by decide +kernel, by decide, by decide +kernel, by decide +kernel⟩, (fun h => absurd h (by decide)), (fun h => absurd h (by decide)), fun _ => bW_of (dk_tw_mem (n := 5146) rfl) rfl⟩
/-- Sentence.isMeasure(LSpanCopier.Word;)Z -/
def ey60 : bY := (⟨"SpanCopier$Sentence", "isMeasure", "(LSpanCopier$Word;)Z"⟩, prog_8_method_6_code, (Option.some Jvm.ClassFile.FieldType.boolean))
theorem emp60 : dk_mp (ey60, 1) 2 := ⟨⟨bW_of (dk_tw_mem (n := 5152) rfl) rfl, bW_of (dk_tw_mem (n := 1022) rfl) rfl, by decide +kernel, by decide +kernel, by decide, by decide +kernel, by decide +kernel⟩, (fun h => absurd h (by decide)), (fun h => absurd h (by decide)), fun _ => bW_of (dk_tw_mem (n := 5151) rfl) rfl⟩
/-- Sentence.readClose(LSpanCopier.Tape;)Z -/
def ey61 : bY := (⟨"SpanCopier$Sentence", "readClose", "(LSpanCopier$Tape;)Z"⟩, prog_8_method_7_code, (Option.some Jvm.ClassFile.FieldType.boolean))
theorem emp61 : dk_mp (ey61, 2) 0 := ⟨⟨bW_of (dk_tw_mem (n := 5168) rfl) rfl, bW_of (dk_tw_mem (n := 1022) rfl) rfl, by decide +kernel, by decide +kernel, by decide, by decide +kernel, by decide +kernel⟩, fun _ => ⟨bW_of (dk_tw_mem (n := 5167) rfl) rfl, bW_of (dk_sel (j := 103) (n := _) (by rfl)) rfl⟩, (fun h => absurd h (by decide)), (fun h => absurd h (by decide))⟩
/-- Sentence.readMeasure(LSpanCopier.Tape;LSpanCopier.Word;)Z -/
def ey62 : bY := (⟨"SpanCopier$Sentence", "readMeasure", "(LSpanCopier$Tape;LSpanCopier$Word;)Z"⟩, prog_8_method_8_code, (Option.some Jvm.ClassFile.FieldType.boolean))
theorem emp62 : dk_mp (ey62, 4) 0 := ⟨⟨bW_of (dk_tw_mem (n := 5157) rfl) rfl, bW_of (dk_tw_mem (n := 1022) rfl) rfl, by decide +kernel, by decide +kernel, by decide, by decide +kernel, by decide +kernel⟩, fun _ => ⟨bW_of (dk_tw_mem (n := 5156) rfl) rfl, bW_of (dk_sel (j := 101) (n := _) (by rfl)) rfl⟩, (fun h => absurd h (by decide)), (fun h => absurd h (by decide))⟩
/-- Sentence.compares(II)Z -/
def ey66 : bY := (⟨"SpanCopier$Sentence", "compares", "(II)Z"⟩, prog_8_method_12_code, (Option.some Jvm.ClassFile.FieldType.boolean))
theorem emp66 : dk_mp (ey66, 3) 0 := ⟨⟨bW_of (dk_tw_mem (n := 5191) rfl) rfl, bW_of (dk_tw_mem (n := 1022) rfl) rfl, by decide +kernel, by decide +kernel, by decide, by decide +kernel, by decide +kernel⟩, fun _ => ⟨bW_of (dk_tw_mem (n := 5190) rfl) rfl, bW_of (dk_sel (j := 106) (n := _) (by rfl)) rfl⟩, (fun h => absurd h (by decide)), (fun h => absurd h (by decide))⟩
/-- Sentence.isSo(ILSpanCopier.Link;II)Z -/
def ey65 : bY := (⟨"SpanCopier$Sentence", "isSo", "(ILSpanCopier$Link;II)Z"⟩, prog_8_method_11_code, (Option.some Jvm.ClassFile.FieldType.boolean))
theorem emp65 : dk_mp (ey65, 6) 0 := ⟨⟨bW_of (dk_tw_mem (n := 5185) rfl) rfl, bW_of (dk_tw_mem (n := 1022) rfl) rfl, by decide +kernel, by decide +kernel, by decide, by decide +kernel, by decide +kernel⟩, fun _ => ⟨bW_of (dk_tw_mem (n := 5184) rfl) rfl, bW_of (dk_sel (j := 105) (n := _) (by rfl)) rfl⟩, (fun h => absurd h (by decide)), (fun h => absurd h (by decide))⟩
/-- Sentence.holds(LSpanCopier.Link;II)Z -/
def ey64 : bY := (⟨"SpanCopier$Sentence", "holds", "(LSpanCopier$Link;II)Z"⟩, prog_8_method_10_code, (Option.some Jvm.ClassFile.FieldType.boolean))
theorem emp64 : dk_mp (ey64, 7) 0 := ⟨⟨bW_of (dk_tw_mem (n := 5181) rfl) rfl, bW_of (dk_tw_mem (n := 1022) rfl) rfl, by decide +kernel, by decide +kernel, by decide, by decide +kernel, by decide +kernel⟩, fun _ => ⟨bW_of (dk_tw_mem (n := 5180) rfl) rfl, bW_of (dk_sel (j := 104) (n := _) (by rfl)) rfl⟩, (fun h => absurd h (by decide)), (fun h => absurd h (by decide))⟩
/-- Sentence.readOne(LSpanCopier.Tape;I)Z -/
def ey58 : bY := (⟨"SpanCopier$Sentence", "readOne", "(LSpanCopier$Tape;I)Z"⟩, prog_8_method_4_code, (Option.some Jvm.ClassFile.FieldType.boolean))
theorem emp58 : dk_mp (ey58, 5) 0 := ⟨⟨bW_of (dk_tw_mem (n := 5142) rfl) rfl, bW_of (dk_tw_mem (n := 1022) rfl) rfl, by decide +kernel, by decide +kernel, by decide, by decide +kernel, by decide +kernel⟩, fun _ => ⟨bW_of (dk_tw_mem (n := 5141) rfl) rfl, bW_of (dk_sel (j := 100) (n := _) (by rfl)) rfl⟩, (fun h => absurd h (by decide)), (fun h => absurd h (by decide))⟩
/-- Sentence.readAll(LSpanCopier.Tape;I)Z -/
def ey57 : bY := (⟨"SpanCopier$Sentence", "readAll", "(LSpanCopier$Tape;I)Z"⟩, prog_8_method_3_code, (Option.some Jvm.ClassFile.FieldType.boolean))
theorem emp57 : dk_mp (ey57, 4) 0 := ⟨⟨bW_of (dk_tw_mem (n := 5138) rfl) rfl, bW_of (dk_tw_mem (n := 1022) rfl) rfl, by decide +kernel, by decide +kernel, by decide, by decide +kernel, by decide +kernel⟩, fun _ => ⟨bW_of (dk_tw_mem (n := 5137) rfl) rfl, bW_of (dk_sel (j := 99) (n := _) (by rfl)) rfl⟩, (fun h => absurd h (by decide)), (fun h => absurd h (by decide))⟩
/-- Sentence.readCond(LSpanCopier.Tape;I)Z -/
def ey56 : bY := (⟨"SpanCopier$Sentence", "readCond", "(LSpanCopier$Tape;I)Z"⟩, prog_8_method_2_code, (Option.some Jvm.ClassFile.FieldType.boolean))
theorem emp56 : dk_mp (ey56, 4) 0 := ⟨⟨bW_of (dk_tw_mem (n := 5134) rfl) rfl, bW_of (dk_tw_mem (n := 1022) rfl) rfl, by decide +kernel, by decide +kernel, by decide, by decide +kernel, by decide +kernel⟩, fun _ => ⟨bW_of (dk_tw_mem (n := 5133) rfl) rfl, bW_of (dk_sel (j := 98) (n := _) (by rfl)) rfl⟩, (fun h => absurd h (by decide)), (fun h => absurd h (by decide))⟩
/-- World.<init>()V -/
def ey107 : bY := (⟨"SpanCopier$World", "<init>", "()V"⟩, prog_13_method_1_code, (Option.none : Option Jvm.ClassFile.FieldType))
theorem emp107 : dk_mp (ey107, 1) 1 := ⟨⟨bW_of (dk_tw_mem (n := 1120) rfl) rfl, bW_of (dk_tw_mem (n := 1006) rfl) rfl, by decide +kernel, by decide +kernel, by decide, by decide +kernel, by decide +kernel⟩, (fun h => absurd h (by decide)), fun _ => ⟨bW_of (dk_tw_mem (n := 1119) rfl) rfl, rfl⟩, (fun h => absurd h (by decide))⟩
/-- World.copyFrom(LSpanCopier.World;)V -/
def ey108 : bY := (⟨"SpanCopier$World", "copyFrom", "(LSpanCopier$World;)V"⟩, prog_13_method_2_code, (Option.none : Option Jvm.ClassFile.FieldType))
theorem emp108 : dk_mp (ey108, 2) 0 := ⟨⟨bW_of (dk_tw_mem (n := 3120) rfl) rfl, bW_of (dk_tw_mem (n := 1006) rfl) rfl, by decide +kernel, by decide +kernel, by decide, by decide +kernel, by decide +kernel⟩, fun _ => ⟨bW_of (dk_tw_mem (n := 3119) rfl) rfl, bW_of (dk_sel (j := 26) (n := _) (by rfl)) rfl⟩, (fun h => absurd h (by decide)), (fun h => absurd h (by decide))⟩
/-- World.restart([B)V -/
def ey111 : bY := (⟨"SpanCopier$World", "restart", "([B)V"⟩, prog_13_method_5_code, (Option.none : Option Jvm.ClassFile.FieldType))
theorem emp111 : dk_mp (ey111, 3) 0 := ⟨⟨bW_of (dk_tw_mem (n := 3077) rfl) rfl, bW_of (dk_tw_mem (n := 1006) rfl) rfl, by decide +kernel, by decide +kernel, by decide, by decide +kernel, by decide +kernel⟩, fun _ => ⟨bW_of (dk_tw_mem (n := 3076) rfl) rfl, bW_of (dk_sel (j := 19) (n := _) (by rfl)) rfl⟩, (fun h => absurd h (by decide)), (fun h => absurd h (by decide))⟩
/-- World.begin(LSpanCopier.Order;)V -/
def ey109 : bY := (⟨"SpanCopier$World", "begin", "(LSpanCopier$Order;)V"⟩, prog_13_method_3_code, (Option.none : Option Jvm.ClassFile.FieldType))
theorem emp109 : dk_mp (ey109, 2) 0 := ⟨⟨bW_of (dk_tw_mem (n := 3073) rfl) rfl, bW_of (dk_tw_mem (n := 1006) rfl) rfl, by decide +kernel, by decide +kernel, by decide, by decide +kernel, by decide +kernel⟩, fun _ => ⟨bW_of (dk_tw_mem (n := 3072) rfl) rfl, bW_of (dk_sel (j := 18) (n := _) (by rfl)) rfl⟩, (fun h => absurd h (by decide)), (fun h => absurd h (by decide))⟩
/-- World.load([B)V -/
def ey110 : bY := (⟨"SpanCopier$World", "load", "([B)V"⟩, prog_13_method_4_code, (Option.none : Option Jvm.ClassFile.FieldType))
theorem emp110 : dk_mp (ey110, 2) 0 := ⟨⟨bW_of (dk_tw_mem (n := 3161) rfl) rfl, bW_of (dk_tw_mem (n := 1006) rfl) rfl, by decide +kernel, by decide +kernel, by decide, by decide +kernel, by decide +kernel⟩, fun _ => ⟨bW_of (dk_tw_mem (n := 3160) rfl) rfl, bW_of (dk_sel (j := 32) (n := _) (by rfl)) rfl⟩, (fun h => absurd h (by decide)), (fun h => absurd h (by decide))⟩
/-- World.passTick()V -/
def ey113 : bY := (⟨"SpanCopier$World", "passTick", "()V"⟩, prog_13_method_7_code, (Option.none : Option Jvm.ClassFile.FieldType))
theorem emp113 : dk_mp (ey113, 3) 0 := ⟨⟨bW_of (dk_tw_mem (n := 3177) rfl) rfl, bW_of (dk_tw_mem (n := 1006) rfl) rfl, by decide +kernel, by decide +kernel, by decide, by decide +kernel, by decide +kernel⟩, fun _ => ⟨bW_of (dk_tw_mem (n := 3176) rfl) rfl, bW_of (dk_sel (j := 35) (n := _) (by rfl)) rfl⟩, (fun h => absurd h (by decide)), (fun h => absurd h (by decide))⟩
/-- World.passTicks(I)I -/
def ey112 : bY := (⟨"SpanCopier$World", "passTicks", "(I)I"⟩, prog_13_method_6_code, (Option.some Jvm.ClassFile.FieldType.int))
theorem emp112 : dk_mp (ey112, 3) 0 := ⟨⟨bW_of (dk_tw_mem (n := 3173) rfl) rfl, bW_of (dk_tw_mem (n := 1006) rfl) rfl, by decide +kernel, by decide +kernel, by decide, by decide +kernel, by decide +kernel⟩, fun _ => ⟨bW_of (dk_tw_mem (n := 3172) rfl) rfl, bW_of (dk_sel (j := 34) (n := _) (by rfl)) rfl⟩, (fun h => absurd h (by decide)), (fun h => absurd h (by decide))⟩
/-- World.draw(I)I -/
def ey115 : bY := (⟨"SpanCopier$World", "draw", "(I)I"⟩, prog_13_method_9_code, (Option.some Jvm.ClassFile.FieldType.int))
theorem emp115 : dk_mp (ey115, 2) 0 := ⟨⟨bW_of (dk_tw_mem (n := 5025) rfl) rfl, bW_of (dk_tw_mem (n := 1006) rfl) rfl, by decide +kernel, by decide +kernel, by decide, by decide +kernel, by decide +kernel⟩, fun _ => ⟨bW_of (dk_tw_mem (n := 5024) rfl) rfl, bW_of (dk_sel (j := 90) (n := _) (by rfl)) rfl⟩, (fun h => absurd h (by decide)), (fun h => absurd h (by decide))⟩
/-- World.sendPrompt()I -/
def ey116 : bY := (⟨"SpanCopier$World", "sendPrompt", "()I"⟩, prog_13_method_10_code, (Option.some Jvm.ClassFile.FieldType.int))
theorem emp116 : dk_mp (ey116, 1) 0 := ⟨⟨bW_of (dk_tw_mem (n := 4144) rfl) rfl, bW_of (dk_tw_mem (n := 1006) rfl) rfl, by decide +kernel, by decide +kernel, by decide, by decide +kernel, by decide +kernel⟩, fun _ => ⟨bW_of (dk_tw_mem (n := 4143) rfl) rfl, bW_of (dk_sel (j := 75) (n := _) (by rfl)) rfl⟩, (fun h => absurd h (by decide)), (fun h => absurd h (by decide))⟩
