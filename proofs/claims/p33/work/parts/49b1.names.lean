/-- Sender.sendNext(LSpanCopier.World;)V -/
def ey52 : bY := (⟨"SpanCopier$Sender", "sendNext", "(LSpanCopier$World;)V"⟩, prog_7_method_11_code, (Option.none : Option Jvm.ClassFile.FieldType))
theorem emp52 : dk_mp (ey52, 4) 0 := ⟨⟨bW_of (dk_tw_mem (n := 4046) (by decide +kernel)) rfl, bW_of (dk_tw_mem (n := 1008) (by decide +kernel)) rfl, by decide +kernel, by decide +kernel, by decide, by decide +kernel, by decide +kernel⟩, fun _ => ⟨bW_of (dk_tw_mem (n := 4045) (by decide +kernel)) rfl, bW_of (dk_sel (j := 57) (n := _) (by rfl)) rfl⟩, (fun h => absurd h (by decide)), (fun h => absurd h (by decide))⟩
/-- Sender.sendAgain(LSpanCopier.World;)V -/
def ey51 : bY := (⟨"SpanCopier$Sender", "sendAgain", "(LSpanCopier$World;)V"⟩, prog_7_method_10_code, (Option.none : Option Jvm.ClassFile.FieldType))
theorem emp51 : dk_mp (ey51, 4) 0 := ⟨⟨bW_of (dk_tw_mem (n := 4039) (by decide +kernel)) rfl, bW_of (dk_tw_mem (n := 1008) (by decide +kernel)) rfl, by decide +kernel, by decide +kernel, by decide, by decide +kernel, by decide +kernel⟩, fun _ => ⟨bW_of (dk_tw_mem (n := 4038) (by decide +kernel)) rfl, bW_of (dk_sel (j := 56) (n := _) (by rfl)) rfl⟩, (fun h => absurd h (by decide)), (fun h => absurd h (by decide))⟩
/-- Sender.act(LSpanCopier.World;)V -/
def ey50 : bY := (⟨"SpanCopier$Sender", "act", "(LSpanCopier$World;)V"⟩, prog_7_method_9_code, (Option.none : Option Jvm.ClassFile.FieldType))
theorem emp50 : dk_mp (ey50, 3) 0 := ⟨⟨bW_of (dk_tw_mem (n := 4035) (by decide +kernel)) rfl, bW_of (dk_tw_mem (n := 1008) (by decide +kernel)) rfl, by decide +kernel, by decide +kernel, by decide, by decide +kernel, by decide +kernel⟩, fun _ => ⟨bW_of (dk_tw_mem (n := 4034) (by decide +kernel)) rfl, bW_of (dk_sel (j := 55) (n := _) (by rfl)) rfl⟩, (fun h => absurd h (by decide)), (fun h => absurd h (by decide))⟩
/-- Sender.meet(LSpanCopier.World;)V -/
def ey47 : bY := (⟨"SpanCopier$Sender", "meet", "(LSpanCopier$World;)V"⟩, prog_7_method_6_code, (Option.none : Option Jvm.ClassFile.FieldType))
theorem emp47 : dk_mp (ey47, 2) 0 := ⟨⟨bW_of (dk_tw_mem (n := 4010) (by decide +kernel)) rfl, bW_of (dk_tw_mem (n := 1008) (by decide +kernel)) rfl, by decide +kernel, by decide +kernel, by decide, by decide +kernel, by decide +kernel⟩, fun _ => ⟨bW_of (dk_tw_mem (n := 4009) (by decide +kernel)) rfl, bW_of (dk_sel (j := 51) (n := _) (by rfl)) rfl⟩, (fun h => absurd h (by decide)), (fun h => absurd h (by decide))⟩
/-- Taker.<init>()V -/
def ey73 : bY := (⟨"SpanCopier$Taker", "<init>", "()V"⟩, prog_10_method_1_code, (Option.none : Option Jvm.ClassFile.FieldType))
theorem emp73 : dk_mp (ey73, 1) 1 := ⟨⟨bW_of (dk_tw_mem (n := 1200) (by decide +kernel)) rfl, bW_of (dk_tw_mem (n := 1010) (by decide +kernel)) rfl, by decide +kernel, by decide +kernel, by decide, by decide +kernel, by decide +kernel⟩, (fun h => absurd h (by decide)), fun _ => ⟨bW_of (dk_tw_mem (n := 1199) (by decide +kernel)) rfl, rfl⟩, (fun h => absurd h (by decide))⟩
/-- Taker.clear()V -/
def ey74 : bY := (⟨"SpanCopier$Taker", "clear", "()V"⟩, prog_10_method_2_code, (Option.none : Option Jvm.ClassFile.FieldType))
theorem emp74 : dk_mp (ey74, 1) 0 := ⟨⟨bW_of (dk_tw_mem (n := 3096) (by decide +kernel)) rfl, bW_of (dk_tw_mem (n := 1010) (by decide +kernel)) rfl, by decide +kernel, by decide +kernel, by decide, by decide +kernel, by decide +kernel⟩, fun _ => ⟨bW_of (dk_tw_mem (n := 3095) (by decide +kernel)) rfl, bW_of (dk_sel (j := 23) (n := _) (by rfl)) rfl⟩, (fun h => absurd h (by decide)), (fun h => absurd h (by decide))⟩
/-- Taker.copyFrom(LSpanCopier.Taker;)V -/
def ey75 : bY := (⟨"SpanCopier$Taker", "copyFrom", "(LSpanCopier$Taker;)V"⟩, prog_10_method_3_code, (Option.none : Option Jvm.ClassFile.FieldType))
theorem emp75 : dk_mp (ey75, 2) 0 := ⟨⟨bW_of (dk_tw_mem (n := 3138) (by decide +kernel)) rfl, bW_of (dk_tw_mem (n := 1010) (by decide +kernel)) rfl, by decide +kernel, by decide +kernel, by decide, by decide +kernel, by decide +kernel⟩, fun _ => ⟨bW_of (dk_tw_mem (n := 3137) (by decide +kernel)) rfl, bW_of (dk_sel (j := 30) (n := _) (by rfl)) rfl⟩, (fun h => absurd h (by decide)), (fun h => absurd h (by decide))⟩
/-- Taker.isOver()Z -/
def ey76 : bY := (⟨"SpanCopier$Taker", "isOver", "()Z"⟩, prog_10_method_4_code, (Option.some Jvm.ClassFile.FieldType.boolean))
theorem emp76 : dk_mp (ey76, 1) 0 := ⟨⟨bW_of (dk_tw_mem (n := 4158) (by decide +kernel)) rfl, bW_of (dk_tw_mem (n := 1010) (by decide +kernel)) rfl, by decide +kernel, by decide +kernel, by decide, by decide +kernel, by decide +kernel⟩, fun _ => ⟨bW_of (dk_tw_mem (n := 4157) (by decide +kernel)) rfl, bW_of (dk_sel (j := 77) (n := _) (by rfl)) rfl⟩, (fun h => absurd h (by decide)), (fun h => absurd h (by decide))⟩
/-- Taker.hasByte(I)Z -/
def ey77 : bY := (⟨"SpanCopier$Taker", "hasByte", "(I)Z"⟩, prog_10_method_5_code, (Option.some Jvm.ClassFile.FieldType.boolean))
theorem emp77 : dk_mp (ey77, 2) 0 := ⟨⟨bW_of (dk_tw_mem (n := 4070) (by decide +kernel)) rfl, bW_of (dk_tw_mem (n := 1010) (by decide +kernel)) rfl, by decide +kernel, by decide +kernel, by decide, by decide +kernel, by decide +kernel⟩, fun _ => ⟨bW_of (dk_tw_mem (n := 4069) (by decide +kernel)) rfl, bW_of (dk_sel (j := 63) (n := _) (by rfl)) rfl⟩, (fun h => absurd h (by decide)), (fun h => absurd h (by decide))⟩
/-- Taker.byteAt(I)I -/
def ey78 : bY := (⟨"SpanCopier$Taker", "byteAt", "(I)I"⟩, prog_10_method_6_code, (Option.some Jvm.ClassFile.FieldType.int))
theorem emp78 : dk_mp (ey78, 2) 0 := ⟨⟨bW_of (dk_tw_mem (n := 4204) (by decide +kernel)) rfl, bW_of (dk_tw_mem (n := 1010) (by decide +kernel)) rfl, by decide +kernel, by decide +kernel, by decide, by decide +kernel, by decide +kernel⟩, fun _ => ⟨bW_of (dk_tw_mem (n := 4203) (by decide +kernel)) rfl, bW_of (dk_sel (j := 81) (n := _) (by rfl)) rfl⟩, (fun h => absurd h (by decide)), (fun h => absurd h (by decide))⟩
/-- Taker.weigh(II)I -/
def ey80 : bY := (⟨"SpanCopier$Taker", "weigh", "(II)I"⟩, prog_10_method_8_code, (Option.some Jvm.ClassFile.FieldType.int))
theorem emp80 : dk_mp (ey80, 2) 2 := ⟨⟨bW_of (dk_tw_mem (n := 3104) (by decide +kernel)) rfl, bW_of (dk_tw_mem (n := 1010) (by decide +kernel)) rfl, by decide +kernel, by decide +kernel, by decide, by decide +kernel, by decide +kernel⟩, (fun h => absurd h (by decide)), (fun h => absurd h (by decide)), fun _ => bW_of (dk_tw_mem (n := 3103) (by decide +kernel)) rfl⟩
/-- Taker.sumOfBytes()I -/
def ey79 : bY := (⟨"SpanCopier$Taker", "sumOfBytes", "()I"⟩, prog_10_method_7_code, (Option.some Jvm.ClassFile.FieldType.int))
theorem emp79 : dk_mp (ey79, 3) 0 := ⟨⟨bW_of (dk_tw_mem (n := 4066) (by decide +kernel)) rfl, bW_of (dk_tw_mem (n := 1010) (by decide +kernel)) rfl, by decide +kernel, by decide +kernel, by decide, by decide +kernel, by decide +kernel⟩, fun _ => ⟨bW_of (dk_tw_mem (n := 4065) (by decide +kernel)) rfl, bW_of (dk_sel (j := 62) (n := _) (by rfl)) rfl⟩, (fun h => absurd h (by decide)), (fun h => absurd h (by decide))⟩
/-- Taker.sendNakOfAll(LSpanCopier.World;)V -/
def ey85 : bY := (⟨"SpanCopier$Taker", "sendNakOfAll", "(LSpanCopier$World;)V"⟩, prog_10_method_13_code, (Option.none : Option Jvm.ClassFile.FieldType))
theorem emp85 : dk_mp (ey85, 2) 0 := ⟨⟨bW_of (dk_tw_mem (n := 4005) (by decide +kernel)) rfl, bW_of (dk_tw_mem (n := 1010) (by decide +kernel)) rfl, by decide +kernel, by decide +kernel, by decide, by decide +kernel, by decide +kernel⟩, fun _ => ⟨bW_of (dk_tw_mem (n := 4004) (by decide +kernel)) rfl, bW_of (dk_sel (j := 50) (n := _) (by rfl)) rfl⟩, (fun h => absurd h (by decide)), (fun h => absurd h (by decide))⟩
/-- Taker.copyBytes(LSpanCopier.World;II)V -/
def ey83 : bY := (⟨"SpanCopier$Taker", "copyBytes", "(LSpanCopier$World;II)V"⟩, prog_10_method_11_code, (Option.none : Option Jvm.ClassFile.FieldType))
theorem emp83 : dk_mp (ey83, 4) 0 := ⟨⟨bW_of (dk_tw_mem (n := 3233) (by decide +kernel)) rfl, bW_of (dk_tw_mem (n := 1010) (by decide +kernel)) rfl, by decide +kernel, by decide +kernel, by decide, by decide +kernel, by decide +kernel⟩, fun _ => ⟨bW_of (dk_tw_mem (n := 3232) (by decide +kernel)) rfl, bW_of (dk_sel (j := 47) (n := _) (by rfl)) rfl⟩, (fun h => absurd h (by decide)), (fun h => absurd h (by decide))⟩
/-- Taker.meetEof(LSpanCopier.World;)V -/
def ey84 : bY := (⟨"SpanCopier$Taker", "meetEof", "(LSpanCopier$World;)V"⟩, prog_10_method_12_code, (Option.none : Option Jvm.ClassFile.FieldType))
theorem emp84 : dk_mp (ey84, 2) 0 := ⟨⟨bW_of (dk_tw_mem (n := 4001) (by decide +kernel)) rfl, bW_of (dk_tw_mem (n := 1010) (by decide +kernel)) rfl, by decide +kernel, by decide +kernel, by decide, by decide +kernel, by decide +kernel⟩, fun _ => ⟨bW_of (dk_tw_mem (n := 4000) (by decide +kernel)) rfl, bW_of (dk_sel (j := 49) (n := _) (by rfl)) rfl⟩, (fun h => absurd h (by decide)), (fun h => absurd h (by decide))⟩
/-- Taker.meetData(LSpanCopier.World;)V -/
def ey82 : bY := (⟨"SpanCopier$Taker", "meetData", "(LSpanCopier$World;)V"⟩, prog_10_method_10_code, (Option.none : Option Jvm.ClassFile.FieldType))
theorem emp82 : dk_mp (ey82, 4) 0 := ⟨⟨bW_of (dk_tw_mem (n := 3204) (by decide +kernel)) rfl, bW_of (dk_tw_mem (n := 1010) (by decide +kernel)) rfl, by decide +kernel, by decide +kernel, by decide, by decide +kernel, by decide +kernel⟩, fun _ => ⟨bW_of (dk_tw_mem (n := 3203) (by decide +kernel)) rfl, bW_of (dk_sel (j := 41) (n := _) (by rfl)) rfl⟩, (fun h => absurd h (by decide)), (fun h => absurd h (by decide))⟩
/-- Taker.meet(LSpanCopier.World;)V -/
def ey81 : bY := (⟨"SpanCopier$Taker", "meet", "(LSpanCopier$World;)V"⟩, prog_10_method_9_code, (Option.none : Option Jvm.ClassFile.FieldType))
theorem emp81 : dk_mp (ey81, 2) 0 := ⟨⟨bW_of (dk_tw_mem (n := 3200) (by decide +kernel)) rfl, bW_of (dk_tw_mem (n := 1010) (by decide +kernel)) rfl, by decide +kernel, by decide +kernel, by decide, by decide +kernel, by decide +kernel⟩, fun _ => ⟨bW_of (dk_tw_mem (n := 3199) (by decide +kernel)) rfl, bW_of (dk_sel (j := 40) (n := _) (by rfl)) rfl⟩, (fun h => absurd h (by decide)), (fun h => absurd h (by decide))⟩
/-- Taker.sendFin(LSpanCopier.World;)V -/
def ey89 : bY := (⟨"SpanCopier$Taker", "sendFin", "(LSpanCopier$World;)V"⟩, prog_10_method_17_code, (Option.none : Option Jvm.ClassFile.FieldType))
theorem emp89 : dk_mp (ey89, 2) 0 := ⟨⟨bW_of (dk_tw_mem (n := 4083) (by decide +kernel)) rfl, bW_of (dk_tw_mem (n := 1010) (by decide +kernel)) rfl, by decide +kernel, by decide +kernel, by decide, by decide +kernel, by decide +kernel⟩, fun _ => ⟨bW_of (dk_tw_mem (n := 4082) (by decide +kernel)) rfl, bW_of (dk_sel (j := 66) (n := _) (by rfl)) rfl⟩, (fun h => absurd h (by decide)), (fun h => absurd h (by decide))⟩
/-- Taker.finish(LSpanCopier.World;I)V -/
def ey88 : bY := (⟨"SpanCopier$Taker", "finish", "(LSpanCopier$World;I)V"⟩, prog_10_method_16_code, (Option.none : Option Jvm.ClassFile.FieldType))
theorem emp88 : dk_mp (ey88, 3) 0 := ⟨⟨bW_of (dk_tw_mem (n := 4079) (by decide +kernel)) rfl, bW_of (dk_tw_mem (n := 1010) (by decide +kernel)) rfl, by decide +kernel, by decide +kernel, by decide, by decide +kernel, by decide +kernel⟩, fun _ => ⟨bW_of (dk_tw_mem (n := 4078) (by decide +kernel)) rfl, bW_of (dk_sel (j := 65) (n := _) (by rfl)) rfl⟩, (fun h => absurd h (by decide)), (fun h => absurd h (by decide))⟩
/-- Taker.actFinishing(LSpanCopier.World;)V -/
def ey90 : bY := (⟨"SpanCopier$Taker", "actFinishing", "(LSpanCopier$World;)V"⟩, prog_10_method_18_code, (Option.none : Option Jvm.ClassFile.FieldType))
theorem emp90 : dk_mp (ey90, 2) 0 := ⟨⟨bW_of (dk_tw_mem (n := 4098) (by decide +kernel)) rfl, bW_of (dk_tw_mem (n := 1010) (by decide +kernel)) rfl, by decide +kernel, by decide +kernel, by decide, by decide +kernel, by decide +kernel⟩, fun _ => ⟨bW_of (dk_tw_mem (n := 4097) (by decide +kernel)) rfl, bW_of (dk_sel (j := 69) (n := _) (by rfl)) rfl⟩, (fun h => absurd h (by decide)), (fun h => absurd h (by decide))⟩
/-- Taker.actTaking(LSpanCopier.World;)V -/
def ey87 : bY := (⟨"SpanCopier$Taker", "actTaking", "(LSpanCopier$World;)V"⟩, prog_10_method_15_code, (Option.none : Option Jvm.ClassFile.FieldType))
theorem emp87 : dk_mp (ey87, 2) 0 := ⟨⟨bW_of (dk_tw_mem (n := 4062) (by decide +kernel)) rfl, bW_of (dk_tw_mem (n := 1010) (by decide +kernel)) rfl, by decide +kernel, by decide +kernel, by decide, by decide +kernel, by decide +kernel⟩, fun _ => ⟨bW_of (dk_tw_mem (n := 4061) (by decide +kernel)) rfl, bW_of (dk_sel (j := 61) (n := _) (by rfl)) rfl⟩, (fun h => absurd h (by decide)), (fun h => absurd h (by decide))⟩
/-- Taker.act(LSpanCopier.World;)V -/
def ey86 : bY := (⟨"SpanCopier$Taker", "act", "(LSpanCopier$World;)V"⟩, prog_10_method_14_code, (Option.none : Option Jvm.ClassFile.FieldType))
theorem emp86 : dk_mp (ey86, 2) 0 := ⟨⟨bW_of (dk_tw_mem (n := 4058) (by decide +kernel)) rfl, bW_of (dk_tw_mem (n := 1010) (by decide +kernel)) rfl, by decide +kernel, by decide +kernel, by decide, by decide +kernel, by decide +kernel⟩, fun _ => ⟨bW_of (dk_tw_mem (n := 4057) (by decide +kernel)) rfl, bW_of (dk_sel (j := 60) (n := _) (by rfl)) rfl⟩, (fun h => absurd h (by decide)), (fun h => absurd h (by decide))⟩
/-- Sentence.<init>()V -/
def ey55 : bY := (⟨"SpanCopier$Sentence", "<init>", "()V"⟩, prog_8_method_1_code, (Option.none : Option Jvm.ClassFile.FieldType))
theorem emp55 : dk_mp (ey55, 2) 1 := ⟨⟨bW_of (dk_tw_mem (n := 5110) (by decide +kernel)) rfl, bW_of (dk_tw_mem (n := 1022) (by decide +kernel)) rfl, by decide +kernel, by decide +kernel, by decide, by decide +kernel, by decide +kernel⟩, (fun h => absurd h (by decide)), fun _ => ⟨bW_of (dk_tw_mem (n := 5109) (by decide +kernel)) rfl, rfl⟩, (fun h => absurd h (by decide))⟩
/-- Sentence.add(LSpanCopier.Word;II)V -/
def ey63 : bY := (⟨"SpanCopier$Sentence", "add", "(LSpanCopier$Word;II)V"⟩, prog_8_method_9_code, (Option.none : Option Jvm.ClassFile.FieldType))
theorem emp63 : dk_mp (ey63, 4) 0 := ⟨⟨bW_of (dk_tw_mem (n := 5163) (by decide +kernel)) rfl, bW_of (dk_tw_mem (n := 1022) (by decide +kernel)) rfl, by decide +kernel, by decide +kernel, by decide, by decide +kernel, by decide +kernel⟩, fun _ => ⟨bW_of (dk_tw_mem (n := 5162) (by decide +kernel)) rfl, bW_of (dk_sel (j := 102) (n := _) (by rfl)) rfl⟩, (fun h => absurd h (by decide)), (fun h => absurd h (by decide))⟩
/-- Sentence.isSaid(LSpanCopier.Word;)Z -/
def ey59 : bY := (⟨"SpanCopier$Sentence", "isSaid", "(LSpanCopier$Word;)Z"⟩, prog_8_method_5_code, (Option.some Jvm.ClassFile.FieldType.boolean))
theorem emp59 : dk_mp (ey59, 1) 2 := ⟨⟨bW_of (dk_tw_mem (n := 5147) (by decide +kernel)) rfl, bW_of (dk_tw_mem (n := 1022) (by decide +kernel)) rfl, by decide +kernel, by decide +kernel, by decide, by decide +kernel, by decide +kernel⟩, (fun h => absurd h (by decide)), (fun h => absurd h (by decide)), fun _ => bW_of (dk_tw_mem (n := 5146) (by decide +kernel)) rfl⟩
/-- Sentence.isMeasure(LSpanCopier.Word;)Z -/
def ey60 : bY := (⟨"SpanCopier$Sentence", "isMeasure", "(LSpanCopier$Word;)Z"⟩, prog_8_method_6_code, (Option.some Jvm.ClassFile.FieldType.boolean))
theorem emp60 : dk_mp (ey60, 1) 2 := ⟨⟨bW_of (dk_tw_mem (n := 5152) (by decide +kernel)) rfl, bW_of (dk_tw_mem (n := 1022) (by decide +kernel)) rfl, by decide +kernel, by decide +kernel, by decide, by decide +kernel, by decide +kernel⟩, (fun h => absurd h (by decide)), (fun h => absurd h (by decide)), fun _ => bW_of (dk_tw_mem (n := 5151) (by decide +kernel)) rfl⟩
/-- Sentence.readClose(LSpanCopier.Tape;)Z -/
def ey61 : bY := (⟨"SpanCopier$Sentence", "readClose", "(LSpanCopier$Tape;)Z"⟩, prog_8_method_7_code, (Option.some Jvm.ClassFile.FieldType.boolean))
theorem emp61 : dk_mp (ey61, 2) 0 := ⟨⟨bW_of (dk_tw_mem (n := 5168) (by decide +kernel)) rfl, bW_of (dk_tw_mem (n := 1022) (by decide +kernel)) rfl, by decide +kernel, by decide +kernel, by decide, by decide +kernel, by decide +kernel⟩, fun _ => ⟨bW_of (dk_tw_mem (n := 5167) (by decide +kernel)) rfl, bW_of (dk_sel (j := 103) (n := _) (by rfl)) rfl⟩, (fun h => absurd h (by decide)), (fun h => absurd h (by decide))⟩
/-- Sentence.readMeasure(LSpanCopier.Tape;LSpanCopier.Word;)Z -/
def ey62 : bY := (⟨"SpanCopier$Sentence", "readMeasure", "(LSpanCopier$Tape;LSpanCopier$Word;)Z"⟩, prog_8_method_8_code, (Option.some Jvm.ClassFile.FieldType.boolean))
theorem emp62 : dk_mp (ey62, 4) 0 := ⟨⟨bW_of (dk_tw_mem (n := 5157) (by decide +kernel)) rfl, bW_of (dk_tw_mem (n := 1022) (by decide +kernel)) rfl, by decide +kernel, by decide +kernel, by decide, by decide +kernel, by decide +kernel⟩, fun _ => ⟨bW_of (dk_tw_mem (n := 5156) (by decide +kernel)) rfl, bW_of (dk_sel (j := 101) (n := _) (by rfl)) rfl⟩, (fun h => absurd h (by decide)), (fun h => absurd h (by decide))⟩
/-- Sentence.compares(II)Z -/
def ey66 : bY := (⟨"SpanCopier$Sentence", "compares", "(II)Z"⟩, prog_8_method_12_code, (Option.some Jvm.ClassFile.FieldType.boolean))
theorem emp66 : dk_mp (ey66, 3) 0 := ⟨⟨bW_of (dk_tw_mem (n := 5191) (by decide +kernel)) rfl, bW_of (dk_tw_mem (n := 1022) (by decide +kernel)) rfl, by decide +kernel, by decide +kernel, by decide, by decide +kernel, by decide +kernel⟩, fun _ => ⟨bW_of (dk_tw_mem (n := 5190) (by decide +kernel)) rfl, bW_of (dk_sel (j := 106) (n := _) (by rfl)) rfl⟩, (fun h => absurd h (by decide)), (fun h => absurd h (by decide))⟩
/-- Sentence.isSo(ILSpanCopier.Link;II)Z -/
def ey65 : bY := (⟨"SpanCopier$Sentence", "isSo", "(ILSpanCopier$Link;II)Z"⟩, prog_8_method_11_code, (Option.some Jvm.ClassFile.FieldType.boolean))
theorem emp65 : dk_mp (ey65, 6) 0 := ⟨⟨bW_of (dk_tw_mem (n := 5185) (by decide +kernel)) rfl, bW_of (dk_tw_mem (n := 1022) (by decide +kernel)) rfl, by decide +kernel, by decide +kernel, by decide, by decide +kernel, by decide +kernel⟩, fun _ => ⟨bW_of (dk_tw_mem (n := 5184) (by decide +kernel)) rfl, bW_of (dk_sel (j := 105) (n := _) (by rfl)) rfl⟩, (fun h => absurd h (by decide)), (fun h => absurd h (by decide))⟩
/-- Sentence.holds(LSpanCopier.Link;II)Z -/
def ey64 : bY := (⟨"SpanCopier$Sentence", "holds", "(LSpanCopier$Link;II)Z"⟩, prog_8_method_10_code, (Option.some Jvm.ClassFile.FieldType.boolean))
theorem emp64 : dk_mp (ey64, 7) 0 := ⟨⟨bW_of (dk_tw_mem (n := 5181) (by decide +kernel)) rfl, bW_of (dk_tw_mem (n := 1022) (by decide +kernel)) rfl, by decide +kernel, by decide +kernel, by decide, by decide +kernel, by decide +kernel⟩, fun _ => ⟨bW_of (dk_tw_mem (n := 5180) (by decide +kernel)) rfl, bW_of (dk_sel (j := 104) (n := _) (by rfl)) rfl⟩, (fun h => absurd h (by decide)), (fun h => absurd h (by decide))⟩
/-- Sentence.readOne(LSpanCopier.Tape;I)Z -/
def ey58 : bY := (⟨"SpanCopier$Sentence", "readOne", "(LSpanCopier$Tape;I)Z"⟩, prog_8_method_4_code, (Option.some Jvm.ClassFile.FieldType.boolean))
theorem emp58 : dk_mp (ey58, 5) 0 := ⟨⟨bW_of (dk_tw_mem (n := 5142) (by decide +kernel)) rfl, bW_of (dk_tw_mem (n := 1022) (by decide +kernel)) rfl, by decide +kernel, by decide +kernel, by decide, by decide +kernel, by decide +kernel⟩, fun _ => ⟨bW_of (dk_tw_mem (n := 5141) (by decide +kernel)) rfl, bW_of (dk_sel (j := 100) (n := _) (by rfl)) rfl⟩, (fun h => absurd h (by decide)), (fun h => absurd h (by decide))⟩
/-- Sentence.readAll(LSpanCopier.Tape;I)Z -/
def ey57 : bY := (⟨"SpanCopier$Sentence", "readAll", "(LSpanCopier$Tape;I)Z"⟩, prog_8_method_3_code, (Option.some Jvm.ClassFile.FieldType.boolean))
theorem emp57 : dk_mp (ey57, 4) 0 := ⟨⟨bW_of (dk_tw_mem (n := 5138) (by decide +kernel)) rfl, bW_of (dk_tw_mem (n := 1022) (by decide +kernel)) rfl, by decide +kernel, by decide +kernel, by decide, by decide +kernel, by decide +kernel⟩, fun _ => ⟨bW_of (dk_tw_mem (n := 5137) (by decide +kernel)) rfl, bW_of (dk_sel (j := 99) (n := _) (by rfl)) rfl⟩, (fun h => absurd h (by decide)), (fun h => absurd h (by decide))⟩
/-- Sentence.readCond(LSpanCopier.Tape;I)Z -/
def ey56 : bY := (⟨"SpanCopier$Sentence", "readCond", "(LSpanCopier$Tape;I)Z"⟩, prog_8_method_2_code, (Option.some Jvm.ClassFile.FieldType.boolean))
theorem emp56 : dk_mp (ey56, 4) 0 := ⟨⟨bW_of (dk_tw_mem (n := 5134) (by decide +kernel)) rfl, bW_of (dk_tw_mem (n := 1022) (by decide +kernel)) rfl, by decide +kernel, by decide +kernel, by decide, by decide +kernel, by decide +kernel⟩, fun _ => ⟨bW_of (dk_tw_mem (n := 5133) (by decide +kernel)) rfl, bW_of (dk_sel (j := 98) (n := _) (by rfl)) rfl⟩, (fun h => absurd h (by decide)), (fun h => absurd h (by decide))⟩
/-- World.<init>()V -/
def ey107 : bY := (⟨"SpanCopier$World", "<init>", "()V"⟩, prog_13_method_1_code, (Option.none : Option Jvm.ClassFile.FieldType))
theorem emp107 : dk_mp (ey107, 1) 1 := ⟨⟨bW_of (dk_tw_mem (n := 1120) (by decide +kernel)) rfl, bW_of (dk_tw_mem (n := 1006) (by decide +kernel)) rfl, by decide +kernel, by decide +kernel, by decide, by decide +kernel, by decide +kernel⟩, (fun h => absurd h (by decide)), fun _ => ⟨bW_of (dk_tw_mem (n := 1119) (by decide +kernel)) rfl, rfl⟩, (fun h => absurd h (by decide))⟩
/-- World.copyFrom(LSpanCopier.World;)V -/
def ey108 : bY := (⟨"SpanCopier$World", "copyFrom", "(LSpanCopier$World;)V"⟩, prog_13_method_2_code, (Option.none : Option Jvm.ClassFile.FieldType))
theorem emp108 : dk_mp (ey108, 2) 0 := ⟨⟨bW_of (dk_tw_mem (n := 3120) (by decide +kernel)) rfl, bW_of (dk_tw_mem (n := 1006) (by decide +kernel)) rfl, by decide +kernel, by decide +kernel, by decide, by decide +kernel, by decide +kernel⟩, fun _ => ⟨bW_of (dk_tw_mem (n := 3119) (by decide +kernel)) rfl, bW_of (dk_sel (j := 26) (n := _) (by rfl)) rfl⟩, (fun h => absurd h (by decide)), (fun h => absurd h (by decide))⟩
/-- World.restart([B)V -/
def ey111 : bY := (⟨"SpanCopier$World", "restart", "([B)V"⟩, prog_13_method_5_code, (Option.none : Option Jvm.ClassFile.FieldType))
theorem emp111 : dk_mp (ey111, 3) 0 := ⟨⟨bW_of (dk_tw_mem (n := 3077) (by decide +kernel)) rfl, bW_of (dk_tw_mem (n := 1006) (by decide +kernel)) rfl, by decide +kernel, by decide +kernel, by decide, by decide +kernel, by decide +kernel⟩, fun _ => ⟨bW_of (dk_tw_mem (n := 3076) (by decide +kernel)) rfl, bW_of (dk_sel (j := 19) (n := _) (by rfl)) rfl⟩, (fun h => absurd h (by decide)), (fun h => absurd h (by decide))⟩
/-- World.begin(LSpanCopier.Order;)V -/
def ey109 : bY := (⟨"SpanCopier$World", "begin", "(LSpanCopier$Order;)V"⟩, prog_13_method_3_code, (Option.none : Option Jvm.ClassFile.FieldType))
theorem emp109 : dk_mp (ey109, 2) 0 := ⟨⟨bW_of (dk_tw_mem (n := 3073) (by decide +kernel)) rfl, bW_of (dk_tw_mem (n := 1006) (by decide +kernel)) rfl, by decide +kernel, by decide +kernel, by decide, by decide +kernel, by decide +kernel⟩, fun _ => ⟨bW_of (dk_tw_mem (n := 3072) (by decide +kernel)) rfl, bW_of (dk_sel (j := 18) (n := _) (by rfl)) rfl⟩, (fun h => absurd h (by decide)), (fun h => absurd h (by decide))⟩
/-- World.load([B)V -/
def ey110 : bY := (⟨"SpanCopier$World", "load", "([B)V"⟩, prog_13_method_4_code, (Option.none : Option Jvm.ClassFile.FieldType))
theorem emp110 : dk_mp (ey110, 2) 0 := ⟨⟨bW_of (dk_tw_mem (n := 3161) (by decide +kernel)) rfl, bW_of (dk_tw_mem (n := 1006) (by decide +kernel)) rfl, by decide +kernel, by decide +kernel, by decide, by decide +kernel, by decide +kernel⟩, fun _ => ⟨bW_of (dk_tw_mem (n := 3160) (by decide +kernel)) rfl, bW_of (dk_sel (j := 32) (n := _) (by rfl)) rfl⟩, (fun h => absurd h (by decide)), (fun h => absurd h (by decide))⟩
/-- World.passTick()V -/
def ey113 : bY := (⟨"SpanCopier$World", "passTick", "()V"⟩, prog_13_method_7_code, (Option.none : Option Jvm.ClassFile.FieldType))
theorem emp113 : dk_mp (ey113, 3) 0 := ⟨⟨bW_of (dk_tw_mem (n := 3177) (by decide +kernel)) rfl, bW_of (dk_tw_mem (n := 1006) (by decide +kernel)) rfl, by decide +kernel, by decide +kernel, by decide, by decide +kernel, by decide +kernel⟩, fun _ => ⟨bW_of (dk_tw_mem (n := 3176) (by decide +kernel)) rfl, bW_of (dk_sel (j := 35) (n := _) (by rfl)) rfl⟩, (fun h => absurd h (by decide)), (fun h => absurd h (by decide))⟩
/-- World.passTicks(I)I -/
def ey112 : bY := (⟨"SpanCopier$World", "passTicks", "(I)I"⟩, prog_13_method_6_code, (Option.some Jvm.ClassFile.FieldType.int))
theorem emp112 : dk_mp (ey112, 3) 0 := ⟨⟨bW_of (dk_tw_mem (n := 3173) (by decide +kernel)) rfl, bW_of (dk_tw_mem (n := 1006) (by decide +kernel)) rfl, by decide +kernel, by decide +kernel, by decide, by decide +kernel, by decide +kernel⟩, fun _ => ⟨bW_of (dk_tw_mem (n := 3172) (by decide +kernel)) rfl, bW_of (dk_sel (j := 34) (n := _) (by rfl)) rfl⟩, (fun h => absurd h (by decide)), (fun h => absurd h (by decide))⟩
/-- World.draw(I)I -/
def ey115 : bY := (⟨"SpanCopier$World", "draw", "(I)I"⟩, prog_13_method_9_code, (Option.some Jvm.ClassFile.FieldType.int))
theorem emp115 : dk_mp (ey115, 2) 0 := ⟨⟨bW_of (dk_tw_mem (n := 5025) (by decide +kernel)) rfl, bW_of (dk_tw_mem (n := 1006) (by decide +kernel)) rfl, by decide +kernel, by decide +kernel, by decide, by decide +kernel, by decide +kernel⟩, fun _ => ⟨bW_of (dk_tw_mem (n := 5024) (by decide +kernel)) rfl, bW_of (dk_sel (j := 90) (n := _) (by rfl)) rfl⟩, (fun h => absurd h (by decide)), (fun h => absurd h (by decide))⟩
/-- World.sendPrompt()I -/
def ey116 : bY := (⟨"SpanCopier$World", "sendPrompt", "()I"⟩, prog_13_method_10_code, (Option.some Jvm.ClassFile.FieldType.int))
theorem emp116 : dk_mp (ey116, 1) 0 := ⟨⟨bW_of (dk_tw_mem (n := 4144) (by decide +kernel)) rfl, bW_of (dk_tw_mem (n := 1006) (by decide +kernel)) rfl, by decide +kernel, by decide +kernel, by decide, by decide +kernel, by decide +kernel⟩, fun _ => ⟨bW_of (dk_tw_mem (n := 4143) (by decide +kernel)) rfl, bW_of (dk_sel (j := 75) (n := _) (by rfl)) rfl⟩, (fun h => absurd h (by decide)), (fun h => absurd h (by decide))⟩
/-- World.crashTaker()I -/
def ey117 : bY := (⟨"SpanCopier$World", "crashTaker", "()I"⟩, prog_13_method_11_code, (Option.some Jvm.ClassFile.FieldType.int))
theorem emp117 : dk_mp (ey117, 1) 0 := ⟨⟨bW_of (dk_tw_mem (n := 4154) (by decide +kernel)) rfl, bW_of (dk_tw_mem (n := 1006) (by decide +kernel)) rfl, by decide +kernel, by decide +kernel, by decide, by decide +kernel, by decide +kernel⟩, fun _ => ⟨bW_of (dk_tw_mem (n := 4153) (by decide +kernel)) rfl, bW_of (dk_sel (j := 76) (n := _) (by rfl)) rfl⟩, (fun h => absurd h (by decide)), (fun h => absurd h (by decide))⟩
/-- World.drawWhatHappens()V -/
def ey114 : bY := (⟨"SpanCopier$World", "drawWhatHappens", "()V"⟩, prog_13_method_8_code, (Option.none : Option Jvm.ClassFile.FieldType))
theorem emp114 : dk_mp (ey114, 3) 0 := ⟨⟨bW_of (dk_tw_mem (n := 5021) (by decide +kernel)) rfl, bW_of (dk_tw_mem (n := 1006) (by decide +kernel)) rfl, by decide +kernel, by decide +kernel, by decide, by decide +kernel, by decide +kernel⟩, fun _ => ⟨bW_of (dk_tw_mem (n := 5020) (by decide +kernel)) rfl, bW_of (dk_sel (j := 89) (n := _) (by rfl)) rfl⟩, (fun h => absurd h (by decide)), (fun h => absurd h (by decide))⟩
/-- World.countNeed()I -/
def ey118 : bY := (⟨"SpanCopier$World", "countNeed", "()I"⟩, prog_13_method_12_code, (Option.some Jvm.ClassFile.FieldType.int))
theorem emp118 : dk_mp (ey118, 4) 0 := ⟨⟨bW_of (dk_tw_mem (n := 4224) (by decide +kernel)) rfl, bW_of (dk_tw_mem (n := 1006) (by decide +kernel)) rfl, by decide +kernel, by decide +kernel, by decide, by decide +kernel, by decide +kernel⟩, fun _ => ⟨bW_of (dk_tw_mem (n := 4223) (by decide +kernel)) rfl, bW_of (dk_sel (j := 83) (n := _) (by rfl)) rfl⟩, (fun h => absurd h (by decide)), (fun h => absurd h (by decide))⟩
/-- World.bothOver()Z -/
def ey119 : bY := (⟨"SpanCopier$World", "bothOver", "()Z"⟩, prog_13_method_13_code, (Option.some Jvm.ClassFile.FieldType.boolean))
theorem emp119 : dk_mp (ey119, 1) 0 := ⟨⟨bW_of (dk_tw_mem (n := 5001) (by decide +kernel)) rfl, bW_of (dk_tw_mem (n := 1006) (by decide +kernel)) rfl, by decide +kernel, by decide +kernel, by decide, by decide +kernel, by decide +kernel⟩, fun _ => ⟨bW_of (dk_tw_mem (n := 5000) (by decide +kernel)) rfl, bW_of (dk_sel (j := 86) (n := _) (by rfl)) rfl⟩, (fun h => absurd h (by decide)), (fun h => absurd h (by decide))⟩
/-- World.bothDone()Z -/
def ey120 : bY := (⟨"SpanCopier$World", "bothDone", "()Z"⟩, prog_13_method_14_code, (Option.some Jvm.ClassFile.FieldType.boolean))
theorem emp120 : dk_mp (ey120, 1) 0 := ⟨⟨bW_of (dk_tw_mem (n := 5043) (by decide +kernel)) rfl, bW_of (dk_tw_mem (n := 1006) (by decide +kernel)) rfl, by decide +kernel, by decide +kernel, by decide, by decide +kernel, by decide +kernel⟩, fun _ => ⟨bW_of (dk_tw_mem (n := 5042) (by decide +kernel)) rfl, bW_of (dk_sel (j := 92) (n := _) (by rfl)) rfl⟩, (fun h => absurd h (by decide)), (fun h => absurd h (by decide))⟩
/-- World.oneFailed()Z -/
def ey121 : bY := (⟨"SpanCopier$World", "oneFailed", "()Z"⟩, prog_13_method_15_code, (Option.some Jvm.ClassFile.FieldType.boolean))
theorem emp121 : dk_mp (ey121, 1) 0 := ⟨⟨bW_of (dk_tw_mem (n := 5047) (by decide +kernel)) rfl, bW_of (dk_tw_mem (n := 1006) (by decide +kernel)) rfl, by decide +kernel, by decide +kernel, by decide, by decide +kernel, by decide +kernel⟩, fun _ => ⟨bW_of (dk_tw_mem (n := 5046) (by decide +kernel)) rfl, bW_of (dk_sel (j := 93) (n := _) (by rfl)) rfl⟩, (fun h => absurd h (by decide)), (fun h => absurd h (by decide))⟩
/-- World.isStill()Z -/
def ey123 : bY := (⟨"SpanCopier$World", "isStill", "()Z"⟩, prog_13_method_17_code, (Option.some Jvm.ClassFile.FieldType.boolean))
theorem emp123 : dk_mp (ey123, 2) 0 := ⟨⟨bW_of (dk_tw_mem (n := 5009) (by decide +kernel)) rfl, bW_of (dk_tw_mem (n := 1006) (by decide +kernel)) rfl, by decide +kernel, by decide +kernel, by decide, by decide +kernel, by decide +kernel⟩, fun _ => ⟨bW_of (dk_tw_mem (n := 5008) (by decide +kernel)) rfl, bW_of (dk_sel (j := 88) (n := _) (by rfl)) rfl⟩, (fun h => absurd h (by decide)), (fun h => absurd h (by decide))⟩
/-- World.passUntilOver()I -/
def ey122 : bY := (⟨"SpanCopier$World", "passUntilOver", "()I"⟩, prog_13_method_16_code, (Option.some Jvm.ClassFile.FieldType.int))
theorem emp122 : dk_mp (ey122, 2) 0 := ⟨⟨bW_of (dk_tw_mem (n := 4237) (by decide +kernel)) rfl, bW_of (dk_tw_mem (n := 1006) (by decide +kernel)) rfl, by decide +kernel, by decide +kernel, by decide, by decide +kernel, by decide +kernel⟩, fun _ => ⟨bW_of (dk_tw_mem (n := 4236) (by decide +kernel)) rfl, bW_of (dk_sel (j := 85) (n := _) (by rfl)) rfl⟩, (fun h => absurd h (by decide)), (fun h => absurd h (by decide))⟩
/-- World.whyWrong(II)I -/
def ey125 : bY := (⟨"SpanCopier$World", "whyWrong", "(II)I"⟩, prog_13_method_19_code, (Option.some Jvm.ClassFile.FieldType.int))
theorem emp125 : dk_mp (ey125, 2) 2 := ⟨⟨bW_of (dk_tw_mem (n := 5091) (by decide +kernel)) rfl, bW_of (dk_tw_mem (n := 1006) (by decide +kernel)) rfl, by decide +kernel, by decide +kernel, by decide, by decide +kernel, by decide +kernel⟩, (fun h => absurd h (by decide)), (fun h => absurd h (by decide)), fun _ => bW_of (dk_tw_mem (n := 5090) (by decide +kernel)) rfl⟩
/-- World.live(LSpanCopier.Book;I)I -/
def ey124 : bY := (⟨"SpanCopier$World", "live", "(LSpanCopier$Book;I)I"⟩, prog_13_method_18_code, (Option.some Jvm.ClassFile.FieldType.int))
theorem emp124 : dk_mp (ey124, 6) 0 := ⟨⟨bW_of (dk_tw_mem (n := 5086) (by decide +kernel)) rfl, bW_of (dk_tw_mem (n := 1006) (by decide +kernel)) rfl, by decide +kernel, by decide +kernel, by decide, by decide +kernel, by decide +kernel⟩, fun _ => ⟨bW_of (dk_tw_mem (n := 5085) (by decide +kernel)) rfl, bW_of (dk_sel (j := 96) (n := _) (by rfl)) rfl⟩, (fun h => absurd h (by decide)), (fun h => absurd h (by decide))⟩
/-- SpanCopier.<init>()V -/
def ey126 : bY := (⟨"SpanCopier", "<init>", "()V"⟩, prog_1_method_1_code, (Option.none : Option Jvm.ClassFile.FieldType))
theorem emp126 : dk_mp (ey126, 1) 1 := ⟨⟨bW_of (dk_tw_mem (n := 1027) (by decide +kernel)) rfl, bW_of (dk_tw_mem (n := 1001) (by decide +kernel)) rfl, by decide +kernel, by decide +kernel, by decide, by decide +kernel, by decide +kernel⟩, (fun h => absurd h (by decide)), fun _ => ⟨bW_of (dk_tw_mem (n := 1026) (by decide +kernel)) rfl, rfl⟩, (fun h => absurd h (by decide))⟩
/-- SpanCopier.feed(IIIII)I -/
def ey127 : bY := (⟨"SpanCopier", "feed", "(IIIII)I"⟩, prog_1_method_2_code, (Option.some Jvm.ClassFile.FieldType.int))
theorem emp127 : dk_mp (ey127, 6) 0 := ⟨⟨bW_of (dk_tw_mem (n := 2180) (by decide +kernel)) rfl, bW_of (dk_tw_mem (n := 1001) (by decide +kernel)) rfl, by decide +kernel, by decide +kernel, by decide, by decide +kernel, by decide +kernel⟩, fun _ => ⟨bW_of (dk_tw_mem (n := 2178) (by decide +kernel)) rfl, bW_of (dk_tw_mem (n := 2179) (by decide +kernel)) rfl⟩, (fun h => absurd h (by decide)), (fun h => absurd h (by decide))⟩
/-- SpanCopier.end(I)Z -/
def ey128 : bY := (⟨"SpanCopier", "end", "(I)Z"⟩, prog_1_method_3_code, (Option.some Jvm.ClassFile.FieldType.boolean))
theorem emp128 : dk_mp (ey128, 2) 0 := ⟨⟨bW_of (dk_tw_mem (n := 2188) (by decide +kernel)) rfl, bW_of (dk_tw_mem (n := 1001) (by decide +kernel)) rfl, by decide +kernel, by decide +kernel, by decide, by decide +kernel, by decide +kernel⟩, fun _ => ⟨bW_of (dk_tw_mem (n := 2186) (by decide +kernel)) rfl, bW_of (dk_tw_mem (n := 2187) (by decide +kernel)) rfl⟩, (fun h => absurd h (by decide)), (fun h => absurd h (by decide))⟩
/-- SpanCopier.closeText()V -/
def ey130 : bY := (⟨"SpanCopier", "closeText", "()V"⟩, prog_1_method_5_code, (Option.none : Option Jvm.ClassFile.FieldType))
theorem emp130 : dk_mp (ey130, 1) 0 := ⟨⟨bW_of (dk_tw_mem (n := 3069) (by decide +kernel)) rfl, bW_of (dk_tw_mem (n := 1001) (by decide +kernel)) rfl, by decide +kernel, by decide +kernel, by decide, by decide +kernel, by decide +kernel⟩, fun _ => ⟨bW_of (dk_tw_mem (n := 3068) (by decide +kernel)) rfl, bW_of (dk_sel (j := 17) (n := _) (by rfl)) rfl⟩, (fun h => absurd h (by decide)), (fun h => absurd h (by decide))⟩
/-- SpanCopier.order()I -/
def ey129 : bY := (⟨"SpanCopier", "order", "()I"⟩, prog_1_method_4_code, (Option.some Jvm.ClassFile.FieldType.int))
theorem emp129 : dk_mp (ey129, 3) 0 := ⟨⟨bW_of (dk_tw_mem (n := 2192) (by decide +kernel)) rfl, bW_of (dk_tw_mem (n := 1001) (by decide +kernel)) rfl, by decide +kernel, by decide +kernel, by decide, by decide +kernel, by decide +kernel⟩, fun _ => ⟨bW_of (dk_tw_mem (n := 2190) (by decide +kernel)) rfl, bW_of (dk_tw_mem (n := 2191) (by decide +kernel)) rfl⟩, (fun h => absurd h (by decide)), (fun h => absurd h (by decide))⟩
/-- SpanCopier.fault()I -/
def ey131 : bY := (⟨"SpanCopier", "fault", "()I"⟩, prog_1_method_6_code, (Option.some Jvm.ClassFile.FieldType.int))
theorem emp131 : dk_mp (ey131, 1) 0 := ⟨⟨bW_of (dk_tw_mem (n := 3108) (by decide +kernel)) rfl, bW_of (dk_tw_mem (n := 1001) (by decide +kernel)) rfl, by decide +kernel, by decide +kernel, by decide, by decide +kernel, by decide +kernel⟩, fun _ => ⟨bW_of (dk_tw_mem (n := 3106) (by decide +kernel)) rfl, bW_of (dk_tw_mem (n := 3107) (by decide +kernel)) rfl⟩, (fun h => absurd h (by decide)), (fun h => absurd h (by decide))⟩
/-- SpanCopier.lookBefore()V -/
def ey133 : bY := (⟨"SpanCopier", "lookBefore", "()V"⟩, prog_1_method_8_code, (Option.none : Option Jvm.ClassFile.FieldType))
theorem emp133 : dk_mp (ey133, 1) 0 := ⟨⟨bW_of (dk_tw_mem (n := 3116) (by decide +kernel)) rfl, bW_of (dk_tw_mem (n := 1001) (by decide +kernel)) rfl, by decide +kernel, by decide +kernel, by decide, by decide +kernel, by decide +kernel⟩, fun _ => ⟨bW_of (dk_tw_mem (n := 3115) (by decide +kernel)) rfl, bW_of (dk_sel (j := 25) (n := _) (by rfl)) rfl⟩, (fun h => absurd h (by decide)), (fun h => absurd h (by decide))⟩
/-- SpanCopier.keepLooked()V -/
def ey134 : bY := (⟨"SpanCopier", "keepLooked", "()V"⟩, prog_1_method_9_code, (Option.none : Option Jvm.ClassFile.FieldType))
theorem emp134 : dk_mp (ey134, 3) 0 := ⟨⟨bW_of (dk_tw_mem (n := 3165) (by decide +kernel)) rfl, bW_of (dk_tw_mem (n := 1001) (by decide +kernel)) rfl, by decide +kernel, by decide +kernel, by decide, by decide +kernel, by decide +kernel⟩, fun _ => ⟨bW_of (dk_tw_mem (n := 3164) (by decide +kernel)) rfl, bW_of (dk_sel (j := 33) (n := _) (by rfl)) rfl⟩, (fun h => absurd h (by decide)), (fun h => absurd h (by decide))⟩
/-- SpanCopier.file()I -/
def ey132 : bY := (⟨"SpanCopier", "file", "()I"⟩, prog_1_method_7_code, (Option.some Jvm.ClassFile.FieldType.int))
theorem emp132 : dk_mp (ey132, 2) 0 := ⟨⟨bW_of (dk_tw_mem (n := 3112) (by decide +kernel)) rfl, bW_of (dk_tw_mem (n := 1001) (by decide +kernel)) rfl, by decide +kernel, by decide +kernel, by decide, by decide +kernel, by decide +kernel⟩, fun _ => ⟨bW_of (dk_tw_mem (n := 3110) (by decide +kernel)) rfl, bW_of (dk_tw_mem (n := 3111) (by decide +kernel)) rfl⟩, (fun h => absurd h (by decide)), (fun h => absurd h (by decide))⟩
/-- SpanCopier.keptIfAbove(I)I -/
def ey136 : bY := (⟨"SpanCopier", "keptIfAbove", "(I)I"⟩, prog_1_method_11_code, (Option.some Jvm.ClassFile.FieldType.int))
theorem emp136 : dk_mp (ey136, 2) 0 := ⟨⟨bW_of (dk_tw_mem (n := 4102) (by decide +kernel)) rfl, bW_of (dk_tw_mem (n := 1001) (by decide +kernel)) rfl, by decide +kernel, by decide +kernel, by decide, by decide +kernel, by decide +kernel⟩, fun _ => ⟨bW_of (dk_tw_mem (n := 4101) (by decide +kernel)) rfl, bW_of (dk_sel (j := 70) (n := _) (by rfl)) rfl⟩, (fun h => absurd h (by decide)), (fun h => absurd h (by decide))⟩
/-- SpanCopier.ticks(I)I -/
def ey135 : bY := (⟨"SpanCopier", "ticks", "(I)I"⟩, prog_1_method_10_code, (Option.some Jvm.ClassFile.FieldType.int))
theorem emp135 : dk_mp (ey135, 2) 0 := ⟨⟨bW_of (dk_tw_mem (n := 3169) (by decide +kernel)) rfl, bW_of (dk_tw_mem (n := 1001) (by decide +kernel)) rfl, by decide +kernel, by decide +kernel, by decide, by decide +kernel, by decide +kernel⟩, fun _ => ⟨bW_of (dk_tw_mem (n := 3167) (by decide +kernel)) rfl, bW_of (dk_tw_mem (n := 3168) (by decide +kernel)) rfl⟩, (fun h => absurd h (by decide)), (fun h => absurd h (by decide))⟩
/-- SpanCopier.keptIfDone(I)I -/
def ey138 : bY := (⟨"SpanCopier", "keptIfDone", "(I)I"⟩, prog_1_method_13_code, (Option.some Jvm.ClassFile.FieldType.int))
theorem emp138 : dk_mp (ey138, 2) 0 := ⟨⟨bW_of (dk_tw_mem (n := 4111) (by decide +kernel)) rfl, bW_of (dk_tw_mem (n := 1001) (by decide +kernel)) rfl, by decide +kernel, by decide +kernel, by decide, by decide +kernel, by decide +kernel⟩, fun _ => ⟨bW_of (dk_tw_mem (n := 4110) (by decide +kernel)) rfl, bW_of (dk_sel (j := 71) (n := _) (by rfl)) rfl⟩, (fun h => absurd h (by decide)), (fun h => absurd h (by decide))⟩
/-- SpanCopier.lose(I)I -/
def ey137 : bY := (⟨"SpanCopier", "lose", "(I)I"⟩, prog_1_method_12_code, (Option.some Jvm.ClassFile.FieldType.int))
theorem emp137 : dk_mp (ey137, 2) 0 := ⟨⟨bW_of (dk_tw_mem (n := 4106) (by decide +kernel)) rfl, bW_of (dk_tw_mem (n := 1001) (by decide +kernel)) rfl, by decide +kernel, by decide +kernel, by decide, by decide +kernel, by decide +kernel⟩, fun _ => ⟨bW_of (dk_tw_mem (n := 4104) (by decide +kernel)) rfl, bW_of (dk_tw_mem (n := 4105) (by decide +kernel)) rfl⟩, (fun h => absurd h (by decide)), (fun h => absurd h (by decide))⟩
/-- SpanCopier.twice(I)I -/
def ey139 : bY := (⟨"SpanCopier", "twice", "(I)I"⟩, prog_1_method_14_code, (Option.some Jvm.ClassFile.FieldType.int))
theorem emp139 : dk_mp (ey139, 2) 0 := ⟨⟨bW_of (dk_tw_mem (n := 4115) (by decide +kernel)) rfl, bW_of (dk_tw_mem (n := 1001) (by decide +kernel)) rfl, by decide +kernel, by decide +kernel, by decide, by decide +kernel, by decide +kernel⟩, fun _ => ⟨bW_of (dk_tw_mem (n := 4113) (by decide +kernel)) rfl, bW_of (dk_tw_mem (n := 4114) (by decide +kernel)) rfl⟩, (fun h => absurd h (by decide)), (fun h => absurd h (by decide))⟩
/-- SpanCopier.late(II)I -/
def ey140 : bY := (⟨"SpanCopier", "late", "(II)I"⟩, prog_1_method_15_code, (Option.some Jvm.ClassFile.FieldType.int))
theorem emp140 : dk_mp (ey140, 3) 0 := ⟨⟨bW_of (dk_tw_mem (n := 4123) (by decide +kernel)) rfl, bW_of (dk_tw_mem (n := 1001) (by decide +kernel)) rfl, by decide +kernel, by decide +kernel, by decide, by decide +kernel, by decide +kernel⟩, fun _ => ⟨bW_of (dk_tw_mem (n := 4121) (by decide +kernel)) rfl, bW_of (dk_tw_mem (n := 4122) (by decide +kernel)) rfl⟩, (fun h => absurd h (by decide)), (fun h => absurd h (by decide))⟩
/-- SpanCopier.spoil(I)I -/
def ey141 : bY := (⟨"SpanCopier", "spoil", "(I)I"⟩, prog_1_method_16_code, (Option.some Jvm.ClassFile.FieldType.int))
theorem emp141 : dk_mp (ey141, 2) 0 := ⟨⟨bW_of (dk_tw_mem (n := 4131) (by decide +kernel)) rfl, bW_of (dk_tw_mem (n := 1001) (by decide +kernel)) rfl, by decide +kernel, by decide +kernel, by decide, by decide +kernel, by decide +kernel⟩, fun _ => ⟨bW_of (dk_tw_mem (n := 4129) (by decide +kernel)) rfl, bW_of (dk_tw_mem (n := 4130) (by decide +kernel)) rfl⟩, (fun h => absurd h (by decide)), (fun h => absurd h (by decide))⟩
/-- SpanCopier.prompt()I -/
def ey142 : bY := (⟨"SpanCopier", "prompt", "()I"⟩, prog_1_method_17_code, (Option.some Jvm.ClassFile.FieldType.int))
theorem emp142 : dk_mp (ey142, 1) 0 := ⟨⟨bW_of (dk_tw_mem (n := 4140) (by decide +kernel)) rfl, bW_of (dk_tw_mem (n := 1001) (by decide +kernel)) rfl, by decide +kernel, by decide +kernel, by decide, by decide +kernel, by decide +kernel⟩, fun _ => ⟨bW_of (dk_tw_mem (n := 4138) (by decide +kernel)) rfl, bW_of (dk_tw_mem (n := 4139) (by decide +kernel)) rfl⟩, (fun h => absurd h (by decide)), (fun h => absurd h (by decide))⟩
/-- SpanCopier.crash()I -/
def ey143 : bY := (⟨"SpanCopier", "crash", "()I"⟩, prog_1_method_18_code, (Option.some Jvm.ClassFile.FieldType.int))
theorem emp143 : dk_mp (ey143, 1) 0 := ⟨⟨bW_of (dk_tw_mem (n := 4150) (by decide +kernel)) rfl, bW_of (dk_tw_mem (n := 1001) (by decide +kernel)) rfl, by decide +kernel, by decide +kernel, by decide, by decide +kernel, by decide +kernel⟩, fun _ => ⟨bW_of (dk_tw_mem (n := 4148) (by decide +kernel)) rfl, bW_of (dk_tw_mem (n := 4149) (by decide +kernel)) rfl⟩, (fun h => absurd h (by decide)), (fun h => absurd h (by decide))⟩
/-- SpanCopier.undo()I -/
def ey144 : bY := (⟨"SpanCopier", "undo", "()I"⟩, prog_1_method_19_code, (Option.some Jvm.ClassFile.FieldType.int))
theorem emp144 : dk_mp (ey144, 2) 0 := ⟨⟨bW_of (dk_tw_mem (n := 4162) (by decide +kernel)) rfl, bW_of (dk_tw_mem (n := 1001) (by decide +kernel)) rfl, by decide +kernel, by decide +kernel, by decide, by decide +kernel, by decide +kernel⟩, fun _ => ⟨bW_of (dk_tw_mem (n := 4160) (by decide +kernel)) rfl, bW_of (dk_tw_mem (n := 4161) (by decide +kernel)) rfl⟩, (fun h => absurd h (by decide)), (fun h => absurd h (by decide))⟩
/-- SpanCopier.now(I)I -/
def ey145 : bY := (⟨"SpanCopier", "now", "(I)I"⟩, prog_1_method_20_code, (Option.some Jvm.ClassFile.FieldType.int))
theorem emp145 : dk_mp (ey145, 2) 0 := ⟨⟨bW_of (dk_tw_mem (n := 4166) (by decide +kernel)) rfl, bW_of (dk_tw_mem (n := 1001) (by decide +kernel)) rfl, by decide +kernel, by decide +kernel, by decide, by decide +kernel, by decide +kernel⟩, fun _ => ⟨bW_of (dk_tw_mem (n := 4164) (by decide +kernel)) rfl, bW_of (dk_tw_mem (n := 4165) (by decide +kernel)) rfl⟩, (fun h => absurd h (by decide)), (fun h => absurd h (by decide))⟩
/-- SpanCopier.span(III)I -/
def ey147 : bY := (⟨"SpanCopier", "span", "(III)I"⟩, prog_1_method_22_code, (Option.some Jvm.ClassFile.FieldType.int))
theorem emp147 : dk_mp (ey147, 6) 0 := ⟨⟨bW_of (dk_tw_mem (n := 4179) (by decide +kernel)) rfl, bW_of (dk_tw_mem (n := 1001) (by decide +kernel)) rfl, by decide +kernel, by decide +kernel, by decide, by decide +kernel, by decide +kernel⟩, fun _ => ⟨bW_of (dk_tw_mem (n := 4177) (by decide +kernel)) rfl, bW_of (dk_tw_mem (n := 4178) (by decide +kernel)) rfl⟩, (fun h => absurd h (by decide)), (fun h => absurd h (by decide))⟩
/-- SpanCopier.gap(II)I -/
def ey148 : bY := (⟨"SpanCopier", "gap", "(II)I"⟩, prog_1_method_23_code, (Option.some Jvm.ClassFile.FieldType.int))
theorem emp148 : dk_mp (ey148, 3) 0 := ⟨⟨bW_of (dk_tw_mem (n := 4187) (by decide +kernel)) rfl, bW_of (dk_tw_mem (n := 1001) (by decide +kernel)) rfl, by decide +kernel, by decide +kernel, by decide, by decide +kernel, by decide +kernel⟩, fun _ => ⟨bW_of (dk_tw_mem (n := 4185) (by decide +kernel)) rfl, bW_of (dk_tw_mem (n := 4186) (by decide +kernel)) rfl⟩, (fun h => absurd h (by decide)), (fun h => absurd h (by decide))⟩
/-- SpanCopier.resend(II)I -/
def ey149 : bY := (⟨"SpanCopier", "resend", "(II)I"⟩, prog_1_method_24_code, (Option.some Jvm.ClassFile.FieldType.int))
theorem emp149 : dk_mp (ey149, 3) 0 := ⟨⟨bW_of (dk_tw_mem (n := 4196) (by decide +kernel)) rfl, bW_of (dk_tw_mem (n := 1001) (by decide +kernel)) rfl, by decide +kernel, by decide +kernel, by decide, by decide +kernel, by decide +kernel⟩, fun _ => ⟨bW_of (dk_tw_mem (n := 4194) (by decide +kernel)) rfl, bW_of (dk_tw_mem (n := 4195) (by decide +kernel)) rfl⟩, (fun h => absurd h (by decide)), (fun h => absurd h (by decide))⟩
/-- SpanCopier.taken(I)I -/
def ey150 : bY := (⟨"SpanCopier", "taken", "(I)I"⟩, prog_1_method_25_code, (Option.some Jvm.ClassFile.FieldType.int))
theorem emp150 : dk_mp (ey150, 2) 0 := ⟨⟨bW_of (dk_tw_mem (n := 4200) (by decide +kernel)) rfl, bW_of (dk_tw_mem (n := 1001) (by decide +kernel)) rfl, by decide +kernel, by decide +kernel, by decide, by decide +kernel, by decide +kernel⟩, fun _ => ⟨bW_of (dk_tw_mem (n := 4198) (by decide +kernel)) rfl, bW_of (dk_tw_mem (n := 4199) (by decide +kernel)) rfl⟩, (fun h => absurd h (by decide)), (fun h => absurd h (by decide))⟩
