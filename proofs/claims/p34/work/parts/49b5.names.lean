/-- SpanCopierModel.readAct()Z -/
def ey202 : bY := (⟨"SpanCopierModel", "readAct", "()Z"⟩, prog_15_method_38_code, (Option.some Jvm.ClassFile.FieldType.boolean))
theorem emp202 : dk_mp (ey202, 3) 0 := ⟨⟨bW_of (dk_tw_mem (n := 7049) rfl) rfl, bW_of (dk_tw_mem (n := 1015) rfl) rfl, by decide +kernel, by decide +kernel, by decide, by decide +kernel, by decide +kernel⟩, fun _ => ⟨bW_of (dk_tw_mem (n := 7048) rfl) rfl, bW_of (dk_sel (j := 129) (n := _) (by rfl)) rfl⟩, (fun h => absurd h (by decide)), (fun h => absurd h (by decide))⟩
/-- SpanCopierModel.readLine()Z -/
def ey203 : bY := (⟨"SpanCopierModel", "readLine", "()Z"⟩, prog_15_method_39_code, (Option.some Jvm.ClassFile.FieldType.boolean))
theorem emp203 : dk_mp (ey203, 1) 0 := ⟨⟨bW_of (dk_tw_mem (n := 6226) rfl) rfl, bW_of (dk_tw_mem (n := 1015) rfl) rfl, by decide +kernel, by decide +kernel, by decide, by decide +kernel, by decide +kernel⟩, fun _ => ⟨bW_of (dk_tw_mem (n := 6225) rfl) rfl, bW_of (dk_sel (j := 117) (n := _) (by rfl)) rfl⟩, (fun h => absurd h (by decide)), (fun h => absurd h (by decide))⟩
/-- SpanCopierModel.keep(IZ)Z -/
def ey280 : bY := (⟨"SpanCopierModel", "keep", "(IZ)Z"⟩, prog_15_method_116_code, (Option.some Jvm.ClassFile.FieldType.boolean))
theorem emp280 : dk_mp (ey280, 3) 0 := ⟨⟨bW_of (dk_tw_mem (n := 8135) rfl) rfl, bW_of (dk_tw_mem (n := 1015) rfl) rfl, by decide +kernel, by decide +kernel, by decide, by decide +kernel, by decide +kernel⟩, fun _ => ⟨bW_of (dk_tw_mem (n := 8134) rfl) rfl, bW_of (dk_sel (j := 183) (n := _) (by rfl)) rfl⟩, (fun h => absurd h (by decide)), (fun h => absurd h (by decide))⟩
/-- SpanCopierModel.order()I -/
def ey204 : bY := (⟨"SpanCopierModel", "order", "()I"⟩, prog_15_method_40_code, (Option.some Jvm.ClassFile.FieldType.int))
theorem emp204 : dk_mp (ey204, 3) 0 := ⟨⟨bW_of (dk_tw_mem (n := 6198) rfl) rfl, bW_of (dk_tw_mem (n := 1015) rfl) rfl, by decide +kernel, by decide +kernel, by decide, by decide +kernel, by decide +kernel⟩, fun _ => ⟨bW_of (dk_tw_mem (n := 6196) rfl) rfl, bW_of (dk_tw_mem (n := 6197) rfl) rfl⟩, (fun h => absurd h (by decide)), (fun h => absurd h (by decide))⟩
/-- SpanCopierModel.atPlace(II)I -/
def ey206 : bY := (⟨"SpanCopierModel", "atPlace", "(II)I"⟩, prog_15_method_42_code, (Option.some Jvm.ClassFile.FieldType.int))
theorem emp206 : dk_mp (ey206, 2) 2 := ⟨⟨bW_of (dk_tw_mem (n := 7191) rfl) rfl, bW_of (dk_tw_mem (n := 1015) rfl) rfl, by decide +kernel, by decide +kernel, by decide, by decide +kernel, by decide +kernel⟩, (fun h => absurd h (by decide)), (fun h => absurd h (by decide)), fun _ => bW_of (dk_tw_mem (n := 7190) rfl) rfl⟩
/-- SpanCopierModel.fileSum()I -/
def ey207 : bY := (⟨"SpanCopierModel", "fileSum", "()I"⟩, prog_15_method_43_code, (Option.some Jvm.ClassFile.FieldType.int))
theorem emp207 : dk_mp (ey207, 3) 0 := ⟨⟨bW_of (dk_tw_mem (n := 7188) rfl) rfl, bW_of (dk_tw_mem (n := 1015) rfl) rfl, by decide +kernel, by decide +kernel, by decide, by decide +kernel, by decide +kernel⟩, fun _ => ⟨bW_of (dk_tw_mem (n := 7187) rfl) rfl, bW_of (dk_sel (j := 159) (n := _) (by rfl)) rfl⟩, (fun h => absurd h (by decide)), (fun h => absurd h (by decide))⟩
/-- SpanCopierModel.takenSum()I -/
def ey208 : bY := (⟨"SpanCopierModel", "takenSum", "()I"⟩, prog_15_method_44_code, (Option.some Jvm.ClassFile.FieldType.int))
theorem emp208 : dk_mp (ey208, 3) 0 := ⟨⟨bW_of (dk_tw_mem (n := 7203) rfl) rfl, bW_of (dk_tw_mem (n := 1015) rfl) rfl, by decide +kernel, by decide +kernel, by decide, by decide +kernel, by decide +kernel⟩, fun _ => ⟨bW_of (dk_tw_mem (n := 7202) rfl) rfl, bW_of (dk_sel (j := 162) (n := _) (by rfl)) rfl⟩, (fun h => absurd h (by decide)), (fun h => absurd h (by decide))⟩
/-- SpanCopierModel.isGap(I)Z -/
def ey209 : bY := (⟨"SpanCopierModel", "isGap", "(I)Z"⟩, prog_15_method_45_code, (Option.some Jvm.ClassFile.FieldType.boolean))
theorem emp209 : dk_mp (ey209, 2) 0 := ⟨⟨bW_of (dk_tw_mem (n := 7120) rfl) rfl, bW_of (dk_tw_mem (n := 1015) rfl) rfl, by decide +kernel, by decide +kernel, by decide, by decide +kernel, by decide +kernel⟩, fun _ => ⟨bW_of (dk_tw_mem (n := 7119) rfl) rfl, bW_of (dk_sel (j := 142) (n := _) (by rfl)) rfl⟩, (fun h => absurd h (by decide)), (fun h => absurd h (by decide))⟩
/-- SpanCopierModel.isMarked(II)Z -/
def ey210 : bY := (⟨"SpanCopierModel", "isMarked", "(II)Z"⟩, prog_15_method_46_code, (Option.some Jvm.ClassFile.FieldType.boolean))
theorem emp210 : dk_mp (ey210, 3) 0 := ⟨⟨bW_of (dk_tw_mem (n := 7144) rfl) rfl, bW_of (dk_tw_mem (n := 1015) rfl) rfl, by decide +kernel, by decide +kernel, by decide, by decide +kernel, by decide +kernel⟩, fun _ => ⟨bW_of (dk_tw_mem (n := 7143) rfl) rfl, bW_of (dk_sel (j := 148) (n := _) (by rfl)) rfl⟩, (fun h => absurd h (by decide)), (fun h => absurd h (by decide))⟩
/-- SpanCopierModel.nextMark(IIZ)I -/
def ey211 : bY := (⟨"SpanCopierModel", "nextMark", "(IIZ)I"⟩, prog_15_method_47_code, (Option.some Jvm.ClassFile.FieldType.int))
theorem emp211 : dk_mp (ey211, 5) 0 := ⟨⟨bW_of (dk_tw_mem (n := 7140) rfl) rfl, bW_of (dk_tw_mem (n := 1015) rfl) rfl, by decide +kernel, by decide +kernel, by decide, by decide +kernel, by decide +kernel⟩, fun _ => ⟨bW_of (dk_tw_mem (n := 7139) rfl) rfl, bW_of (dk_sel (j := 147) (n := _) (by rfl)) rfl⟩, (fun h => absurd h (by decide)), (fun h => absurd h (by decide))⟩
/-- SpanCopierModel.spanEnd(III)I -/
def ey213 : bY := (⟨"SpanCopierModel", "spanEnd", "(III)I"⟩, prog_15_method_49_code, (Option.some Jvm.ClassFile.FieldType.int))
theorem emp213 : dk_mp (ey213, 6) 0 := ⟨⟨bW_of (dk_tw_mem (n := 7152) rfl) rfl, bW_of (dk_tw_mem (n := 1015) rfl) rfl, by decide +kernel, by decide +kernel, by decide, by decide +kernel, by decide +kernel⟩, fun _ => ⟨bW_of (dk_tw_mem (n := 7151) rfl) rfl, bW_of (dk_sel (j := 150) (n := _) (by rfl)) rfl⟩, (fun h => absurd h (by decide)), (fun h => absurd h (by decide))⟩
/-- SpanCopierModel.unitAt(I)I -/
def ey214 : bY := (⟨"SpanCopierModel", "unitAt", "(I)I"⟩, prog_15_method_50_code, (Option.some Jvm.ClassFile.FieldType.int))
theorem emp214 : dk_mp (ey214, 2) 0 := ⟨⟨bW_of (dk_tw_mem (n := 7104) rfl) rfl, bW_of (dk_tw_mem (n := 1015) rfl) rfl, by decide +kernel, by decide +kernel, by decide, by decide +kernel, by decide +kernel⟩, fun _ => ⟨bW_of (dk_tw_mem (n := 7103) rfl) rfl, bW_of (dk_sel (j := 138) (n := _) (by rfl)) rfl⟩, (fun h => absurd h (by decide)), (fun h => absurd h (by decide))⟩
/-- SpanCopierModel.isUnit(I)Z -/
def ey215 : bY := (⟨"SpanCopierModel", "isUnit", "(I)Z"⟩, prog_15_method_51_code, (Option.some Jvm.ClassFile.FieldType.boolean))
theorem emp215 : dk_mp (ey215, 2) 0 := ⟨⟨bW_of (dk_tw_mem (n := 7231) rfl) rfl, bW_of (dk_tw_mem (n := 1015) rfl) rfl, by decide +kernel, by decide +kernel, by decide, by decide +kernel, by decide +kernel⟩, fun _ => ⟨bW_of (dk_tw_mem (n := 7230) rfl) rfl, bW_of (dk_sel (j := 168) (n := _) (by rfl)) rfl⟩, (fun h => absurd h (by decide)), (fun h => absurd h (by decide))⟩
/-- SpanCopierModel.sendEof()V -/
def ey218 : bY := (⟨"SpanCopierModel", "sendEof", "()V"⟩, prog_15_method_54_code, (Option.none : Option Jvm.ClassFile.FieldType))
theorem emp218 : dk_mp (ey218, 1) 0 := ⟨⟨bW_of (dk_tw_mem (n := 7184) rfl) rfl, bW_of (dk_tw_mem (n := 1015) rfl) rfl, by decide +kernel, by decide +kernel, by decide, by decide +kernel, by decide +kernel⟩, fun _ => ⟨bW_of (dk_tw_mem (n := 7183) rfl) rfl, bW_of (dk_sel (j := 158) (n := _) (by rfl)) rfl⟩, (fun h => absurd h (by decide)), (fun h => absurd h (by decide))⟩
/-- SpanCopierModel.dataComes()V -/
def ey223 : bY := (⟨"SpanCopierModel", "dataComes", "()V"⟩, prog_15_method_59_code, (Option.none : Option Jvm.ClassFile.FieldType))
theorem emp223 : dk_mp (ey223, 6) 0 := ⟨⟨bW_of (dk_tw_mem (n := 7116) rfl) rfl, bW_of (dk_tw_mem (n := 1015) rfl) rfl, by decide +kernel, by decide +kernel, by decide, by decide +kernel, by decide +kernel⟩, fun _ => ⟨bW_of (dk_tw_mem (n := 7115) rfl) rfl, bW_of (dk_sel (j := 141) (n := _) (by rfl)) rfl⟩, (fun h => absurd h (by decide)), (fun h => absurd h (by decide))⟩
/-- SpanCopierModel.eofComes()V -/
def ey224 : bY := (⟨"SpanCopierModel", "eofComes", "()V"⟩, prog_15_method_60_code, (Option.none : Option Jvm.ClassFile.FieldType))
theorem emp224 : dk_mp (ey224, 1) 0 := ⟨⟨bW_of (dk_tw_mem (n := 7132) rfl) rfl, bW_of (dk_tw_mem (n := 1015) rfl) rfl, by decide +kernel, by decide +kernel, by decide, by decide +kernel, by decide +kernel⟩, fun _ => ⟨bW_of (dk_tw_mem (n := 7131) rfl) rfl, bW_of (dk_sel (j := 145) (n := _) (by rfl)) rfl⟩, (fun h => absurd h (by decide)), (fun h => absurd h (by decide))⟩
/-- SpanCopierModel.isBusy()Z -/
def ey225 : bY := (⟨"SpanCopierModel", "isBusy", "()Z"⟩, prog_15_method_61_code, (Option.some Jvm.ClassFile.FieldType.boolean))
theorem emp225 : dk_mp (ey225, 1) 0 := ⟨⟨bW_of (dk_tw_mem (n := 7160) rfl) rfl, bW_of (dk_tw_mem (n := 1015) rfl) rfl, by decide +kernel, by decide +kernel, by decide, by decide +kernel, by decide +kernel⟩, fun _ => ⟨bW_of (dk_tw_mem (n := 7159) rfl) rfl, bW_of (dk_sel (j := 152) (n := _) (by rfl)) rfl⟩, (fun h => absurd h (by decide)), (fun h => absurd h (by decide))⟩
/-- SpanCopierModel.nakComes()V -/
def ey226 : bY := (⟨"SpanCopierModel", "nakComes", "()V"⟩, prog_15_method_62_code, (Option.none : Option Jvm.ClassFile.FieldType))
theorem emp226 : dk_mp (ey226, 3) 0 := ⟨⟨bW_of (dk_tw_mem (n := 7156) rfl) rfl, bW_of (dk_tw_mem (n := 1015) rfl) rfl, by decide +kernel, by decide +kernel, by decide, by decide +kernel, by decide +kernel⟩, fun _ => ⟨bW_of (dk_tw_mem (n := 7155) rfl) rfl, bW_of (dk_sel (j := 151) (n := _) (by rfl)) rfl⟩, (fun h => absurd h (by decide)), (fun h => absurd h (by decide))⟩
/-- SpanCopierModel.finComes()V -/
def ey227 : bY := (⟨"SpanCopierModel", "finComes", "()V"⟩, prog_15_method_63_code, (Option.none : Option Jvm.ClassFile.FieldType))
theorem emp227 : dk_mp (ey227, 1) 0 := ⟨⟨bW_of (dk_tw_mem (n := 7164) rfl) rfl, bW_of (dk_tw_mem (n := 1015) rfl) rfl, by decide +kernel, by decide +kernel, by decide, by decide +kernel, by decide +kernel⟩, fun _ => ⟨bW_of (dk_tw_mem (n := 7163) rfl) rfl, bW_of (dk_sel (j := 153) (n := _) (by rfl)) rfl⟩, (fun h => absurd h (by decide)), (fun h => absurd h (by decide))⟩
/-- SpanCopierModel.goesToTaker(I)Z -/
def ey222 : bY := (⟨"SpanCopierModel", "goesToTaker", "(I)Z"⟩, prog_15_method_58_code, (Option.some Jvm.ClassFile.FieldType.boolean))
theorem emp222 : dk_mp (ey222, 1) 2 := ⟨⟨bW_of (dk_tw_mem (n := 8042) rfl) rfl, bW_of (dk_tw_mem (n := 1015) rfl) rfl, by decide +kernel, by decide +kernel, by decide, by decide +kernel, by decide +kernel⟩, (fun h => absurd h (by decide)), (fun h => absurd h (by decide)), fun _ => bW_of (dk_tw_mem (n := 8041) rfl) rfl⟩
/-- SpanCopierModel.comes()V -/
def ey228 : bY := (⟨"SpanCopierModel", "comes", "()V"⟩, prog_15_method_64_code, (Option.none : Option Jvm.ClassFile.FieldType))
theorem emp228 : dk_mp (ey228, 1) 0 := ⟨⟨bW_of (dk_tw_mem (n := 7112) rfl) rfl, bW_of (dk_tw_mem (n := 1015) rfl) rfl, by decide +kernel, by decide +kernel, by decide, by decide +kernel, by decide +kernel⟩, fun _ => ⟨bW_of (dk_tw_mem (n := 7111) rfl) rfl, bW_of (dk_sel (j := 140) (n := _) (by rfl)) rfl⟩, (fun h => absurd h (by decide)), (fun h => absurd h (by decide))⟩
/-- SpanCopierModel.sendsAgain()V -/
def ey230 : bY := (⟨"SpanCopierModel", "sendsAgain", "()V"⟩, prog_15_method_66_code, (Option.none : Option Jvm.ClassFile.FieldType))
theorem emp230 : dk_mp (ey230, 4) 0 := ⟨⟨bW_of (dk_tw_mem (n := 7172) rfl) rfl, bW_of (dk_tw_mem (n := 1015) rfl) rfl, by decide +kernel, by decide +kernel, by decide, by decide +kernel, by decide +kernel⟩, fun _ => ⟨bW_of (dk_tw_mem (n := 7171) rfl) rfl, bW_of (dk_sel (j := 155) (n := _) (by rfl)) rfl⟩, (fun h => absurd h (by decide)), (fun h => absurd h (by decide))⟩
/-- SpanCopierModel.sendsOn()V -/
def ey231 : bY := (⟨"SpanCopierModel", "sendsOn", "()V"⟩, prog_15_method_67_code, (Option.none : Option Jvm.ClassFile.FieldType))
theorem emp231 : dk_mp (ey231, 2) 0 := ⟨⟨bW_of (dk_tw_mem (n := 7180) rfl) rfl, bW_of (dk_tw_mem (n := 1015) rfl) rfl, by decide +kernel, by decide +kernel, by decide, by decide +kernel, by decide +kernel⟩, fun _ => ⟨bW_of (dk_tw_mem (n := 7179) rfl) rfl, bW_of (dk_sel (j := 157) (n := _) (by rfl)) rfl⟩, (fun h => absurd h (by decide)), (fun h => absurd h (by decide))⟩
/-- SpanCopierModel.senderGoes()V -/
def ey232 : bY := (⟨"SpanCopierModel", "senderGoes", "()V"⟩, prog_15_method_68_code, (Option.none : Option Jvm.ClassFile.FieldType))
theorem emp232 : dk_mp (ey232, 2) 0 := ⟨⟨bW_of (dk_tw_mem (n := 7168) rfl) rfl, bW_of (dk_tw_mem (n := 1015) rfl) rfl, by decide +kernel, by decide +kernel, by decide, by decide +kernel, by decide +kernel⟩, fun _ => ⟨bW_of (dk_tw_mem (n := 7167) rfl) rfl, bW_of (dk_sel (j := 154) (n := _) (by rfl)) rfl⟩, (fun h => absurd h (by decide)), (fun h => absurd h (by decide))⟩
/-- SpanCopierModel.finishes(I)V -/
def ey233 : bY := (⟨"SpanCopierModel", "finishes", "(I)V"⟩, prog_15_method_69_code, (Option.none : Option Jvm.ClassFile.FieldType))
theorem emp233 : dk_mp (ey233, 2) 0 := ⟨⟨bW_of (dk_tw_mem (n := 7207) rfl) rfl, bW_of (dk_tw_mem (n := 1015) rfl) rfl, by decide +kernel, by decide +kernel, by decide, by decide +kernel, by decide +kernel⟩, fun _ => ⟨bW_of (dk_tw_mem (n := 7206) rfl) rfl, bW_of (dk_sel (j := 163) (n := _) (by rfl)) rfl⟩, (fun h => absurd h (by decide)), (fun h => absurd h (by decide))⟩
/-- SpanCopierModel.takes()V -/
def ey234 : bY := (⟨"SpanCopierModel", "takes", "()V"⟩, prog_15_method_70_code, (Option.none : Option Jvm.ClassFile.FieldType))
theorem emp234 : dk_mp (ey234, 1) 0 := ⟨⟨bW_of (dk_tw_mem (n := 7199) rfl) rfl, bW_of (dk_tw_mem (n := 1015) rfl) rfl, by decide +kernel, by decide +kernel, by decide, by decide +kernel, by decide +kernel⟩, fun _ => ⟨bW_of (dk_tw_mem (n := 7198) rfl) rfl, bW_of (dk_sel (j := 161) (n := _) (by rfl)) rfl⟩, (fun h => absurd h (by decide)), (fun h => absurd h (by decide))⟩
/-- SpanCopierModel.acts(I)Z -/
def ey235 : bY := (⟨"SpanCopierModel", "acts", "(I)Z"⟩, prog_15_method_71_code, (Option.some Jvm.ClassFile.FieldType.boolean))
theorem emp235 : dk_mp (ey235, 6) 0 := ⟨⟨bW_of (dk_tw_mem (n := 7219) rfl) rfl, bW_of (dk_tw_mem (n := 1015) rfl) rfl, by decide +kernel, by decide +kernel, by decide, by decide +kernel, by decide +kernel⟩, fun _ => ⟨bW_of (dk_tw_mem (n := 7218) rfl) rfl, bW_of (dk_sel (j := 166) (n := _) (by rfl)) rfl⟩, (fun h => absurd h (by decide)), (fun h => absurd h (by decide))⟩
/-- SpanCopierModel.hasStopped()Z -/
def ey236 : bY := (⟨"SpanCopierModel", "hasStopped", "()Z"⟩, prog_15_method_72_code, (Option.some Jvm.ClassFile.FieldType.boolean))
theorem emp236 : dk_mp (ey236, 2) 0 := ⟨⟨bW_of (dk_tw_mem (n := 7215) rfl) rfl, bW_of (dk_tw_mem (n := 1015) rfl) rfl, by decide +kernel, by decide +kernel, by decide, by decide +kernel, by decide +kernel⟩, fun _ => ⟨bW_of (dk_tw_mem (n := 7214) rfl) rfl, bW_of (dk_sel (j := 165) (n := _) (by rfl)) rfl⟩, (fun h => absurd h (by decide)), (fun h => absurd h (by decide))⟩
/-- SpanCopierModel.actsOn()V -/
def ey237 : bY := (⟨"SpanCopierModel", "actsOn", "()V"⟩, prog_15_method_73_code, (Option.none : Option Jvm.ClassFile.FieldType))
theorem emp237 : dk_mp (ey237, 2) 0 := ⟨⟨bW_of (dk_tw_mem (n := 7211) rfl) rfl, bW_of (dk_tw_mem (n := 1015) rfl) rfl, by decide +kernel, by decide +kernel, by decide, by decide +kernel, by decide +kernel⟩, fun _ => ⟨bW_of (dk_tw_mem (n := 7210) rfl) rfl, bW_of (dk_sel (j := 164) (n := _) (by rfl)) rfl⟩, (fun h => absurd h (by decide)), (fun h => absurd h (by decide))⟩
/-- SpanCopierModel.finishing()V -/
def ey238 : bY := (⟨"SpanCopierModel", "finishing", "()V"⟩, prog_15_method_74_code, (Option.none : Option Jvm.ClassFile.FieldType))
theorem emp238 : dk_mp (ey238, 1) 0 := ⟨⟨bW_of (dk_tw_mem (n := 7223) rfl) rfl, bW_of (dk_tw_mem (n := 1015) rfl) rfl, by decide +kernel, by decide +kernel, by decide, by decide +kernel, by decide +kernel⟩, fun _ => ⟨bW_of (dk_tw_mem (n := 7222) rfl) rfl, bW_of (dk_sel (j := 167) (n := _) (by rfl)) rfl⟩, (fun h => absurd h (by decide)), (fun h => absurd h (by decide))⟩
/-- SpanCopierModel.takerGoes()V -/
def ey239 : bY := (⟨"SpanCopierModel", "takerGoes", "()V"⟩, prog_15_method_75_code, (Option.none : Option Jvm.ClassFile.FieldType))
theorem emp239 : dk_mp (ey239, 1) 0 := ⟨⟨bW_of (dk_tw_mem (n := 7195) rfl) rfl, bW_of (dk_tw_mem (n := 1015) rfl) rfl, by decide +kernel, by decide +kernel, by decide, by decide +kernel, by decide +kernel⟩, fun _ => ⟨bW_of (dk_tw_mem (n := 7194) rfl) rfl, bW_of (dk_sel (j := 160) (n := _) (by rfl)) rfl⟩, (fun h => absurd h (by decide)), (fun h => absurd h (by decide))⟩
/-- SpanCopierModel.oneTick()V -/
def ey240 : bY := (⟨"SpanCopierModel", "oneTick", "()V"⟩, prog_15_method_76_code, (Option.none : Option Jvm.ClassFile.FieldType))
theorem emp240 : dk_mp (ey240, 1) 0 := ⟨⟨bW_of (dk_tw_mem (n := 7096) rfl) rfl, bW_of (dk_tw_mem (n := 1015) rfl) rfl, by decide +kernel, by decide +kernel, by decide, by decide +kernel, by decide +kernel⟩, fun _ => ⟨bW_of (dk_tw_mem (n := 7095) rfl) rfl, bW_of (dk_sel (j := 136) (n := _) (by rfl)) rfl⟩, (fun h => absurd h (by decide)), (fun h => absurd h (by decide))⟩
/-- SpanCopierModel.passTicks(I)I -/
def ey241 : bY := (⟨"SpanCopierModel", "passTicks", "(I)I"⟩, prog_15_method_77_code, (Option.some Jvm.ClassFile.FieldType.int))
theorem emp241 : dk_mp (ey241, 4) 0 := ⟨⟨bW_of (dk_tw_mem (n := 7089) rfl) rfl, bW_of (dk_tw_mem (n := 1015) rfl) rfl, by decide +kernel, by decide +kernel, by decide, by decide +kernel, by decide +kernel⟩, fun _ => ⟨bW_of (dk_tw_mem (n := 7088) rfl) rfl, bW_of (dk_sel (j := 135) (n := _) (by rfl)) rfl⟩, (fun h => absurd h (by decide)), (fun h => absurd h (by decide))⟩
/-- SpanCopierModel.undo()I -/
def ey245 : bY := (⟨"SpanCopierModel", "undo", "()I"⟩, prog_15_method_81_code, (Option.some Jvm.ClassFile.FieldType.int))
theorem emp245 : dk_mp (ey245, 1) 0 := ⟨⟨bW_of (dk_tw_mem (n := 7065) rfl) rfl, bW_of (dk_tw_mem (n := 1015) rfl) rfl, by decide +kernel, by decide +kernel, by decide, by decide +kernel, by decide +kernel⟩, fun _ => ⟨bW_of (dk_tw_mem (n := 7063) rfl) rfl, bW_of (dk_tw_mem (n := 7064) rfl) rfl⟩, (fun h => absurd h (by decide)), (fun h => absurd h (by decide))⟩
/-- SpanCopierModel.file()I -/
def ey246 : bY := (⟨"SpanCopierModel", "file", "()I"⟩, prog_15_method_82_code, (Option.some Jvm.ClassFile.FieldType.int))
theorem emp246 : dk_mp (ey246, 3) 0 := ⟨⟨bW_of (dk_tw_mem (n := 7073) rfl) rfl, bW_of (dk_tw_mem (n := 1015) rfl) rfl, by decide +kernel, by decide +kernel, by decide, by decide +kernel, by decide +kernel⟩, fun _ => ⟨bW_of (dk_tw_mem (n := 7071) rfl) rfl, bW_of (dk_tw_mem (n := 7072) rfl) rfl⟩, (fun h => absurd h (by decide)), (fun h => absurd h (by decide))⟩
/-- SpanCopierModel.ticks(I)I -/
def ey247 : bY := (⟨"SpanCopierModel", "ticks", "(I)I"⟩, prog_15_method_83_code, (Option.some Jvm.ClassFile.FieldType.int))
theorem emp247 : dk_mp (ey247, 2) 0 := ⟨⟨bW_of (dk_tw_mem (n := 7085) rfl) rfl, bW_of (dk_tw_mem (n := 1015) rfl) rfl, by decide +kernel, by decide +kernel, by decide, by decide +kernel, by decide +kernel⟩, fun _ => ⟨bW_of (dk_tw_mem (n := 7083) rfl) rfl, bW_of (dk_tw_mem (n := 7084) rfl) rfl⟩, (fun h => absurd h (by decide)), (fun h => absurd h (by decide))⟩
/-- SpanCopierModel.why(II)I -/
def ey248 : bY := (⟨"SpanCopierModel", "why", "(II)I"⟩, prog_15_method_84_code, (Option.some Jvm.ClassFile.FieldType.int))
theorem emp248 : dk_mp (ey248, 3) 0 := ⟨⟨bW_of (dk_tw_mem (n := 8003) rfl) rfl, bW_of (dk_tw_mem (n := 1015) rfl) rfl, by decide +kernel, by decide +kernel, by decide, by decide +kernel, by decide +kernel⟩, fun _ => ⟨bW_of (dk_tw_mem (n := 8002) rfl) rfl, bW_of (dk_sel (j := 171) (n := _) (by rfl)) rfl⟩, (fun h => absurd h (by decide)), (fun h => absurd h (by decide))⟩
/-- SpanCopierModel.whySpoil(I)I -/
def ey249 : bY := (⟨"SpanCopierModel", "whySpoil", "(I)I"⟩, prog_15_method_85_code, (Option.some Jvm.ClassFile.FieldType.int))
theorem emp249 : dk_mp (ey249, 2) 0 := ⟨⟨bW_of (dk_tw_mem (n := 7239) rfl) rfl, bW_of (dk_tw_mem (n := 1015) rfl) rfl, by decide +kernel, by decide +kernel, by decide, by decide +kernel, by decide +kernel⟩, fun _ => ⟨bW_of (dk_tw_mem (n := 7238) rfl) rfl, bW_of (dk_sel (j := 170) (n := _) (by rfl)) rfl⟩, (fun h => absurd h (by decide)), (fun h => absurd h (by decide))⟩
/-- SpanCopierModel.act(IIIZ)I -/
def ey251 : bY := (⟨"SpanCopierModel", "act", "(IIIZ)I"⟩, prog_15_method_87_code, (Option.some Jvm.ClassFile.FieldType.int))
theorem emp251 : dk_mp (ey251, 6) 0 := ⟨⟨bW_of (dk_tw_mem (n := 7235) rfl) rfl, bW_of (dk_tw_mem (n := 1015) rfl) rfl, by decide +kernel, by decide +kernel, by decide, by decide +kernel, by decide +kernel⟩, fun _ => ⟨bW_of (dk_tw_mem (n := 7234) rfl) rfl, bW_of (dk_sel (j := 169) (n := _) (by rfl)) rfl⟩, (fun h => absurd h (by decide)), (fun h => absurd h (by decide))⟩
/-- SpanCopierModel.lose(I)I -/
def ey252 : bY := (⟨"SpanCopierModel", "lose", "(I)I"⟩, prog_15_method_88_code, (Option.some Jvm.ClassFile.FieldType.int))
theorem emp252 : dk_mp (ey252, 2) 0 := ⟨⟨bW_of (dk_tw_mem (n := 7227) rfl) rfl, bW_of (dk_tw_mem (n := 1015) rfl) rfl, by decide +kernel, by decide +kernel, by decide, by decide +kernel, by decide +kernel⟩, fun _ => ⟨bW_of (dk_tw_mem (n := 7225) rfl) rfl, bW_of (dk_tw_mem (n := 7226) rfl) rfl⟩, (fun h => absurd h (by decide)), (fun h => absurd h (by decide))⟩
