/-- SpanCopierModel.oneTick()V -/
def ey240 : bY := (⟨"SpanCopierModel", "oneTick", "()V"⟩, prog_15_method_76_code, (Option.none : Option Jvm.ClassFile.FieldType))
theorem emp240 : dk_mp (ey240, 1) 0 := ⟨⟨bW_of (dk_tw_mem (n := 7096) (by decide +kernel)) rfl, bW_of (dk_tw_mem (n := 1015) (by decide +kernel)) rfl, by decide +kernel, by decide +kernel, by decide, by decide +kernel, by decide +kernel⟩, fun _ => ⟨bW_of (dk_tw_mem (n := 7095) (by decide +kernel)) rfl, bW_of (dk_sel (j := 136) (n := _) (by rfl)) rfl⟩, (fun h => absurd h (by decide)), (fun h => absurd h (by decide))⟩
/-- SpanCopierModel.passTicks(I)I -/
def ey241 : bY := (⟨"SpanCopierModel", "passTicks", "(I)I"⟩, prog_15_method_77_code, (Option.some Jvm.ClassFile.FieldType.int))
theorem emp241 : dk_mp (ey241, 4) 0 := ⟨⟨bW_of (dk_tw_mem (n := 7089) (by decide +kernel)) rfl, bW_of (dk_tw_mem (n := 1015) (by decide +kernel)) rfl, by decide +kernel, by decide +kernel, by decide, by decide +kernel, by decide +kernel⟩, fun _ => ⟨bW_of (dk_tw_mem (n := 7088) (by decide +kernel)) rfl, bW_of (dk_sel (j := 135) (n := _) (by rfl)) rfl⟩, (fun h => absurd h (by decide)), (fun h => absurd h (by decide))⟩
/-- SpanCopierModel.undo()I -/
def ey245 : bY := (⟨"SpanCopierModel", "undo", "()I"⟩, prog_15_method_81_code, (Option.some Jvm.ClassFile.FieldType.int))
theorem emp245 : dk_mp (ey245, 1) 0 := ⟨⟨bW_of (dk_tw_mem (n := 7065) (by decide +kernel)) rfl, bW_of (dk_tw_mem (n := 1015) (by decide +kernel)) rfl, by decide +kernel, by decide +kernel, by decide, by decide +kernel, by decide +kernel⟩, fun _ => ⟨bW_of (dk_tw_mem (n := 7063) (by decide +kernel)) rfl, bW_of (dk_tw_mem (n := 7064) (by decide +kernel)) rfl⟩, (fun h => absurd h (by decide)), (fun h => absurd h (by decide))⟩
/-- SpanCopierModel.file()I -/
def ey246 : bY := (⟨"SpanCopierModel", "file", "()I"⟩, prog_15_method_82_code, (Option.some Jvm.ClassFile.FieldType.int))
theorem emp246 : dk_mp (ey246, 3) 0 := ⟨⟨bW_of (dk_tw_mem (n := 7073) (by decide +kernel)) rfl, bW_of (dk_tw_mem (n := 1015) (by decide +kernel)) rfl, by decide +kernel, by decide +kernel, by decide, by decide +kernel, by decide +kernel⟩, fun _ => ⟨bW_of (dk_tw_mem (n := 7071) (by decide +kernel)) rfl, bW_of (dk_tw_mem (n := 7072) (by decide +kernel)) rfl⟩, (fun h => absurd h (by decide)), (fun h => absurd h (by decide))⟩
/-- SpanCopierModel.ticks(I)I -/
def ey247 : bY := (⟨"SpanCopierModel", "ticks", "(I)I"⟩, prog_15_method_83_code, (Option.some Jvm.ClassFile.FieldType.int))
theorem emp247 : dk_mp (ey247, 2) 0 := ⟨⟨bW_of (dk_tw_mem (n := 7085) (by decide +kernel)) rfl, bW_of (dk_tw_mem (n := 1015) (by decide +kernel)) rfl, by decide +kernel, by decide +kernel, by decide, by decide +kernel, by decide +kernel⟩, fun _ => ⟨bW_of (dk_tw_mem (n := 7083) (by decide +kernel)) rfl, bW_of (dk_tw_mem (n := 7084) (by decide +kernel)) rfl⟩, (fun h => absurd h (by decide)), (fun h => absurd h (by decide))⟩
/-- SpanCopierModel.why(II)I -/
def ey248 : bY := (⟨"SpanCopierModel", "why", "(II)I"⟩, prog_15_method_84_code, (Option.some Jvm.ClassFile.FieldType.int))
theorem emp248 : dk_mp (ey248, 3) 0 := ⟨⟨bW_of (dk_tw_mem (n := 8003) (by decide +kernel)) rfl, bW_of (dk_tw_mem (n := 1015) (by decide +kernel)) rfl, by decide +kernel, by decide +kernel, by decide, by decide +kernel, by decide +kernel⟩, fun _ => ⟨bW_of (dk_tw_mem (n := 8002) (by decide +kernel)) rfl, bW_of (dk_sel (j := 171) (n := _) (by rfl)) rfl⟩, (fun h => absurd h (by decide)), (fun h => absurd h (by decide))⟩
/-- SpanCopierModel.whySpoil(I)I -/
def ey249 : bY := (⟨"SpanCopierModel", "whySpoil", "(I)I"⟩, prog_15_method_85_code, (Option.some Jvm.ClassFile.FieldType.int))
theorem emp249 : dk_mp (ey249, 2) 0 := ⟨⟨bW_of (dk_tw_mem (n := 7239) (by decide +kernel)) rfl, bW_of (dk_tw_mem (n := 1015) (by decide +kernel)) rfl, by decide +kernel, by decide +kernel, by decide, by decide +kernel, by decide +kernel⟩, fun _ => ⟨bW_of (dk_tw_mem (n := 7238) (by decide +kernel)) rfl, bW_of (dk_sel (j := 170) (n := _) (by rfl)) rfl⟩, (fun h => absurd h (by decide)), (fun h => absurd h (by decide))⟩
/-- SpanCopierModel.act(IIIZ)I -/
def ey251 : bY := (⟨"SpanCopierModel", "act", "(IIIZ)I"⟩, prog_15_method_87_code, (Option.some Jvm.ClassFile.FieldType.int))
theorem emp251 : dk_mp (ey251, 6) 0 := ⟨⟨bW_of (dk_tw_mem (n := 7235) (by decide +kernel)) rfl, bW_of (dk_tw_mem (n := 1015) (by decide +kernel)) rfl, by decide +kernel, by decide +kernel, by decide, by decide +kernel, by decide +kernel⟩, fun _ => ⟨bW_of (dk_tw_mem (n := 7234) (by decide +kernel)) rfl, bW_of (dk_sel (j := 169) (n := _) (by rfl)) rfl⟩, (fun h => absurd h (by decide)), (fun h => absurd h (by decide))⟩
/-- SpanCopierModel.lose(I)I -/
def ey252 : bY := (⟨"SpanCopierModel", "lose", "(I)I"⟩, prog_15_method_88_code, (Option.some Jvm.ClassFile.FieldType.int))
theorem emp252 : dk_mp (ey252, 2) 0 := ⟨⟨bW_of (dk_tw_mem (n := 7227) (by decide +kernel)) rfl, bW_of (dk_tw_mem (n := 1015) (by decide +kernel)) rfl, by decide +kernel, by decide +kernel, by decide, by decide +kernel, by decide +kernel⟩, fun _ => ⟨bW_of (dk_tw_mem (n := 7225) (by decide +kernel)) rfl, bW_of (dk_tw_mem (n := 7226) (by decide +kernel)) rfl⟩, (fun h => absurd h (by decide)), (fun h => absurd h (by decide))⟩
/-- SpanCopierModel.twice(I)I -/
def ey253 : bY := (⟨"SpanCopierModel", "twice", "(I)I"⟩, prog_15_method_89_code, (Option.some Jvm.ClassFile.FieldType.int))
theorem emp253 : dk_mp (ey253, 2) 0 := ⟨⟨bW_of (dk_tw_mem (n := 8011) (by decide +kernel)) rfl, bW_of (dk_tw_mem (n := 1015) (by decide +kernel)) rfl, by decide +kernel, by decide +kernel, by decide, by decide +kernel, by decide +kernel⟩, fun _ => ⟨bW_of (dk_tw_mem (n := 8009) (by decide +kernel)) rfl, bW_of (dk_tw_mem (n := 8010) (by decide +kernel)) rfl⟩, (fun h => absurd h (by decide)), (fun h => absurd h (by decide))⟩
/-- SpanCopierModel.late(II)I -/
def ey254 : bY := (⟨"SpanCopierModel", "late", "(II)I"⟩, prog_15_method_90_code, (Option.some Jvm.ClassFile.FieldType.int))
theorem emp254 : dk_mp (ey254, 3) 0 := ⟨⟨bW_of (dk_tw_mem (n := 8015) (by decide +kernel)) rfl, bW_of (dk_tw_mem (n := 1015) (by decide +kernel)) rfl, by decide +kernel, by decide +kernel, by decide, by decide +kernel, by decide +kernel⟩, fun _ => ⟨bW_of (dk_tw_mem (n := 8013) (by decide +kernel)) rfl, bW_of (dk_tw_mem (n := 8014) (by decide +kernel)) rfl⟩, (fun h => absurd h (by decide)), (fun h => absurd h (by decide))⟩
/-- SpanCopierModel.spoil(I)I -/
def ey255 : bY := (⟨"SpanCopierModel", "spoil", "(I)I"⟩, prog_15_method_91_code, (Option.some Jvm.ClassFile.FieldType.int))
theorem emp255 : dk_mp (ey255, 2) 0 := ⟨⟨bW_of (dk_tw_mem (n := 8019) (by decide +kernel)) rfl, bW_of (dk_tw_mem (n := 1015) (by decide +kernel)) rfl, by decide +kernel, by decide +kernel, by decide, by decide +kernel, by decide +kernel⟩, fun _ => ⟨bW_of (dk_tw_mem (n := 8017) (by decide +kernel)) rfl, bW_of (dk_tw_mem (n := 8018) (by decide +kernel)) rfl⟩, (fun h => absurd h (by decide)), (fun h => absurd h (by decide))⟩
/-- SpanCopierModel.prompt()I -/
def ey256 : bY := (⟨"SpanCopierModel", "prompt", "()I"⟩, prog_15_method_92_code, (Option.some Jvm.ClassFile.FieldType.int))
theorem emp256 : dk_mp (ey256, 1) 0 := ⟨⟨bW_of (dk_tw_mem (n := 8023) (by decide +kernel)) rfl, bW_of (dk_tw_mem (n := 1015) (by decide +kernel)) rfl, by decide +kernel, by decide +kernel, by decide, by decide +kernel, by decide +kernel⟩, fun _ => ⟨bW_of (dk_tw_mem (n := 8021) (by decide +kernel)) rfl, bW_of (dk_tw_mem (n := 8022) (by decide +kernel)) rfl⟩, (fun h => absurd h (by decide)), (fun h => absurd h (by decide))⟩
/-- SpanCopierModel.crash()I -/
def ey257 : bY := (⟨"SpanCopierModel", "crash", "()I"⟩, prog_15_method_93_code, (Option.some Jvm.ClassFile.FieldType.int))
theorem emp257 : dk_mp (ey257, 1) 0 := ⟨⟨bW_of (dk_tw_mem (n := 8027) (by decide +kernel)) rfl, bW_of (dk_tw_mem (n := 1015) (by decide +kernel)) rfl, by decide +kernel, by decide +kernel, by decide, by decide +kernel, by decide +kernel⟩, fun _ => ⟨bW_of (dk_tw_mem (n := 8025) (by decide +kernel)) rfl, bW_of (dk_tw_mem (n := 8026) (by decide +kernel)) rfl⟩, (fun h => absurd h (by decide)), (fun h => absurd h (by decide))⟩
/-- SpanCopierModel.now(I)I -/
def ey258 : bY := (⟨"SpanCopierModel", "now", "(I)I"⟩, prog_15_method_94_code, (Option.some Jvm.ClassFile.FieldType.int))
theorem emp258 : dk_mp (ey258, 2) 0 := ⟨⟨bW_of (dk_tw_mem (n := 8031) (by decide +kernel)) rfl, bW_of (dk_tw_mem (n := 1015) (by decide +kernel)) rfl, by decide +kernel, by decide +kernel, by decide, by decide +kernel, by decide +kernel⟩, fun _ => ⟨bW_of (dk_tw_mem (n := 8029) (by decide +kernel)) rfl, bW_of (dk_tw_mem (n := 8030) (by decide +kernel)) rfl⟩, (fun h => absurd h (by decide)), (fun h => absurd h (by decide))⟩
/-- SpanCopierModel.dataOf(II)I -/
def ey259 : bY := (⟨"SpanCopierModel", "dataOf", "(II)I"⟩, prog_15_method_95_code, (Option.some Jvm.ClassFile.FieldType.int))
theorem emp259 : dk_mp (ey259, 3) 0 := ⟨⟨bW_of (dk_tw_mem (n := 8050) (by decide +kernel)) rfl, bW_of (dk_tw_mem (n := 1015) (by decide +kernel)) rfl, by decide +kernel, by decide +kernel, by decide, by decide +kernel, by decide +kernel⟩, fun _ => ⟨bW_of (dk_tw_mem (n := 8049) (by decide +kernel)) rfl, bW_of (dk_sel (j := 175) (n := _) (by rfl)) rfl⟩, (fun h => absurd h (by decide)), (fun h => absurd h (by decide))⟩
/-- SpanCopierModel.firstOf(I)I -/
def ey260 : bY := (⟨"SpanCopierModel", "firstOf", "(I)I"⟩, prog_15_method_96_code, (Option.some Jvm.ClassFile.FieldType.int))
theorem emp260 : dk_mp (ey260, 3) 0 := ⟨⟨bW_of (dk_tw_mem (n := 8046) (by decide +kernel)) rfl, bW_of (dk_tw_mem (n := 1015) (by decide +kernel)) rfl, by decide +kernel, by decide +kernel, by decide, by decide +kernel, by decide +kernel⟩, fun _ => ⟨bW_of (dk_tw_mem (n := 8045) (by decide +kernel)) rfl, bW_of (dk_sel (j := 174) (n := _) (by rfl)) rfl⟩, (fun h => absurd h (by decide)), (fun h => absurd h (by decide))⟩
/-- SpanCopierModel.unit(II)I -/
def ey261 : bY := (⟨"SpanCopierModel", "unit", "(II)I"⟩, prog_15_method_97_code, (Option.some Jvm.ClassFile.FieldType.int))
theorem emp261 : dk_mp (ey261, 3) 0 := ⟨⟨bW_of (dk_tw_mem (n := 8035) (by decide +kernel)) rfl, bW_of (dk_tw_mem (n := 1015) (by decide +kernel)) rfl, by decide +kernel, by decide +kernel, by decide, by decide +kernel, by decide +kernel⟩, fun _ => ⟨bW_of (dk_tw_mem (n := 8033) (by decide +kernel)) rfl, bW_of (dk_tw_mem (n := 8034) (by decide +kernel)) rfl⟩, (fun h => absurd h (by decide)), (fun h => absurd h (by decide))⟩
/-- SpanCopierModel.gap(II)I -/
def ey263 : bY := (⟨"SpanCopierModel", "gap", "(II)I"⟩, prog_15_method_99_code, (Option.some Jvm.ClassFile.FieldType.int))
theorem emp263 : dk_mp (ey263, 3) 0 := ⟨⟨bW_of (dk_tw_mem (n := 8058) (by decide +kernel)) rfl, bW_of (dk_tw_mem (n := 1015) (by decide +kernel)) rfl, by decide +kernel, by decide +kernel, by decide, by decide +kernel, by decide +kernel⟩, fun _ => ⟨bW_of (dk_tw_mem (n := 8056) (by decide +kernel)) rfl, bW_of (dk_tw_mem (n := 8057) (by decide +kernel)) rfl⟩, (fun h => absurd h (by decide)), (fun h => absurd h (by decide))⟩
/-- SpanCopierModel.resend(II)I -/
def ey264 : bY := (⟨"SpanCopierModel", "resend", "(II)I"⟩, prog_15_method_100_code, (Option.some Jvm.ClassFile.FieldType.int))
theorem emp264 : dk_mp (ey264, 3) 0 := ⟨⟨bW_of (dk_tw_mem (n := 8062) (by decide +kernel)) rfl, bW_of (dk_tw_mem (n := 1015) (by decide +kernel)) rfl, by decide +kernel, by decide +kernel, by decide, by decide +kernel, by decide +kernel⟩, fun _ => ⟨bW_of (dk_tw_mem (n := 8060) (by decide +kernel)) rfl, bW_of (dk_tw_mem (n := 8061) (by decide +kernel)) rfl⟩, (fun h => absurd h (by decide)), (fun h => absurd h (by decide))⟩
/-- SpanCopierModel.taken(I)I -/
def ey265 : bY := (⟨"SpanCopierModel", "taken", "(I)I"⟩, prog_15_method_101_code, (Option.some Jvm.ClassFile.FieldType.int))
theorem emp265 : dk_mp (ey265, 2) 0 := ⟨⟨bW_of (dk_tw_mem (n := 8066) (by decide +kernel)) rfl, bW_of (dk_tw_mem (n := 1015) (by decide +kernel)) rfl, by decide +kernel, by decide +kernel, by decide, by decide +kernel, by decide +kernel⟩, fun _ => ⟨bW_of (dk_tw_mem (n := 8064) (by decide +kernel)) rfl, bW_of (dk_tw_mem (n := 8065) (by decide +kernel)) rfl⟩, (fun h => absurd h (by decide)), (fun h => absurd h (by decide))⟩
/-- SpanCopierModel.sum(I)I -/
def ey266 : bY := (⟨"SpanCopierModel", "sum", "(I)I"⟩, prog_15_method_102_code, (Option.some Jvm.ClassFile.FieldType.int))
theorem emp266 : dk_mp (ey266, 2) 0 := ⟨⟨bW_of (dk_tw_mem (n := 8070) (by decide +kernel)) rfl, bW_of (dk_tw_mem (n := 1015) (by decide +kernel)) rfl, by decide +kernel, by decide +kernel, by decide, by decide +kernel, by decide +kernel⟩, fun _ => ⟨bW_of (dk_tw_mem (n := 8068) (by decide +kernel)) rfl, bW_of (dk_tw_mem (n := 8069) (by decide +kernel)) rfl⟩, (fun h => absurd h (by decide)), (fun h => absurd h (by decide))⟩
/-- SpanCopierModel.store()I -/
def ey267 : bY := (⟨"SpanCopierModel", "store", "()I"⟩, prog_15_method_103_code, (Option.some Jvm.ClassFile.FieldType.int))
theorem emp267 : dk_mp (ey267, 1) 0 := ⟨⟨bW_of (dk_tw_mem (n := 8074) (by decide +kernel)) rfl, bW_of (dk_tw_mem (n := 1015) (by decide +kernel)) rfl, by decide +kernel, by decide +kernel, by decide, by decide +kernel, by decide +kernel⟩, fun _ => ⟨bW_of (dk_tw_mem (n := 8072) (by decide +kernel)) rfl, bW_of (dk_tw_mem (n := 8073) (by decide +kernel)) rfl⟩, (fun h => absurd h (by decide)), (fun h => absurd h (by decide))⟩
/-- SpanCopierModel.journal(I)I -/
def ey268 : bY := (⟨"SpanCopierModel", "journal", "(I)I"⟩, prog_15_method_104_code, (Option.some Jvm.ClassFile.FieldType.int))
theorem emp268 : dk_mp (ey268, 2) 0 := ⟨⟨bW_of (dk_tw_mem (n := 8078) (by decide +kernel)) rfl, bW_of (dk_tw_mem (n := 1015) (by decide +kernel)) rfl, by decide +kernel, by decide +kernel, by decide, by decide +kernel, by decide +kernel⟩, fun _ => ⟨bW_of (dk_tw_mem (n := 8076) (by decide +kernel)) rfl, bW_of (dk_tw_mem (n := 8077) (by decide +kernel)) rfl⟩, (fun h => absurd h (by decide)), (fun h => absurd h (by decide))⟩
/-- SpanCopierModel.isOver()Z -/
def ey270 : bY := (⟨"SpanCopierModel", "isOver", "()Z"⟩, prog_15_method_106_code, (Option.some Jvm.ClassFile.FieldType.boolean))
theorem emp270 : dk_mp (ey270, 1) 0 := ⟨⟨bW_of (dk_tw_mem (n := 8090) (by decide +kernel)) rfl, bW_of (dk_tw_mem (n := 1015) (by decide +kernel)) rfl, by decide +kernel, by decide +kernel, by decide, by decide +kernel, by decide +kernel⟩, fun _ => ⟨bW_of (dk_tw_mem (n := 8089) (by decide +kernel)) rfl, bW_of (dk_sel (j := 176) (n := _) (by rfl)) rfl⟩, (fun h => absurd h (by decide)), (fun h => absurd h (by decide))⟩
/-- SpanCopierModel.over()I -/
def ey271 : bY := (⟨"SpanCopierModel", "over", "()I"⟩, prog_15_method_107_code, (Option.some Jvm.ClassFile.FieldType.int))
theorem emp271 : dk_mp (ey271, 3) 0 := ⟨⟨bW_of (dk_tw_mem (n := 8086) (by decide +kernel)) rfl, bW_of (dk_tw_mem (n := 1015) (by decide +kernel)) rfl, by decide +kernel, by decide +kernel, by decide, by decide +kernel, by decide +kernel⟩, fun _ => ⟨bW_of (dk_tw_mem (n := 8084) (by decide +kernel)) rfl, bW_of (dk_tw_mem (n := 8085) (by decide +kernel)) rfl⟩, (fun h => absurd h (by decide)), (fun h => absurd h (by decide))⟩
/-- SpanCopierModel.overAs(I)I -/
def ey272 : bY := (⟨"SpanCopierModel", "overAs", "(I)I"⟩, prog_15_method_108_code, (Option.some Jvm.ClassFile.FieldType.int))
theorem emp272 : dk_mp (ey272, 2) 0 := ⟨⟨bW_of (dk_tw_mem (n := 8094) (by decide +kernel)) rfl, bW_of (dk_tw_mem (n := 1015) (by decide +kernel)) rfl, by decide +kernel, by decide +kernel, by decide, by decide +kernel, by decide +kernel⟩, fun _ => ⟨bW_of (dk_tw_mem (n := 8092) (by decide +kernel)) rfl, bW_of (dk_tw_mem (n := 8093) (by decide +kernel)) rfl⟩, (fun h => absurd h (by decide)), (fun h => absurd h (by decide))⟩
/-- SpanCopierModel.draw(I)I -/
def ey273 : bY := (⟨"SpanCopierModel", "draw", "(I)I"⟩, prog_15_method_109_code, (Option.some Jvm.ClassFile.FieldType.int))
theorem emp273 : dk_mp (ey273, 2) 0 := ⟨⟨bW_of (dk_tw_mem (n := 8110) (by decide +kernel)) rfl, bW_of (dk_tw_mem (n := 1015) (by decide +kernel)) rfl, by decide +kernel, by decide +kernel, by decide, by decide +kernel, by decide +kernel⟩, fun _ => ⟨bW_of (dk_tw_mem (n := 8109) (by decide +kernel)) rfl, bW_of (dk_sel (j := 179) (n := _) (by rfl)) rfl⟩, (fun h => absurd h (by decide)), (fun h => absurd h (by decide))⟩
/-- SpanCopierModel.doIf(III)V -/
def ey274 : bY := (⟨"SpanCopierModel", "doIf", "(III)V"⟩, prog_15_method_110_code, (Option.none : Option Jvm.ClassFile.FieldType))
theorem emp274 : dk_mp (ey274, 4) 0 := ⟨⟨bW_of (dk_tw_mem (n := 8119) (by decide +kernel)) rfl, bW_of (dk_tw_mem (n := 1015) (by decide +kernel)) rfl, by decide +kernel, by decide +kernel, by decide, by decide +kernel, by decide +kernel⟩, fun _ => ⟨bW_of (dk_tw_mem (n := 8118) (by decide +kernel)) rfl, bW_of (dk_sel (j := 181) (n := _) (by rfl)) rfl⟩, (fun h => absurd h (by decide)), (fun h => absurd h (by decide))⟩
/-- SpanCopierModel.drawsUnit(I)V -/
def ey275 : bY := (⟨"SpanCopierModel", "drawsUnit", "(I)V"⟩, prog_15_method_111_code, (Option.none : Option Jvm.ClassFile.FieldType))
theorem emp275 : dk_mp (ey275, 3) 0 := ⟨⟨bW_of (dk_tw_mem (n := 8115) (by decide +kernel)) rfl, bW_of (dk_tw_mem (n := 1015) (by decide +kernel)) rfl, by decide +kernel, by decide +kernel, by decide, by decide +kernel, by decide +kernel⟩, fun _ => ⟨bW_of (dk_tw_mem (n := 8114) (by decide +kernel)) rfl, bW_of (dk_sel (j := 180) (n := _) (by rfl)) rfl⟩, (fun h => absurd h (by decide)), (fun h => absurd h (by decide))⟩
/-- SpanCopierModel.drawsFirst()V -/
def ey276 : bY := (⟨"SpanCopierModel", "drawsFirst", "()V"⟩, prog_15_method_112_code, (Option.none : Option Jvm.ClassFile.FieldType))
theorem emp276 : dk_mp (ey276, 2) 0 := ⟨⟨bW_of (dk_tw_mem (n := 8106) (by decide +kernel)) rfl, bW_of (dk_tw_mem (n := 1015) (by decide +kernel)) rfl, by decide +kernel, by decide +kernel, by decide, by decide +kernel, by decide +kernel⟩, fun _ => ⟨bW_of (dk_tw_mem (n := 8105) (by decide +kernel)) rfl, bW_of (dk_sel (j := 178) (n := _) (by rfl)) rfl⟩, (fun h => absurd h (by decide)), (fun h => absurd h (by decide))⟩
/-- SpanCopierModel.drawTicks(II)I -/
def ey277 : bY := (⟨"SpanCopierModel", "drawTicks", "(II)I"⟩, prog_15_method_113_code, (Option.some Jvm.ClassFile.FieldType.int))
theorem emp277 : dk_mp (ey277, 5) 0 := ⟨⟨bW_of (dk_tw_mem (n := 8102) (by decide +kernel)) rfl, bW_of (dk_tw_mem (n := 1015) (by decide +kernel)) rfl, by decide +kernel, by decide +kernel, by decide, by decide +kernel, by decide +kernel⟩, fun _ => ⟨bW_of (dk_tw_mem (n := 8101) (by decide +kernel)) rfl, bW_of (dk_sel (j := 177) (n := _) (by rfl)) rfl⟩, (fun h => absurd h (by decide)), (fun h => absurd h (by decide))⟩
/-- SpanCopierModel.drawn(II)I -/
def ey278 : bY := (⟨"SpanCopierModel", "drawn", "(II)I"⟩, prog_15_method_114_code, (Option.some Jvm.ClassFile.FieldType.int))
theorem emp278 : dk_mp (ey278, 3) 0 := ⟨⟨bW_of (dk_tw_mem (n := 8098) (by decide +kernel)) rfl, bW_of (dk_tw_mem (n := 1015) (by decide +kernel)) rfl, by decide +kernel, by decide +kernel, by decide, by decide +kernel, by decide +kernel⟩, fun _ => ⟨bW_of (dk_tw_mem (n := 8096) (by decide +kernel)) rfl, bW_of (dk_tw_mem (n := 8097) (by decide +kernel)) rfl⟩, (fun h => absurd h (by decide)), (fun h => absurd h (by decide))⟩
/-- SpanCopierModel.odds(II)I -/
def ey279 : bY := (⟨"SpanCopierModel", "odds", "(II)I"⟩, prog_15_method_115_code, (Option.some Jvm.ClassFile.FieldType.int))
theorem emp279 : dk_mp (ey279, 5) 0 := ⟨⟨bW_of (dk_tw_mem (n := 8123) (by decide +kernel)) rfl, bW_of (dk_tw_mem (n := 1015) (by decide +kernel)) rfl, by decide +kernel, by decide +kernel, by decide, by decide +kernel, by decide +kernel⟩, fun _ => ⟨bW_of (dk_tw_mem (n := 8121) (by decide +kernel)) rfl, bW_of (dk_tw_mem (n := 8122) (by decide +kernel)) rfl⟩, (fun h => absurd h (by decide)), (fun h => absurd h (by decide))⟩
/-- SpanCopierModel.readBookLine()Z -/
def ey281 : bY := (⟨"SpanCopierModel", "readBookLine", "()Z"⟩, prog_15_method_117_code, (Option.some Jvm.ClassFile.FieldType.boolean))
theorem emp281 : dk_mp (ey281, 3) 0 := ⟨⟨bW_of (dk_tw_mem (n := 8131) (by decide +kernel)) rfl, bW_of (dk_tw_mem (n := 1015) (by decide +kernel)) rfl, by decide +kernel, by decide +kernel, by decide, by decide +kernel, by decide +kernel⟩, fun _ => ⟨bW_of (dk_tw_mem (n := 8130) (by decide +kernel)) rfl, bW_of (dk_sel (j := 182) (n := _) (by rfl)) rfl⟩, (fun h => absurd h (by decide)), (fun h => absurd h (by decide))⟩
/-- SpanCopierModel.goBy(I)I -/
def ey282 : bY := (⟨"SpanCopierModel", "goBy", "(I)I"⟩, prog_15_method_118_code, (Option.some Jvm.ClassFile.FieldType.int))
theorem emp282 : dk_mp (ey282, 5) 0 := ⟨⟨bW_of (dk_tw_mem (n := 8139) (by decide +kernel)) rfl, bW_of (dk_tw_mem (n := 1015) (by decide +kernel)) rfl, by decide +kernel, by decide +kernel, by decide, by decide +kernel, by decide +kernel⟩, fun _ => ⟨bW_of (dk_tw_mem (n := 8138) (by decide +kernel)) rfl, bW_of (dk_sel (j := 184) (n := _) (by rfl)) rfl⟩, (fun h => absurd h (by decide)), (fun h => absurd h (by decide))⟩
/-- SpanCopierModel.stay(Z)V -/
def ey284 : bY := (⟨"SpanCopierModel", "stay", "(Z)V"⟩, prog_15_method_120_code, (Option.none : Option Jvm.ClassFile.FieldType))
theorem emp284 : dk_mp (ey284, 2) 0 := ⟨⟨bW_of (dk_tw_mem (n := 8143) (by decide +kernel)) rfl, bW_of (dk_tw_mem (n := 1015) (by decide +kernel)) rfl, by decide +kernel, by decide +kernel, by decide, by decide +kernel, by decide +kernel⟩, fun _ => ⟨bW_of (dk_tw_mem (n := 8142) (by decide +kernel)) rfl, bW_of (dk_sel (j := 185) (n := _) (by rfl)) rfl⟩, (fun h => absurd h (by decide)), (fun h => absurd h (by decide))⟩
/-- SpanCopierModel.book(I)I -/
def ey283 : bY := (⟨"SpanCopierModel", "book", "(I)I"⟩, prog_15_method_119_code, (Option.some Jvm.ClassFile.FieldType.int))
theorem emp283 : dk_mp (ey283, 4) 0 := ⟨⟨bW_of (dk_tw_mem (n := 8127) (by decide +kernel)) rfl, bW_of (dk_tw_mem (n := 1015) (by decide +kernel)) rfl, by decide +kernel, by decide +kernel, by decide, by decide +kernel, by decide +kernel⟩, fun _ => ⟨bW_of (dk_tw_mem (n := 8125) (by decide +kernel)) rfl, bW_of (dk_tw_mem (n := 8126) (by decide +kernel)) rfl⟩, (fun h => absurd h (by decide)), (fun h => absurd h (by decide))⟩
/-- SpanCopierModel.told(I)I -/
def ey285 : bY := (⟨"SpanCopierModel", "told", "(I)I"⟩, prog_15_method_121_code, (Option.some Jvm.ClassFile.FieldType.int))
theorem emp285 : dk_mp (ey285, 2) 0 := ⟨⟨bW_of (dk_tw_mem (n := 8147) (by decide +kernel)) rfl, bW_of (dk_tw_mem (n := 1015) (by decide +kernel)) rfl, by decide +kernel, by decide +kernel, by decide, by decide +kernel, by decide +kernel⟩, fun _ => ⟨bW_of (dk_tw_mem (n := 8145) (by decide +kernel)) rfl, bW_of (dk_tw_mem (n := 8146) (by decide +kernel)) rfl⟩, (fun h => absurd h (by decide)), (fun h => absurd h (by decide))⟩
/-- SpanCopierModel.readCompare(I)Z -/
def ey293 : bY := (⟨"SpanCopierModel", "readCompare", "(I)Z"⟩, prog_15_method_129_code, (Option.some Jvm.ClassFile.FieldType.boolean))
theorem emp293 : dk_mp (ey293, 3) 0 := ⟨⟨bW_of (dk_tw_mem (n := 8183) (by decide +kernel)) rfl, bW_of (dk_tw_mem (n := 1015) (by decide +kernel)) rfl, by decide +kernel, by decide +kernel, by decide, by decide +kernel, by decide +kernel⟩, fun _ => ⟨bW_of (dk_tw_mem (n := 8182) (by decide +kernel)) rfl, bW_of (dk_sel (j := 193) (n := _) (by rfl)) rfl⟩, (fun h => absurd h (by decide)), (fun h => absurd h (by decide))⟩
/-- SpanCopierModel.readOf(I)Z -/
def ey292 : bY := (⟨"SpanCopierModel", "readOf", "(I)Z"⟩, prog_15_method_128_code, (Option.some Jvm.ClassFile.FieldType.boolean))
theorem emp292 : dk_mp (ey292, 2) 0 := ⟨⟨bW_of (dk_tw_mem (n := 8179) (by decide +kernel)) rfl, bW_of (dk_tw_mem (n := 1015) (by decide +kernel)) rfl, by decide +kernel, by decide +kernel, by decide, by decide +kernel, by decide +kernel⟩, fun _ => ⟨bW_of (dk_tw_mem (n := 8178) (by decide +kernel)) rfl, bW_of (dk_sel (j := 192) (n := _) (by rfl)) rfl⟩, (fun h => absurd h (by decide)), (fun h => absurd h (by decide))⟩
/-- SpanCopierModel.readSaid()Z -/
def ey289 : bY := (⟨"SpanCopierModel", "readSaid", "()Z"⟩, prog_15_method_125_code, (Option.some Jvm.ClassFile.FieldType.boolean))
theorem emp289 : dk_mp (ey289, 4) 0 := ⟨⟨bW_of (dk_tw_mem (n := 8163) (by decide +kernel)) rfl, bW_of (dk_tw_mem (n := 1015) (by decide +kernel)) rfl, by decide +kernel, by decide +kernel, by decide, by decide +kernel, by decide +kernel⟩, fun _ => ⟨bW_of (dk_tw_mem (n := 8162) (by decide +kernel)) rfl, bW_of (dk_sel (j := 188) (n := _) (by rfl)) rfl⟩, (fun h => absurd h (by decide)), (fun h => absurd h (by decide))⟩
/-- SpanCopierModel.readNot()Z -/
def ey290 : bY := (⟨"SpanCopierModel", "readNot", "()Z"⟩, prog_15_method_126_code, (Option.some Jvm.ClassFile.FieldType.boolean))
theorem emp290 : dk_mp (ey290, 1) 0 := ⟨⟨bW_of (dk_tw_mem (n := 8171) (by decide +kernel)) rfl, bW_of (dk_tw_mem (n := 1015) (by decide +kernel)) rfl, by decide +kernel, by decide +kernel, by decide, by decide +kernel, by decide +kernel⟩, fun _ => ⟨bW_of (dk_tw_mem (n := 8170) (by decide +kernel)) rfl, bW_of (dk_sel (j := 190) (n := _) (by rfl)) rfl⟩, (fun h => absurd h (by decide)), (fun h => absurd h (by decide))⟩
/-- SpanCopierModel.readAnd()Z -/
def ey288 : bY := (⟨"SpanCopierModel", "readAnd", "()Z"⟩, prog_15_method_124_code, (Option.some Jvm.ClassFile.FieldType.boolean))
theorem emp288 : dk_mp (ey288, 2) 0 := ⟨⟨bW_of (dk_tw_mem (n := 8159) (by decide +kernel)) rfl, bW_of (dk_tw_mem (n := 1015) (by decide +kernel)) rfl, by decide +kernel, by decide +kernel, by decide, by decide +kernel, by decide +kernel⟩, fun _ => ⟨bW_of (dk_tw_mem (n := 8158) (by decide +kernel)) rfl, bW_of (dk_sel (j := 187) (n := _) (by rfl)) rfl⟩, (fun h => absurd h (by decide)), (fun h => absurd h (by decide))⟩
/-- SpanCopierModel.readOr()Z -/
def ey287 : bY := (⟨"SpanCopierModel", "readOr", "()Z"⟩, prog_15_method_123_code, (Option.some Jvm.ClassFile.FieldType.boolean))
theorem emp287 : dk_mp (ey287, 2) 0 := ⟨⟨bW_of (dk_tw_mem (n := 8155) (by decide +kernel)) rfl, bW_of (dk_tw_mem (n := 1015) (by decide +kernel)) rfl, by decide +kernel, by decide +kernel, by decide, by decide +kernel, by decide +kernel⟩, fun _ => ⟨bW_of (dk_tw_mem (n := 8154) (by decide +kernel)) rfl, bW_of (dk_sel (j := 186) (n := _) (by rfl)) rfl⟩, (fun h => absurd h (by decide)), (fun h => absurd h (by decide))⟩
/-- SpanCopierModel.readBracket()Z -/
def ey291 : bY := (⟨"SpanCopierModel", "readBracket", "()Z"⟩, prog_15_method_127_code, (Option.some Jvm.ClassFile.FieldType.boolean))
theorem emp291 : dk_mp (ey291, 1) 0 := ⟨⟨bW_of (dk_tw_mem (n := 8167) (by decide +kernel)) rfl, bW_of (dk_tw_mem (n := 1015) (by decide +kernel)) rfl, by decide +kernel, by decide +kernel, by decide, by decide +kernel, by decide +kernel⟩, fun _ => ⟨bW_of (dk_tw_mem (n := 8166) (by decide +kernel)) rfl, bW_of (dk_sel (j := 189) (n := _) (by rfl)) rfl⟩, (fun h => absurd h (by decide)), (fun h => absurd h (by decide))⟩
/-- SpanCopierModel.said(I)I -/
def ey296 : bY := (⟨"SpanCopierModel", "said", "(I)I"⟩, prog_15_method_132_code, (Option.some Jvm.ClassFile.FieldType.int))
theorem emp296 : dk_mp (ey296, 4) 0 := ⟨⟨bW_of (dk_tw_mem (n := 8187) (by decide +kernel)) rfl, bW_of (dk_tw_mem (n := 1015) (by decide +kernel)) rfl, by decide +kernel, by decide +kernel, by decide, by decide +kernel, by decide +kernel⟩, fun _ => ⟨bW_of (dk_tw_mem (n := 8185) (by decide +kernel)) rfl, bW_of (dk_tw_mem (n := 8186) (by decide +kernel)) rfl⟩, (fun h => absurd h (by decide)), (fun h => absurd h (by decide))⟩
/-- SpanCopierModel.count(I)I -/
def ey299 : bY := (⟨"SpanCopierModel", "count", "(I)I"⟩, prog_15_method_135_code, (Option.some Jvm.ClassFile.FieldType.int))
theorem emp299 : dk_mp (ey299, 2) 0 := ⟨⟨bW_of (dk_tw_mem (n := 8203) (by decide +kernel)) rfl, bW_of (dk_tw_mem (n := 1015) (by decide +kernel)) rfl, by decide +kernel, by decide +kernel, by decide, by decide +kernel, by decide +kernel⟩, fun _ => ⟨bW_of (dk_tw_mem (n := 8201) (by decide +kernel)) rfl, bW_of (dk_tw_mem (n := 8202) (by decide +kernel)) rfl⟩, (fun h => absurd h (by decide)), (fun h => absurd h (by decide))⟩
/-- SpanCopierModel.go()V -/
def ey180 : bY := (⟨"SpanCopierModel", "go", "()V"⟩, prog_15_method_16_code, (Option.none : Option Jvm.ClassFile.FieldType))
theorem emp180 : dk_mp (ey180, 5) 0 := ⟨⟨bW_of (dk_tw_mem (n := 6210) (by decide +kernel)) rfl, bW_of (dk_tw_mem (n := 1015) (by decide +kernel)) rfl, by decide +kernel, by decide +kernel, by decide, by decide +kernel, by decide +kernel⟩, fun _ => ⟨bW_of (dk_tw_mem (n := 6209) (by decide +kernel)) rfl, bW_of (dk_sel (j := 115) (n := _) (by rfl)) rfl⟩, (fun h => absurd h (by decide)), (fun h => absurd h (by decide))⟩
/-- SpanCopierModel.startRead()V -/
def ey191 : bY := (⟨"SpanCopierModel", "startRead", "()V"⟩, prog_15_method_27_code, (Option.none : Option Jvm.ClassFile.FieldType))
theorem emp191 : dk_mp (ey191, 2) 0 := ⟨⟨bW_of (dk_tw_mem (n := 6067) (by decide +kernel)) rfl, bW_of (dk_tw_mem (n := 1015) (by decide +kernel)) rfl, by decide +kernel, by decide +kernel, by decide, by decide +kernel, by decide +kernel⟩, fun _ => ⟨bW_of (dk_tw_mem (n := 6066) (by decide +kernel)) rfl, bW_of (dk_sel (j := 110) (n := _) (by rfl)) rfl⟩, (fun h => absurd h (by decide)), (fun h => absurd h (by decide))⟩
/-- SpanCopierModel.saveTaker()V -/
def ey193 : bY := (⟨"SpanCopierModel", "saveTaker", "()V"⟩, prog_15_method_29_code, (Option.none : Option Jvm.ClassFile.FieldType))
theorem emp193 : dk_mp (ey193, 2) 0 := ⟨⟨bW_of (dk_tw_mem (n := 6075) (by decide +kernel)) rfl, bW_of (dk_tw_mem (n := 1015) (by decide +kernel)) rfl, by decide +kernel, by decide +kernel, by decide, by decide +kernel, by decide +kernel⟩, fun _ => ⟨bW_of (dk_tw_mem (n := 6074) (by decide +kernel)) rfl, bW_of (dk_sel (j := 112) (n := _) (by rfl)) rfl⟩, (fun h => absurd h (by decide)), (fun h => absurd h (by decide))⟩
/-- SpanCopierModel.startSo()V -/
def ey192 : bY := (⟨"SpanCopierModel", "startSo", "()V"⟩, prog_15_method_28_code, (Option.none : Option Jvm.ClassFile.FieldType))
theorem emp192 : dk_mp (ey192, 2) 0 := ⟨⟨bW_of (dk_tw_mem (n := 6071) (by decide +kernel)) rfl, bW_of (dk_tw_mem (n := 1015) (by decide +kernel)) rfl, by decide +kernel, by decide +kernel, by decide, by decide +kernel, by decide +kernel⟩, fun _ => ⟨bW_of (dk_tw_mem (n := 6070) (by decide +kernel)) rfl, bW_of (dk_sel (j := 111) (n := _) (by rfl)) rfl⟩, (fun h => absurd h (by decide)), (fun h => absurd h (by decide))⟩
/-- SpanCopierModel.sends(III)I -/
def ey216 : bY := (⟨"SpanCopierModel", "sends", "(III)I"⟩, prog_15_method_52_code, (Option.some Jvm.ClassFile.FieldType.int))
theorem emp216 : dk_mp (ey216, 6) 0 := ⟨⟨bW_of (dk_tw_mem (n := 7128) (by decide +kernel)) rfl, bW_of (dk_tw_mem (n := 1015) (by decide +kernel)) rfl, by decide +kernel, by decide +kernel, by decide, by decide +kernel, by decide +kernel⟩, fun _ => ⟨bW_of (dk_tw_mem (n := 7127) (by decide +kernel)) rfl, bW_of (dk_sel (j := 144) (n := _) (by rfl)) rfl⟩, (fun h => absurd h (by decide)), (fun h => absurd h (by decide))⟩
/-- SpanCopierModel.sendData(II)V -/
def ey217 : bY := (⟨"SpanCopierModel", "sendData", "(II)V"⟩, prog_15_method_53_code, (Option.none : Option Jvm.ClassFile.FieldType))
theorem emp217 : dk_mp (ey217, 5) 0 := ⟨⟨bW_of (dk_tw_mem (n := 7176) (by decide +kernel)) rfl, bW_of (dk_tw_mem (n := 1015) (by decide +kernel)) rfl, by decide +kernel, by decide +kernel, by decide, by decide +kernel, by decide +kernel⟩, fun _ => ⟨bW_of (dk_tw_mem (n := 7175) (by decide +kernel)) rfl, bW_of (dk_sel (j := 156) (n := _) (by rfl)) rfl⟩, (fun h => absurd h (by decide)), (fun h => absurd h (by decide))⟩
/-- SpanCopierModel.sendNakOf(II)V -/
def ey219 : bY := (⟨"SpanCopierModel", "sendNakOf", "(II)V"⟩, prog_15_method_55_code, (Option.none : Option Jvm.ClassFile.FieldType))
theorem emp219 : dk_mp (ey219, 4) 0 := ⟨⟨bW_of (dk_tw_mem (n := 7124) (by decide +kernel)) rfl, bW_of (dk_tw_mem (n := 1015) (by decide +kernel)) rfl, by decide +kernel, by decide +kernel, by decide, by decide +kernel, by decide +kernel⟩, fun _ => ⟨bW_of (dk_tw_mem (n := 7123) (by decide +kernel)) rfl, bW_of (dk_sel (j := 143) (n := _) (by rfl)) rfl⟩, (fun h => absurd h (by decide)), (fun h => absurd h (by decide))⟩
/-- SpanCopierModel.spansOf(I)I -/
def ey212 : bY := (⟨"SpanCopierModel", "spansOf", "(I)I"⟩, prog_15_method_48_code, (Option.some Jvm.ClassFile.FieldType.int))
theorem emp212 : dk_mp (ey212, 4) 0 := ⟨⟨bW_of (dk_tw_mem (n := 7136) (by decide +kernel)) rfl, bW_of (dk_tw_mem (n := 1015) (by decide +kernel)) rfl, by decide +kernel, by decide +kernel, by decide, by decide +kernel, by decide +kernel⟩, fun _ => ⟨bW_of (dk_tw_mem (n := 7135) (by decide +kernel)) rfl, bW_of (dk_sel (j := 146) (n := _) (by rfl)) rfl⟩, (fun h => absurd h (by decide)), (fun h => absurd h (by decide))⟩
/-- SpanCopierModel.sendNak()V -/
def ey220 : bY := (⟨"SpanCopierModel", "sendNak", "()V"⟩, prog_15_method_56_code, (Option.none : Option Jvm.ClassFile.FieldType))
theorem emp220 : dk_mp (ey220, 4) 0 := ⟨⟨bW_of (dk_tw_mem (n := 7148) (by decide +kernel)) rfl, bW_of (dk_tw_mem (n := 1015) (by decide +kernel)) rfl, by decide +kernel, by decide +kernel, by decide, by decide +kernel, by decide +kernel⟩, fun _ => ⟨bW_of (dk_tw_mem (n := 7147) (by decide +kernel)) rfl, bW_of (dk_sel (j := 149) (n := _) (by rfl)) rfl⟩, (fun h => absurd h (by decide)), (fun h => absurd h (by decide))⟩
/-- SpanCopierModel.allCome()V -/
def ey229 : bY := (⟨"SpanCopierModel", "allCome", "()V"⟩, prog_15_method_65_code, (Option.none : Option Jvm.ClassFile.FieldType))
theorem emp229 : dk_mp (ey229, 3) 0 := ⟨⟨bW_of (dk_tw_mem (n := 7100) (by decide +kernel)) rfl, bW_of (dk_tw_mem (n := 1015) (by decide +kernel)) rfl, by decide +kernel, by decide +kernel, by decide, by decide +kernel, by decide +kernel⟩, fun _ => ⟨bW_of (dk_tw_mem (n := 7099) (by decide +kernel)) rfl, bW_of (dk_sel (j := 137) (n := _) (by rfl)) rfl⟩, (fun h => absurd h (by decide)), (fun h => absurd h (by decide))⟩
/-- SpanCopierModel.save([II)V -/
def ey242 : bY := (⟨"SpanCopierModel", "save", "([II)V"⟩, prog_15_method_78_code, (Option.none : Option Jvm.ClassFile.FieldType))
theorem emp242 : dk_mp (ey242, 4) 0 := ⟨⟨bW_of (dk_tw_mem (n := 7081) (by decide +kernel)) rfl, bW_of (dk_tw_mem (n := 1015) (by decide +kernel)) rfl, by decide +kernel, by decide +kernel, by decide, by decide +kernel, by decide +kernel⟩, fun _ => ⟨bW_of (dk_tw_mem (n := 7080) (by decide +kernel)) rfl, bW_of (dk_sel (j := 134) (n := _) (by rfl)) rfl⟩, (fun h => absurd h (by decide)), (fun h => absurd h (by decide))⟩
/-- SpanCopierModel.comeBack([II)V -/
def ey243 : bY := (⟨"SpanCopierModel", "comeBack", "([II)V"⟩, prog_15_method_79_code, (Option.none : Option Jvm.ClassFile.FieldType))
theorem emp243 : dk_mp (ey243, 4) 0 := ⟨⟨bW_of (dk_tw_mem (n := 7069) (by decide +kernel)) rfl, bW_of (dk_tw_mem (n := 1015) (by decide +kernel)) rfl, by decide +kernel, by decide +kernel, by decide, by decide +kernel, by decide +kernel⟩, fun _ => ⟨bW_of (dk_tw_mem (n := 7068) (by decide +kernel)) rfl, bW_of (dk_sel (j := 132) (n := _) (by rfl)) rfl⟩, (fun h => absurd h (by decide)), (fun h => absurd h (by decide))⟩
/-- SpanCopierModel.snap()V -/
def ey244 : bY := (⟨"SpanCopierModel", "snap", "()V"⟩, prog_15_method_80_code, (Option.none : Option Jvm.ClassFile.FieldType))
theorem emp244 : dk_mp (ey244, 2) 0 := ⟨⟨bW_of (dk_tw_mem (n := 7077) (by decide +kernel)) rfl, bW_of (dk_tw_mem (n := 1015) (by decide +kernel)) rfl, by decide +kernel, by decide +kernel, by decide, by decide +kernel, by decide +kernel⟩, fun _ => ⟨bW_of (dk_tw_mem (n := 7076) (by decide +kernel)) rfl, bW_of (dk_sel (j := 133) (n := _) (by rfl)) rfl⟩, (fun h => absurd h (by decide)), (fun h => absurd h (by decide))⟩
/-- SpanCopierModel.live(III)V -/
def ey250 : bY := (⟨"SpanCopierModel", "live", "(III)V"⟩, prog_15_method_86_code, (Option.none : Option Jvm.ClassFile.FieldType))
theorem emp250 : dk_mp (ey250, 6) 0 := ⟨⟨bW_of (dk_tw_mem (n := 8007) (by decide +kernel)) rfl, bW_of (dk_tw_mem (n := 1015) (by decide +kernel)) rfl, by decide +kernel, by decide +kernel, by decide, by decide +kernel, by decide +kernel⟩, fun _ => ⟨bW_of (dk_tw_mem (n := 8006) (by decide +kernel)) rfl, bW_of (dk_sel (j := 172) (n := _) (by rfl)) rfl⟩, (fun h => absurd h (by decide)), (fun h => absurd h (by decide))⟩
/-- SpanCopierModel.span(III)I -/
def ey262 : bY := (⟨"SpanCopierModel", "span", "(III)I"⟩, prog_15_method_98_code, (Option.some Jvm.ClassFile.FieldType.int))
theorem emp262 : dk_mp (ey262, 4) 0 := ⟨⟨bW_of (dk_tw_mem (n := 8054) (by decide +kernel)) rfl, bW_of (dk_tw_mem (n := 1015) (by decide +kernel)) rfl, by decide +kernel, by decide +kernel, by decide, by decide +kernel, by decide +kernel⟩, fun _ => ⟨bW_of (dk_tw_mem (n := 8052) (by decide +kernel)) rfl, bW_of (dk_tw_mem (n := 8053) (by decide +kernel)) rfl⟩, (fun h => absurd h (by decide)), (fun h => absurd h (by decide))⟩
/-- SpanCopierModel.need()I -/
def ey269 : bY := (⟨"SpanCopierModel", "need", "()I"⟩, prog_15_method_105_code, (Option.some Jvm.ClassFile.FieldType.int))
theorem emp269 : dk_mp (ey269, 3) 0 := ⟨⟨bW_of (dk_tw_mem (n := 8082) (by decide +kernel)) rfl, bW_of (dk_tw_mem (n := 1015) (by decide +kernel)) rfl, by decide +kernel, by decide +kernel, by decide, by decide +kernel, by decide +kernel⟩, fun _ => ⟨bW_of (dk_tw_mem (n := 8080) (by decide +kernel)) rfl, bW_of (dk_tw_mem (n := 8081) (by decide +kernel)) rfl⟩, (fun h => absurd h (by decide)), (fun h => absurd h (by decide))⟩
/-- SpanCopierModel.saysOne(IIII)I -/
def ey286 : bY := (⟨"SpanCopierModel", "saysOne", "(IIII)I"⟩, prog_15_method_122_code, (Option.some Jvm.ClassFile.FieldType.int))
theorem emp286 : dk_mp (ey286, 6) 0 := ⟨⟨bW_of (dk_tw_mem (n := 8175) (by decide +kernel)) rfl, bW_of (dk_tw_mem (n := 1015) (by decide +kernel)) rfl, by decide +kernel, by decide +kernel, by decide, by decide +kernel, by decide +kernel⟩, fun _ => ⟨bW_of (dk_tw_mem (n := 8174) (by decide +kernel)) rfl, bW_of (dk_sel (j := 191) (n := _) (by rfl)) rfl⟩, (fun h => absurd h (by decide)), (fun h => absurd h (by decide))⟩
/-- SpanCopierModel.sentence()I -/
def ey294 : bY := (⟨"SpanCopierModel", "sentence", "()I"⟩, prog_15_method_130_code, (Option.some Jvm.ClassFile.FieldType.int))
theorem emp294 : dk_mp (ey294, 2) 0 := ⟨⟨bW_of (dk_tw_mem (n := 8151) (by decide +kernel)) rfl, bW_of (dk_tw_mem (n := 1015) (by decide +kernel)) rfl, by decide +kernel, by decide +kernel, by decide, by decide +kernel, by decide +kernel⟩, fun _ => ⟨bW_of (dk_tw_mem (n := 8149) (by decide +kernel)) rfl, bW_of (dk_tw_mem (n := 8150) (by decide +kernel)) rfl⟩, (fun h => absurd h (by decide)), (fun h => absurd h (by decide))⟩
/-- SpanCopierModel.holds(II)Z -/
def ey295 : bY := (⟨"SpanCopierModel", "holds", "(II)Z"⟩, prog_15_method_131_code, (Option.some Jvm.ClassFile.FieldType.boolean))
theorem emp295 : dk_mp (ey295, 8) 0 := ⟨⟨bW_of (dk_tw_mem (n := 8191) (by decide +kernel)) rfl, bW_of (dk_tw_mem (n := 1015) (by decide +kernel)) rfl, by decide +kernel, by decide +kernel, by decide, by decide +kernel, by decide +kernel⟩, fun _ => ⟨bW_of (dk_tw_mem (n := 8190) (by decide +kernel)) rfl, bW_of (dk_sel (j := 194) (n := _) (by rfl)) rfl⟩, (fun h => absurd h (by decide)), (fun h => absurd h (by decide))⟩
/-- SpanCopierModel.image(I)Z -/
def ey297 : bY := (⟨"SpanCopierModel", "image", "(I)Z"⟩, prog_15_method_133_code, (Option.some Jvm.ClassFile.FieldType.boolean))
theorem emp297 : dk_mp (ey297, 3) 0 := ⟨⟨bW_of (dk_tw_mem (n := 8195) (by decide +kernel)) rfl, bW_of (dk_tw_mem (n := 1015) (by decide +kernel)) rfl, by decide +kernel, by decide +kernel, by decide, by decide +kernel, by decide +kernel⟩, fun _ => ⟨bW_of (dk_tw_mem (n := 8193) (by decide +kernel)) rfl, bW_of (dk_tw_mem (n := 8194) (by decide +kernel)) rfl⟩, (fun h => absurd h (by decide)), (fun h => absurd h (by decide))⟩
/-- SpanCopierModel.restore(I)Z -/
def ey298 : bY := (⟨"SpanCopierModel", "restore", "(I)Z"⟩, prog_15_method_134_code, (Option.some Jvm.ClassFile.FieldType.boolean))
theorem emp298 : dk_mp (ey298, 3) 0 := ⟨⟨bW_of (dk_tw_mem (n := 8199) (by decide +kernel)) rfl, bW_of (dk_tw_mem (n := 1015) (by decide +kernel)) rfl, by decide +kernel, by decide +kernel, by decide, by decide +kernel, by decide +kernel⟩, fun _ => ⟨bW_of (dk_tw_mem (n := 8197) (by decide +kernel)) rfl, bW_of (dk_tw_mem (n := 8198) (by decide +kernel)) rfl⟩, (fun h => absurd h (by decide)), (fun h => absurd h (by decide))⟩
/-- Word.of(J)LSpanCopier.Word; -/
def ey106 : bY := (⟨"SpanCopier$Word", "of", "(J)LSpanCopier$Word;"⟩, prog_12_method_5_code, (Option.some (Jvm.ClassFile.FieldType.object "SpanCopier$Word")))
theorem emp106 : dk_mp (ey106, 3) 2 := ⟨⟨bW_of (dk_tw_mem (n := 2226) (by decide +kernel)) rfl, bW_of (dk_tw_mem (n := 1004) (by decide +kernel)) rfl, by decide +kernel, by decide +kernel, by decide, by decide +kernel, by decide +kernel⟩, (fun h => absurd h (by decide)), (fun h => absurd h (by decide)), fun _ => bW_of (dk_tw_mem (n := 2225) (by decide +kernel)) rfl⟩
/-- SpanCopier.unit(II)I -/
def ey146 : bY := (⟨"SpanCopier", "unit", "(II)I"⟩, prog_1_method_21_code, (Option.some Jvm.ClassFile.FieldType.int))
theorem emp146 : dk_mp (ey146, 4) 0 := ⟨⟨bW_of (dk_tw_mem (n := 5215) (by decide +kernel)) rfl, bW_of (dk_tw_mem (n := 1001) (by decide +kernel)) rfl, by decide +kernel, by decide +kernel, by decide, by decide +kernel, by decide +kernel⟩, fun _ => ⟨bW_of (dk_tw_mem (n := 5213) (by decide +kernel)) rfl, bW_of (dk_tw_mem (n := 5214) (by decide +kernel)) rfl⟩, (fun h => absurd h (by decide)), (fun h => absurd h (by decide))⟩
/-- SpanCopier.sum(I)I -/
def ey151 : bY := (⟨"SpanCopier", "sum", "(I)I"⟩, prog_1_method_26_code, (Option.some Jvm.ClassFile.FieldType.int))
theorem emp151 : dk_mp (ey151, 2) 0 := ⟨⟨bW_of (dk_tw_mem (n := 6044) (by decide +kernel)) rfl, bW_of (dk_tw_mem (n := 1001) (by decide +kernel)) rfl, by decide +kernel, by decide +kernel, by decide, by decide +kernel, by decide +kernel⟩, fun _ => ⟨bW_of (dk_tw_mem (n := 6042) (by decide +kernel)) rfl, bW_of (dk_tw_mem (n := 6043) (by decide +kernel)) rfl⟩, (fun h => absurd h (by decide)), (fun h => absurd h (by decide))⟩
/-- SpanCopierModel.<init>()V -/
def ey190 : bY := (⟨"SpanCopierModel", "<init>", "()V"⟩, prog_15_method_26_code, (Option.none : Option Jvm.ClassFile.FieldType))
theorem emp190 : dk_mp (ey190, 2) 1 := ⟨⟨bW_of (dk_tw_mem (n := 6062) (by decide +kernel)) rfl, bW_of (dk_tw_mem (n := 1015) (by decide +kernel)) rfl, by decide +kernel, by decide +kernel, by decide, by decide +kernel, by decide +kernel⟩, (fun h => absurd h (by decide)), fun _ => ⟨bW_of (dk_tw_mem (n := 6061) (by decide +kernel)) rfl, rfl⟩, (fun h => absurd h (by decide))⟩
/-- SpanCopierModel.drop(I)V -/
def ey221 : bY := (⟨"SpanCopierModel", "drop", "(I)V"⟩, prog_15_method_57_code, (Option.none : Option Jvm.ClassFile.FieldType))
theorem emp221 : dk_mp (ey221, 3) 0 := ⟨⟨bW_of (dk_tw_mem (n := 7108) (by decide +kernel)) rfl, bW_of (dk_tw_mem (n := 1015) (by decide +kernel)) rfl, by decide +kernel, by decide +kernel, by decide, by decide +kernel, by decide +kernel⟩, fun _ => ⟨bW_of (dk_tw_mem (n := 7107) (by decide +kernel)) rfl, bW_of (dk_sel (j := 139) (n := _) (by rfl)) rfl⟩, (fun h => absurd h (by decide)), (fun h => absurd h (by decide))⟩
