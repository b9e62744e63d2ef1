/-- SpanCopierModel.twice(I)I -/
def ey253 : bY := (⟨"SpanCopierModel", "twice", "(I)I"⟩, prog_15_method_89_code, (Option.some Jvm.ClassFile.FieldType.int))
theorem emp253 : dk_mp (ey253, 2) 0 := ⟨⟨bW_of (dk_tw_mem (n := 8011) rfl) rfl, bW_of (dk_tw_mem (n := 1015) rfl) rfl, by decide +kernel, by decide +kernel, by decide, by decide +kernel, by decide +kernel⟩, fun _ => ⟨bW_of (dk_tw_mem (n := 8009) rfl) rfl, bW_of (dk_tw_mem (n := 8010) rfl) rfl⟩, (fun h => absurd h (by decide)), (fun h => absurd h (by decide))⟩
/-- SpanCopierModel.late(II)I -/
def ey254 : bY := (⟨"SpanCopierModel", "late", "(II)I"⟩, prog_15_method_90_code, (Option.some Jvm.ClassFile.FieldType.int))
theorem emp254 : dk_mp (ey254, 3) 0 := ⟨⟨bW_of (dk_tw_mem (n := 8015) rfl) rfl, bW_of (dk_tw_mem (n := 1015) rfl) rfl, by decide +kernel, by decide +kernel, by decide, by decide +kernel, by decide +kernel⟩, fun _ => ⟨bW_of (dk_tw_mem (n := 8013) rfl) rfl, bW_of (dk_tw_mem (n := 8014) rfl) rfl⟩, (fun h => absurd h (by decide)), (fun h => absurd h (by decide))⟩
/-- SpanCopierModel.spoil(I)I -/
def ey255 : bY := (⟨"SpanCopierModel", "spoil", "(I)I"⟩, prog_15_method_91_code, (Option.some Jvm.ClassFile.FieldType.int))
theorem emp255 : dk_mp (ey255, 2) 0 := ⟨⟨bW_of (dk_tw_mem (n := 8019) rfl) rfl, bW_of (dk_tw_mem (n := 1015) rfl) rfl, by decide +kernel, by decide +kernel, by decide, by decide +kernel, by decide +kernel⟩, fun _ => ⟨bW_of (dk_tw_mem (n := 8017) rfl) rfl, bW_of (dk_tw_mem (n := 8018) rfl) rfl⟩, (fun h => absurd h (by decide)), (fun h => absurd h (by decide))⟩
/-- SpanCopierModel.prompt()I -/
def ey256 : bY := (⟨"SpanCopierModel", "prompt", "()I"⟩, prog_15_method_92_code, (Option.some Jvm.ClassFile.FieldType.int))
theorem emp256 : dk_mp (ey256, 1) 0 := ⟨⟨bW_of (dk_tw_mem (n := 8023) rfl) rfl, bW_of (dk_tw_mem (n := 1015) rfl) rfl, by decide +kernel, by decide +kernel, by decide, by decide +kernel, by decide +kernel⟩, fun _ => ⟨bW_of (dk_tw_mem (n := 8021) rfl) rfl, bW_of (dk_tw_mem (n := 8022) rfl) rfl⟩, (fun h => absurd h (by decide)), (fun h => absurd h (by decide))⟩
/-- SpanCopierModel.crash()I -/
def ey257 : bY := (⟨"SpanCopierModel", "crash", "()I"⟩, prog_15_method_93_code, (Option.some Jvm.ClassFile.FieldType.int))
theorem emp257 : dk_mp (ey257, 1) 0 := ⟨⟨bW_of (dk_tw_mem (n := 8027) rfl) rfl, bW_of (dk_tw_mem (n := 1015) rfl) rfl, by decide +kernel, by decide +kernel, by decide, by decide +kernel, by decide +kernel⟩, fun _ => ⟨bW_of (dk_tw_mem (n := 8025) rfl) rfl, bW_of (dk_tw_mem (n := 8026) rfl) rfl⟩, (fun h => absurd h (by decide)), (fun h => absurd h (by decide))⟩
/-- SpanCopierModel.now(I)I -/
def ey258 : bY := (⟨"SpanCopierModel", "now", "(I)I"⟩, prog_15_method_94_code, (Option.some Jvm.ClassFile.FieldType.int))
theorem emp258 : dk_mp (ey258, 2) 0 := ⟨⟨bW_of (dk_tw_mem (n := 8031) rfl) rfl, bW_of (dk_tw_mem (n := 1015) rfl) rfl, by decide +kernel, by decide +kernel, by decide, by decide +kernel, by decide +kernel⟩, fun _ => ⟨bW_of (dk_tw_mem (n := 8029) rfl) rfl, bW_of (dk_tw_mem (n := 8030) rfl) rfl⟩, (fun h => absurd h (by decide)), (fun h => absurd h (by decide))⟩
/-- SpanCopierModel.dataOf(II)I -/
def ey259 : bY := (⟨"SpanCopierModel", "dataOf", "(II)I"⟩, prog_15_method_95_code, (Option.some Jvm.ClassFile.FieldType.int))
theorem emp259 : dk_mp (ey259, 3) 0 := ⟨⟨bW_of (dk_tw_mem (n := 8050) rfl) rfl, bW_of (dk_tw_mem (n := 1015) rfl) rfl, by decide +kernel, by decide +kernel, by decide, by decide +kernel, by decide +kernel⟩, fun _ => ⟨bW_of (dk_tw_mem (n := 8049) rfl) rfl, bW_of (dk_sel (j := 175) (n := _) (by rfl)) rfl⟩, (fun h => absurd h (by decide)), (fun h => absurd h (by decide))⟩
/-- SpanCopierModel.firstOf(I)I -/
def ey260 : bY := (⟨"SpanCopierModel", "firstOf", "(I)I"⟩, prog_15_method_96_code, (Option.some Jvm.ClassFile.FieldType.int))
theorem emp260 : dk_mp (ey260, 3) 0 := ⟨⟨bW_of (dk_tw_mem (n := 8046) rfl) rfl, bW_of (dk_tw_mem (n := 1015) rfl) rfl, by decide +kernel, by decide +kernel, by decide, by decide +kernel, by decide +kernel⟩, fun _ => ⟨bW_of (dk_tw_mem (n := 8045) rfl) rfl, bW_of (dk_sel (j := 174) (n := _) (by rfl)) rfl⟩, (fun h => absurd h (by decide)), (fun h => absurd h (by decide))⟩
/-- SpanCopierModel.unit(II)I -/
def ey261 : bY := (⟨"SpanCopierModel", "unit", "(II)I"⟩, prog_15_method_97_code, (Option.some Jvm.ClassFile.FieldType.int))
theorem emp261 : dk_mp (ey261, 3) 0 := ⟨⟨bW_of (dk_tw_mem (n := 8035) rfl) rfl, bW_of (dk_tw_mem (n := 1015) rfl) rfl, by decide +kernel, by decide +kernel, by decide, by decide +kernel, by decide +kernel⟩, fun _ => ⟨bW_of (dk_tw_mem (n := 8033) rfl) rfl, bW_of (dk_tw_mem (n := 8034) rfl) rfl⟩, (fun h => absurd h (by decide)), (fun h => absurd h (by decide))⟩
/-- SpanCopierModel.gap(II)I -/
def ey263 : bY := (⟨"SpanCopierModel", "gap", "(II)I"⟩, prog_15_method_99_code, (Option.some Jvm.ClassFile.FieldType.int))
theorem emp263 : dk_mp (ey263, 3) 0 := ⟨⟨bW_of (dk_tw_mem (n := 8058) rfl) rfl, bW_of (dk_tw_mem (n := 1015) rfl) rfl, by decide +kernel, by decide +kernel, by decide, by decide +kernel, by decide +kernel⟩, fun _ => ⟨bW_of (dk_tw_mem (n := 8056) rfl) rfl, bW_of (dk_tw_mem (n := 8057) rfl) rfl⟩, (fun h => absurd h (by decide)), (fun h => absurd h (by decide))⟩
/-- SpanCopierModel.resend(II)I -/
def ey264 : bY := (⟨"SpanCopierModel", "resend", "(II)I"⟩, prog_15_method_100_code, (Option.some Jvm.ClassFile.FieldType.int))
theorem emp264 : dk_mp (ey264, 3) 0 := ⟨⟨bW_of (dk_tw_mem (n := 8062) rfl) rfl, bW_of (dk_tw_mem (n := 1015) rfl) rfl, by decide +kernel, by decide +kernel, by decide, by decide +kernel, by decide +kernel⟩, fun _ => ⟨bW_of (dk_tw_mem (n := 8060) rfl) rfl, bW_of (dk_tw_mem (n := 8061) rfl) rfl⟩, (fun h => absurd h (by decide)), (fun h => absurd h (by decide))⟩
/-- SpanCopierModel.taken(I)I -/
def ey265 : bY := (⟨"SpanCopierModel", "taken", "(I)I"⟩, prog_15_method_101_code, (Option.some Jvm.ClassFile.FieldType.int))
theorem emp265 : dk_mp (ey265, 2) 0 := ⟨⟨bW_of (dk_tw_mem (n := 8066) rfl) rfl, bW_of (dk_tw_mem (n := 1015) rfl) rfl, by decide +kernel, by decide +kernel, by decide, by decide +kernel, by decide +kernel⟩, fun _ => ⟨bW_of (dk_tw_mem (n := 8064) rfl) rfl, bW_of (dk_tw_mem (n := 8065) rfl) rfl⟩, (fun h => absurd h (by decide)), (fun h => absurd h (by decide))⟩
/-- SpanCopierModel.sum(I)I -/
def ey266 : bY := (⟨"SpanCopierModel", "sum", "(I)I"⟩, prog_15_method_102_code, (Option.some Jvm.ClassFile.FieldType.int))
theorem emp266 : dk_mp (ey266, 2) 0 := ⟨⟨bW_of (dk_tw_mem (n := 8070) rfl) rfl, bW_of (dk_tw_mem (n := 1015) rfl) rfl, by decide +kernel, by decide +kernel, by decide, by decide +kernel, by decide +kernel⟩, fun _ => ⟨bW_of (dk_tw_mem (n := 8068) rfl) rfl, bW_of (dk_tw_mem (n := 8069) rfl) rfl⟩, (fun h => absurd h (by decide)), (fun h => absurd h (by decide))⟩
/-- SpanCopierModel.store()I -/
def ey267 : bY := (⟨"SpanCopierModel", "store", "()I"⟩, prog_15_method_103_code, (Option.some Jvm.ClassFile.FieldType.int))
theorem emp267 : dk_mp (ey267, 1) 0 := ⟨⟨bW_of (dk_tw_mem (n := 8074) rfl) rfl, bW_of (dk_tw_mem (n := 1015) rfl) rfl, by decide +kernel, by decide +kernel, by decide, by decide +kernel, by decide +kernel⟩, fun _ => ⟨bW_of (dk_tw_mem (n := 8072) rfl) rfl, bW_of (dk_tw_mem (n := 8073) rfl) rfl⟩, (fun h => absurd h (by decide)), (fun h => absurd h (by decide))⟩
/-- SpanCopierModel.journal(I)I -/
def ey268 : bY := (⟨"SpanCopierModel", "journal", "(I)I"⟩, prog_15_method_104_code, (Option.some Jvm.ClassFile.FieldType.int))
theorem emp268 : dk_mp (ey268, 2) 0 := ⟨⟨bW_of (dk_tw_mem (n := 8078) rfl) rfl, bW_of (dk_tw_mem (n := 1015) rfl) rfl, by decide +kernel, by decide +kernel, by decide, by decide +kernel, by decide +kernel⟩, fun _ => ⟨bW_of (dk_tw_mem (n := 8076) rfl) rfl, bW_of (dk_tw_mem (n := 8077) rfl) rfl⟩, (fun h => absurd h (by decide)), (fun h => absurd h (by decide))⟩
/-- SpanCopierModel.isOver()Z -/
def ey270 : bY := (⟨"SpanCopierModel", "isOver", "()Z"⟩, prog_15_method_106_code, (Option.some Jvm.ClassFile.FieldType.boolean))
theorem emp270 : dk_mp (ey270, 1) 0 := ⟨⟨bW_of (dk_tw_mem (n := 8090) rfl) rfl, bW_of (dk_tw_mem (n := 1015) rfl) rfl, by decide +kernel, by decide +kernel, by decide, by decide +kernel, by decide +kernel⟩, fun _ => ⟨bW_of (dk_tw_mem (n := 8089) rfl) rfl, bW_of (dk_sel (j := 176) (n := _) (by rfl)) rfl⟩, (fun h => absurd h (by decide)), (fun h => absurd h (by decide))⟩
/-- SpanCopierModel.over()I -/
def ey271 : bY := (⟨"SpanCopierModel", "over", "()I"⟩, prog_15_method_107_code, (Option.some Jvm.ClassFile.FieldType.int))
theorem emp271 : dk_mp (ey271, 3) 0 := ⟨⟨bW_of (dk_tw_mem (n := 8086) rfl) rfl, bW_of (dk_tw_mem (n := 1015) rfl) rfl, by decide +kernel, by decide +kernel, by decide, by decide +kernel, by decide +kernel⟩, fun _ => ⟨bW_of (dk_tw_mem (n := 8084) rfl) rfl, bW_of (dk_tw_mem (n := 8085) rfl) rfl⟩, (fun h => absurd h (by decide)), (fun h => absurd h (by decide))⟩
/-- SpanCopierModel.overAs(I)I -/
def ey272 : bY := (⟨"SpanCopierModel", "overAs", "(I)I"⟩, prog_15_method_108_code, (Option.some Jvm.ClassFile.FieldType.int))
theorem emp272 : dk_mp (ey272, 2) 0 := ⟨⟨bW_of (dk_tw_mem (n := 8094) rfl) rfl, bW_of (dk_tw_mem (n := 1015) rfl) rfl, by decide +kernel, by decide +kernel, by decide, by decide +kernel, by decide +kernel⟩, fun _ => ⟨bW_of (dk_tw_mem (n := 8092) rfl) rfl, bW_of (dk_tw_mem (n := 8093) rfl) rfl⟩, (fun h => absurd h (by decide)), (fun h => absurd h (by decide))⟩
/-- SpanCopierModel.draw(I)I -/
def ey273 : bY := (⟨"SpanCopierModel", "draw", "(I)I"⟩, prog_15_method_109_code, (Option.some Jvm.ClassFile.FieldType.int))
theorem emp273 : dk_mp (ey273, 2) 0 := ⟨⟨bW_of (dk_tw_mem (n := 8110) rfl) rfl, bW_of (dk_tw_mem (n := 1015) rfl) rfl, by decide +kernel, by decide +kernel, by decide, by decide +kernel, by decide +kernel⟩, fun _ => ⟨bW_of (dk_tw_mem (n := 8109) rfl) rfl, bW_of (dk_sel (j := 179) (n := _) (by rfl)) rfl⟩, (fun h => absurd h (by decide)), (fun h => absurd h (by decide))⟩
/-- SpanCopierModel.doIf(III)V -/
def ey274 : bY := (⟨"SpanCopierModel", "doIf", "(III)V"⟩, prog_15_method_110_code, (Option.none : Option Jvm.ClassFile.FieldType))
theorem emp274 : dk_mp (ey274, 4) 0 := ⟨⟨bW_of (dk_tw_mem (n := 8119) rfl) rfl, bW_of (dk_tw_mem (n := 1015) rfl) rfl, by decide +kernel, by decide +kernel, by decide, by decide +kernel, by decide +kernel⟩, fun _ => ⟨bW_of (dk_tw_mem (n := 8118) rfl) rfl, bW_of (dk_sel (j := 181) (n := _) (by rfl)) rfl⟩, (fun h => absurd h (by decide)), (fun h => absurd h (by decide))⟩
/-- SpanCopierModel.drawsUnit(I)V -/
def ey275 : bY := (⟨"SpanCopierModel", "drawsUnit", "(I)V"⟩, prog_15_method_111_code, (Option.none : Option Jvm.ClassFile.FieldType))
theorem emp275 : dk_mp (ey275, 3) 0 := ⟨⟨bW_of (dk_tw_mem (n := 8115) rfl) rfl, bW_of (dk_tw_mem (n := 1015) rfl) rfl, by decide +kernel, by decide +kernel, by decide, by decide +kernel, by decide +kernel⟩, fun _ => ⟨bW_of (dk_tw_mem (n := 8114) rfl) rfl, bW_of (dk_sel (j := 180) (n := _) (by rfl)) rfl⟩, (fun h => absurd h (by decide)), (fun h => absurd h (by decide))⟩
/-- SpanCopierModel.drawsFirst()V -/
def ey276 : bY := (⟨"SpanCopierModel", "drawsFirst", "()V"⟩, prog_15_method_112_code, (Option.none : Option Jvm.ClassFile.FieldType))
theorem emp276 : dk_mp (ey276, 2) 0 := ⟨⟨bW_of (dk_tw_mem (n := 8106) rfl) rfl, bW_of (dk_tw_mem (n := 1015) rfl) rfl, by decide +kernel, by decide +kernel, by decide, by decide +kernel, by decide +kernel⟩, fun _ => ⟨bW_of (dk_tw_mem (n := 8105) rfl) rfl, bW_of (dk_sel (j := 178) (n := _) (by rfl)) rfl⟩, (fun h => absurd h (by decide)), (fun h => absurd h (by decide))⟩
/-- SpanCopierModel.drawTicks(II)I -/
def ey277 : bY := (⟨"SpanCopierModel", "drawTicks", "(II)I"⟩, prog_15_method_113_code, (Option.some Jvm.ClassFile.FieldType.int))
theorem emp277 : dk_mp (ey277, 5) 0 := ⟨⟨bW_of (dk_tw_mem (n := 8102) rfl) rfl, bW_of (dk_tw_mem (n := 1015) rfl) rfl, by decide +kernel, by decide +kernel, by decide, by decide +kernel, by decide +kernel⟩, fun _ => ⟨bW_of (dk_tw_mem (n := 8101) rfl) rfl, bW_of (dk_sel (j := 177) (n := _) (by rfl)) rfl⟩, (fun h => absurd h (by decide)), (fun h => absurd h (by decide))⟩
/-- SpanCopierModel.drawn(II)I -/
def ey278 : bY := (⟨"SpanCopierModel", "drawn", "(II)I"⟩, prog_15_method_114_code, (Option.some Jvm.ClassFile.FieldType.int))
theorem emp278 : dk_mp (ey278, 3) 0 := ⟨⟨bW_of (dk_tw_mem (n := 8098) rfl) rfl, bW_of (dk_tw_mem (n := 1015) rfl) rfl, by decide +kernel, by decide +kernel, by decide, by decide +kernel, by decide +kernel⟩, fun _ => ⟨bW_of (dk_tw_mem (n := 8096) rfl) rfl, bW_of (dk_tw_mem (n := 8097) rfl) rfl⟩, (fun h => absurd h (by decide)), (fun h => absurd h (by decide))⟩
/-- SpanCopierModel.odds(II)I -/
def ey279 : bY := (⟨"SpanCopierModel", "odds", "(II)I"⟩, prog_15_method_115_code, (Option.some Jvm.ClassFile.FieldType.int))
theorem emp279 : dk_mp (ey279, 5) 0 := ⟨⟨bW_of (dk_tw_mem (n := 8123) rfl) rfl, bW_of (dk_tw_mem (n := 1015) rfl) rfl, by decide +kernel, by decide +kernel, by decide, by decide +kernel, by decide +kernel⟩, fun _ => ⟨bW_of (dk_tw_mem (n := 8121) rfl) rfl, bW_of (dk_tw_mem (n := 8122) rfl) rfl⟩, (fun h => absurd h (by decide)), (fun h => absurd h (by decide))⟩
/-- SpanCopierModel.readBookLine()Z -/
def ey281 : bY := (⟨"SpanCopierModel", "readBookLine", "()Z"⟩, prog_15_method_117_code, (Option.some Jvm.ClassFile.FieldType.boolean))
theorem emp281 : dk_mp (ey281, 3) 0 := ⟨⟨bW_of (dk_tw_mem (n := 8131) rfl) rfl, bW_of (dk_tw_mem (n := 1015) rfl) rfl, by decide +kernel, by decide +kernel, by decide, by decide +kernel, by decide +kernel⟩, fun _ => ⟨bW_of (dk_tw_mem (n := 8130) rfl) rfl, bW_of (dk_sel (j := 182) (n := _) (by rfl)) rfl⟩, (fun h => absurd h (by decide)), (fun h => absurd h (by decide))⟩
/-- SpanCopierModel.goBy(I)I -/
def ey282 : bY := (⟨"SpanCopierModel", "goBy", "(I)I"⟩, prog_15_method_118_code, (Option.some Jvm.ClassFile.FieldType.int))
theorem emp282 : dk_mp (ey282, 5) 0 := ⟨⟨bW_of (dk_tw_mem (n := 8139) rfl) rfl, bW_of (dk_tw_mem (n := 1015) rfl) rfl, by decide +kernel, by decide +kernel, by decide, by decide +kernel, by decide +kernel⟩, fun _ => ⟨bW_of (dk_tw_mem (n := 8138) rfl) rfl, bW_of (dk_sel (j := 184) (n := _) (by rfl)) rfl⟩, (fun h => absurd h (by decide)), (fun h => absurd h (by decide))⟩
/-- SpanCopierModel.stay(Z)V -/
def ey284 : bY := (⟨"SpanCopierModel", "stay", "(Z)V"⟩, prog_15_method_120_code, (Option.none : Option Jvm.ClassFile.FieldType))
theorem emp284 : dk_mp (ey284, 2) 0 := ⟨⟨bW_of (dk_tw_mem (n := 8143) rfl) rfl, bW_of (dk_tw_mem (n := 1015) rfl) rfl, by decide +kernel, by decide +kernel, by decide, by decide +kernel, by decide +kernel⟩, fun _ => ⟨bW_of (dk_tw_mem (n := 8142) rfl) rfl, bW_of (dk_sel (j := 185) (n := _) (by rfl)) rfl⟩, (fun h => absurd h (by decide)), (fun h => absurd h (by decide))⟩
/-- SpanCopierModel.book(I)I -/
def ey283 : bY := (⟨"SpanCopierModel", "book", "(I)I"⟩, prog_15_method_119_code, (Option.some Jvm.ClassFile.FieldType.int))
theorem emp283 : dk_mp (ey283, 4) 0 := ⟨⟨bW_of (dk_tw_mem (n := 8127) rfl) rfl, bW_of (dk_tw_mem (n := 1015) rfl) rfl, by decide +kernel, by decide +kernel, by decide, by decide +kernel, by decide +kernel⟩, fun _ => ⟨bW_of (dk_tw_mem (n := 8125) rfl) rfl, bW_of (dk_tw_mem (n := 8126) rfl) rfl⟩, (fun h => absurd h (by decide)), (fun h => absurd h (by decide))⟩
/-- SpanCopierModel.told(I)I -/
def ey285 : bY := (⟨"SpanCopierModel", "told", "(I)I"⟩, prog_15_method_121_code, (Option.some Jvm.ClassFile.FieldType.int))
theorem emp285 : dk_mp (ey285, 2) 0 := ⟨⟨bW_of (dk_tw_mem (n := 8147) rfl) rfl, bW_of (dk_tw_mem (n := 1015) rfl) rfl, by decide +kernel, by decide +kernel, by decide, by decide +kernel, by decide +kernel⟩, fun _ => ⟨bW_of (dk_tw_mem (n := 8145) rfl) rfl, bW_of (dk_tw_mem (n := 8146) rfl) rfl⟩, (fun h => absurd h (by decide)), (fun h => absurd h (by decide))⟩
/-- SpanCopierModel.readCompare(I)Z -/
def ey293 : bY := (⟨"SpanCopierModel", "readCompare", "(I)Z"⟩, prog_15_method_129_code, (Option.some Jvm.ClassFile.FieldType.boolean))
theorem emp293 : dk_mp (ey293, 3) 0 := ⟨⟨bW_of (dk_tw_mem (n := 8183) rfl) rfl, bW_of (dk_tw_mem (n := 1015) rfl) rfl, by decide +kernel, by decide +kernel, by decide, by decide +kernel, by decide +kernel⟩, fun _ => ⟨bW_of (dk_tw_mem (n := 8182) rfl) rfl, bW_of (dk_sel (j := 193) (n := _) (by rfl)) rfl⟩, (fun h => absurd h (by decide)), (fun h => absurd h (by decide))⟩
/-- SpanCopierModel.readOf(I)Z -/
def ey292 : bY := (⟨"SpanCopierModel", "readOf", "(I)Z"⟩, prog_15_method_128_code, (Option.some Jvm.ClassFile.FieldType.boolean))
theorem emp292 : dk_mp (ey292, 2) 0 := ⟨⟨bW_of (dk_tw_mem (n := 8179) rfl) rfl, bW_of (dk_tw_mem (n := 1015) rfl) rfl, by decide +kernel, by decide +kernel, by decide, by decide +kernel, by decide +kernel⟩, fun _ => ⟨bW_of (dk_tw_mem (n := 8178) rfl) rfl, bW_of (dk_sel (j := 192) (n := _) (by rfl)) rfl⟩, (fun h => absurd h (by decide)), (fun h => absurd h (by decide))⟩
/-- SpanCopierModel.readSaid()Z -/
def ey289 : bY := (⟨"SpanCopierModel", "readSaid", "()Z"⟩, prog_15_method_125_code, (Option.some Jvm.ClassFile.FieldType.boolean))
theorem emp289 : dk_mp (ey289, 4) 0 := ⟨⟨bW_of (dk_tw_mem (n := 8163) rfl) rfl, bW_of (dk_tw_mem (n := 1015) rfl) rfl, by decide +kernel, by decide +kernel, by decide, by decide +kernel, by decide +kernel⟩, fun _ => ⟨bW_of (dk_tw_mem (n := 8162) rfl) rfl, bW_of (dk_sel (j := 188) (n := _) (by rfl)) rfl⟩, (fun h => absurd h (by decide)), (fun h => absurd h (by decide))⟩
/-- SpanCopierModel.readNot()Z -/
def ey290 : bY := (⟨"SpanCopierModel", "readNot", "()Z"⟩, prog_15_method_126_code, (Option.some Jvm.ClassFile.FieldType.boolean))
theorem emp290 : dk_mp (ey290, 1) 0 := ⟨⟨bW_of (dk_tw_mem (n := 8171) rfl) rfl, bW_of (dk_tw_mem (n := 1015) rfl) rfl, by decide +kernel, by decide +kernel, by decide, by decide +kernel, by decide +kernel⟩, fun _ => ⟨bW_of (dk_tw_mem (n := 8170) rfl) rfl, bW_of (dk_sel (j := 190) (n := _) (by rfl)) rfl⟩, (fun h => absurd h (by decide)), (fun h => absurd h (by decide))⟩
/-- SpanCopierModel.readAnd()Z -/
def ey288 : bY := (⟨"SpanCopierModel", "readAnd", "()Z"⟩, prog_15_method_124_code, (Option.some Jvm.ClassFile.FieldType.boolean))
theorem emp288 : dk_mp (ey288, 2) 0 := ⟨⟨bW_of (dk_tw_mem (n := 8159) rfl) rfl, bW_of (dk_tw_mem (n := 1015) rfl) rfl, by decide +kernel, by decide +kernel, by decide, by decide +kernel, by decide +kernel⟩, fun _ => ⟨bW_of (dk_tw_mem (n := 8158) rfl) rfl, bW_of (dk_sel (j := 187) (n := _) (by rfl)) rfl⟩, (fun h => absurd h (by decide)), (fun h => absurd h (by decide))⟩
/-- SpanCopierModel.readOr()Z -/
def ey287 : bY := (⟨"SpanCopierModel", "readOr", "()Z"⟩, prog_15_method_123_code, (Option.some Jvm.ClassFile.FieldType.boolean))
theorem emp287 : dk_mp (ey287, 2) 0 := ⟨⟨bW_of (dk_tw_mem (n := 8155) rfl) rfl, bW_of (dk_tw_mem (n := 1015) rfl) rfl, by decide +kernel, by decide +kernel, by decide, by decide +kernel, by decide +kernel⟩, fun _ => ⟨bW_of (dk_tw_mem (n := 8154) rfl) rfl, bW_of (dk_sel (j := 186) (n := _) (by rfl)) rfl⟩, (fun h => absurd h (by decide)), (fun h => absurd h (by decide))⟩
/-- SpanCopierModel.readBracket()Z -/
def ey291 : bY := (⟨"SpanCopierModel", "readBracket", "()Z"⟩, prog_15_method_127_code, (Option.some Jvm.ClassFile.FieldType.boolean))
theorem emp291 : dk_mp (ey291, 1) 0 := ⟨⟨bW_of (dk_tw_mem (n := 8167) rfl) rfl, bW_of (dk_tw_mem (n := 1015) rfl) rfl, by decide +kernel, by decide +kernel, by decide, by decide +kernel, by decide +kernel⟩, fun _ => ⟨bW_of (dk_tw_mem (n := 8166) rfl) rfl, bW_of (dk_sel (j := 189) (n := _) (by rfl)) rfl⟩, (fun h => absurd h (by decide)), (fun h => absurd h (by decide))⟩
/-- SpanCopierModel.said(I)I -/
def ey296 : bY := (⟨"SpanCopierModel", "said", "(I)I"⟩, prog_15_method_132_code, (Option.some Jvm.ClassFile.FieldType.int))
theorem emp296 : dk_mp (ey296, 4) 0 := ⟨⟨bW_of (dk_tw_mem (n := 8187) rfl) rfl, bW_of (dk_tw_mem (n := 1015) rfl) rfl, by decide +kernel, by decide +kernel, by decide, by decide +kernel, by decide +kernel⟩, fun _ => ⟨bW_of (dk_tw_mem (n := 8185) rfl) rfl, bW_of (dk_tw_mem (n := 8186) rfl) rfl⟩, (fun h => absurd h (by decide)), (fun h => absurd h (by decide))⟩
/-- SpanCopierModel.count(I)I -/
def ey299 : bY := (⟨"SpanCopierModel", "count", "(I)I"⟩, prog_15_method_135_code, (Option.some Jvm.ClassFile.FieldType.int))
theorem emp299 : dk_mp (ey299, 2) 0 := ⟨⟨bW_of (dk_tw_mem (n := 8203) rfl) rfl, bW_of (dk_tw_mem (n := 1015) rfl) rfl, by decide +kernel, by decide +kernel, by decide, by decide +kernel, by decide +kernel⟩, fun _ => ⟨bW_of (dk_tw_mem (n := 8201) rfl) rfl, bW_of (dk_tw_mem (n := 8202) rfl) rfl⟩, (fun h => absurd h (by decide)), (fun h => absurd h (by decide))⟩
/-- SpanCopierModel.go()V -/
def ey180 : bY := (⟨"SpanCopierModel", "go", "()V"⟩, prog_15_method_16_code, (Option.none : Option Jvm.ClassFile.FieldType))
theorem emp180 : dk_mp (ey180, 5) 0 := ⟨⟨bW_of (dk_tw_mem (n := 6210) rfl) rfl, bW_of (dk_tw_mem (n := 1015) rfl) rfl, by decide +kernel, by decide +kernel, by decide, by decide +kernel, by decide +kernel⟩, fun _ => ⟨bW_of (dk_tw_mem (n := 6209) rfl) rfl, bW_of (dk_sel (j := 115) (n := _) (by rfl)) rfl⟩, (fun h => absurd h (by decide)), (fun h => absurd h (by decide))⟩
