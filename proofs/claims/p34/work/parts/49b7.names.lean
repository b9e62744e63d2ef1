/-- SpanCopierModel.startRead()V -/
def ey191 : bY := (⟨"SpanCopierModel", "startRead", "()V"⟩, prog_15_method_27_code, (Option.none : Option Jvm.ClassFile.FieldType))
theorem emp191 : dk_mp (ey191, 2) 0 := ⟨⟨bW_of (dk_tw_mem (n := 6067) rfl) rfl, bW_of (dk_tw_mem (n := 1015) rfl) rfl, by decide +kernel, by decide +kernel, by decide, by decide +kernel, by decide +kernel⟩, fun _ => ⟨bW_of (dk_tw_mem (n := 6066) rfl) rfl, bW_of (dk_sel (j := 110) (n := _) (by rfl)) rfl⟩, (fun h => absurd h (by decide)), (fun h => absurd h (by decide))⟩
/-- SpanCopierModel.saveTaker()V -/
def ey193 : bY := (⟨"SpanCopierModel", "saveTaker", "()V"⟩, prog_15_method_29_code, (Option.none : Option Jvm.ClassFile.FieldType))
theorem emp193 : dk_mp (ey193, 2) 0 := ⟨⟨bW_of (dk_tw_mem (n := 6075) rfl) rfl, bW_of (dk_tw_mem (n := 1015) rfl) rfl, by decide +kernel, by decide +kernel, by decide, by decide +kernel, by decide +kernel⟩, fun _ => ⟨bW_of (dk_tw_mem (n := 6074) rfl) rfl, bW_of (dk_sel (j := 112) (n := _) (by rfl)) rfl⟩, (fun h => absurd h (by decide)), (fun h => absurd h (by decide))⟩
/-- SpanCopierModel.startSo()V -/
def ey192 : bY := (⟨"SpanCopierModel", "startSo", "()V"⟩, prog_15_method_28_code, (Option.none : Option Jvm.ClassFile.FieldType))
theorem emp192 : dk_mp (ey192, 2) 0 := ⟨⟨bW_of (dk_tw_mem (n := 6071) rfl) rfl, bW_of (dk_tw_mem (n := 1015) rfl) rfl, by decide +kernel, by decide +kernel, by decide, by decide +kernel, by decide +kernel⟩, fun _ => ⟨bW_of (dk_tw_mem (n := 6070) rfl) rfl, bW_of (dk_sel (j := 111) (n := _) (by rfl)) rfl⟩, (fun h => absurd h (by decide)), (fun h => absurd h (by decide))⟩
/-- SpanCopierModel.sends(III)I -/
def ey216 : bY := (⟨"SpanCopierModel", "sends", "(III)I"⟩, prog_15_method_52_code, (Option.some Jvm.ClassFile.FieldType.int))
theorem emp216 : dk_mp (ey216, 6) 0 := ⟨⟨bW_of (dk_tw_mem (n := 7128) rfl) rfl, bW_of (dk_tw_mem (n := 1015) rfl) rfl, by decide +kernel, by decide +kernel, by decide, by decide +kernel, by decide +kernel⟩, fun _ => ⟨bW_of (dk_tw_mem (n := 7127) rfl) rfl, bW_of (dk_sel (j := 144) (n := _) (by rfl)) rfl⟩, (fun h => absurd h (by decide)), (fun h => absurd h (by decide))⟩
/-- SpanCopierModel.sendData(II)V -/
def ey217 : bY := (⟨"SpanCopierModel", "sendData", "(II)V"⟩, prog_15_method_53_code, (Option.none : Option Jvm.ClassFile.FieldType))
theorem emp217 : dk_mp (ey217, 5) 0 := ⟨⟨bW_of (dk_tw_mem (n := 7176) rfl) rfl, bW_of (dk_tw_mem (n := 1015) rfl) rfl, by decide +kernel, by decide +kernel, by decide, by decide +kernel, by decide +kernel⟩, fun _ => ⟨bW_of (dk_tw_mem (n := 7175) rfl) rfl, bW_of (dk_sel (j := 156) (n := _) (by rfl)) rfl⟩, (fun h => absurd h (by decide)), (fun h => absurd h (by decide))⟩
/-- SpanCopierModel.sendNakOf(II)V -/
def ey219 : bY := (⟨"SpanCopierModel", "sendNakOf", "(II)V"⟩, prog_15_method_55_code, (Option.none : Option Jvm.ClassFile.FieldType))
theorem emp219 : dk_mp (ey219, 4) 0 := ⟨⟨bW_of (dk_tw_mem (n := 7124) rfl) rfl, bW_of (dk_tw_mem (n := 1015) rfl) rfl, by decide +kernel, by decide +kernel, by decide, by decide +kernel, by decide +kernel⟩, fun _ => ⟨bW_of (dk_tw_mem (n := 7123) rfl) rfl, bW_of (dk_sel (j := 143) (n := _) (by rfl)) rfl⟩, (fun h => absurd h (by decide)), (fun h => absurd h (by decide))⟩
/-- SpanCopierModel.spansOf(I)I -/
def ey212 : bY := (⟨"SpanCopierModel", "spansOf", "(I)I"⟩, prog_15_method_48_code, (Option.some Jvm.ClassFile.FieldType.int))
theorem emp212 : dk_mp (ey212, 4) 0 := ⟨⟨bW_of (dk_tw_mem (n := 7136) rfl) rfl, bW_of (dk_tw_mem (n := 1015) rfl) rfl, by decide +kernel, by decide +kernel, by decide, by decide +kernel, by decide +kernel⟩, fun _ => ⟨bW_of (dk_tw_mem (n := 7135) rfl) rfl, bW_of (dk_sel (j := 146) (n := _) (by rfl)) rfl⟩, (fun h => absurd h (by decide)), (fun h => absurd h (by decide))⟩
/-- SpanCopierModel.sendNak()V -/
def ey220 : bY := (⟨"SpanCopierModel", "sendNak", "()V"⟩, prog_15_method_56_code, (Option.none : Option Jvm.ClassFile.FieldType))
theorem emp220 : dk_mp (ey220, 4) 0 := ⟨⟨bW_of (dk_tw_mem (n := 7148) rfl) rfl, bW_of (dk_tw_mem (n := 1015) rfl) rfl, by decide +kernel, by decide +kernel, by decide, by decide +kernel, by decide +kernel⟩, fun _ => ⟨bW_of (dk_tw_mem (n := 7147) rfl) rfl, bW_of (dk_sel (j := 149) (n := _) (by rfl)) rfl⟩, (fun h => absurd h (by decide)), (fun h => absurd h (by decide))⟩
/-- SpanCopierModel.allCome()V -/
def ey229 : bY := (⟨"SpanCopierModel", "allCome", "()V"⟩, prog_15_method_65_code, (Option.none : Option Jvm.ClassFile.FieldType))
theorem emp229 : dk_mp (ey229, 3) 0 := ⟨⟨bW_of (dk_tw_mem (n := 7100) rfl) rfl, bW_of (dk_tw_mem (n := 1015) rfl) rfl, by decide +kernel, by decide +kernel, by decide, by decide +kernel, by decide +kernel⟩, fun _ => ⟨bW_of (dk_tw_mem (n := 7099) rfl) rfl, bW_of (dk_sel (j := 137) (n := _) (by rfl)) rfl⟩, (fun h => absurd h (by decide)), (fun h => absurd h (by decide))⟩
/-- SpanCopierModel.save([II)V -/
def ey242 : bY := (⟨"SpanCopierModel", "save", "([II)V"⟩, prog_15_method_78_code, (Option.none : Option Jvm.ClassFile.FieldType))
theorem emp242 : dk_mp (ey242, 4) 0 := ⟨⟨bW_of (dk_tw_mem (n := 7081) rfl) rfl, bW_of (dk_tw_mem (n := 1015) rfl) rfl, by decide +kernel, by decide +kernel, by decide, by decide +kernel, by decide +kernel⟩, fun _ => ⟨bW_of (dk_tw_mem (n := 7080) rfl) rfl, bW_of (dk_sel (j := 134) (n := _) (by rfl)) rfl⟩, (fun h => absurd h (by decide)), (fun h => absurd h (by decide))⟩
/-- SpanCopierModel.comeBack([II)V -/
def ey243 : bY := (⟨"SpanCopierModel", "comeBack", "([II)V"⟩, prog_15_method_79_code, (Option.none : Option Jvm.ClassFile.FieldType))
theorem emp243 : dk_mp (ey243, 4) 0 := ⟨⟨bW_of (dk_tw_mem (n := 7069) rfl) rfl, bW_of (dk_tw_mem (n := 1015) rfl) rfl, by decide +kernel, by decide +kernel, by decide, by decide +kernel, by decide +kernel⟩, fun _ => ⟨bW_of (dk_tw_mem (n := 7068) rfl) rfl, bW_of (dk_sel (j := 132) (n := _) (by rfl)) rfl⟩, (fun h => absurd h (by decide)), (fun h => absurd h (by decide))⟩
/-- SpanCopierModel.snap()V -/
def ey244 : bY := (⟨"SpanCopierModel", "snap", "()V"⟩, prog_15_method_80_code, (Option.none : Option Jvm.ClassFile.FieldType))
theorem emp244 : dk_mp (ey244, 2) 0 := ⟨⟨bW_of (dk_tw_mem (n := 7077) rfl) rfl, bW_of (dk_tw_mem (n := 1015) rfl) rfl, by decide +kernel, by decide +kernel, by decide, by decide +kernel, by decide +kernel⟩, fun _ => ⟨bW_of (dk_tw_mem (n := 7076) rfl) rfl, bW_of (dk_sel (j := 133) (n := _) (by rfl)) rfl⟩, (fun h => absurd h (by decide)), (fun h => absurd h (by decide))⟩
/-- SpanCopierModel.live(III)V -/
def ey250 : bY := (⟨"SpanCopierModel", "live", "(III)V"⟩, prog_15_method_86_code, (Option.none : Option Jvm.ClassFile.FieldType))
theorem emp250 : dk_mp (ey250, 6) 0 := ⟨⟨bW_of (dk_tw_mem (n := 8007) rfl) rfl, bW_of (dk_tw_mem (n := 1015) rfl) rfl, by decide +kernel, by decide +kernel, by decide, by decide +kernel, by decide +kernel⟩, fun _ => ⟨bW_of (dk_tw_mem (n := 8006) rfl) rfl, bW_of (dk_sel (j := 172) (n := _) (by rfl)) rfl⟩, (fun h => absurd h (by decide)), (fun h => absurd h (by decide))⟩
/-- SpanCopierModel.span(III)I -/
def ey262 : bY := (⟨"SpanCopierModel", "span", "(III)I"⟩, prog_15_method_98_code, (Option.some Jvm.ClassFile.FieldType.int))
theorem emp262 : dk_mp (ey262, 4) 0 := ⟨⟨bW_of (dk_tw_mem (n := 8054) rfl) rfl, bW_of (dk_tw_mem (n := 1015) rfl) rfl, by decide +kernel, by decide +kernel, by decide, by decide +kernel, by decide +kernel⟩, fun _ => ⟨bW_of (dk_tw_mem (n := 8052) rfl) rfl, bW_of (dk_tw_mem (n := 8053) rfl) rfl⟩, (fun h => absurd h (by decide)), (fun h => absurd h (by decide))⟩
/-- SpanCopierModel.need()I -/
def ey269 : bY := (⟨"SpanCopierModel", "need", "()I"⟩, prog_15_method_105_code, (Option.some Jvm.ClassFile.FieldType.int))
theorem emp269 : dk_mp (ey269, 3) 0 := ⟨⟨bW_of (dk_tw_mem (n := 8082) rfl) rfl, bW_of (dk_tw_mem (n := 1015) rfl) rfl, by decide +kernel, by decide +kernel, by decide, by decide +kernel, by decide +kernel⟩, fun _ => ⟨bW_of (dk_tw_mem (n := 8080) rfl) rfl, bW_of (dk_tw_mem (n := 8081) rfl) rfl⟩, (fun h => absurd h (by decide)), (fun h => absurd h (by decide))⟩
/-- SpanCopierModel.saysOne(IIII)I -/
def ey286 : bY := (⟨"SpanCopierModel", "saysOne", "(IIII)I"⟩, prog_15_method_122_code, (Option.some Jvm.ClassFile.FieldType.int))
theorem emp286 : dk_mp (ey286, 6) 0 := ⟨⟨bW_of (dk_tw_mem (n := 8175) rfl) rfl, bW_of (dk_tw_mem (n := 1015) rfl) rfl, by decide +kernel, by decide +kernel, by decide, by decide +kernel, by decide +kernel⟩, fun _ => ⟨bW_of (dk_tw_mem (n := 8174) rfl) rfl, bW_of (dk_sel (j := 191) (n := _) (by rfl)) rfl⟩, (fun h => absurd h (by decide)), (fun h => absurd h (by decide))⟩
/-- SpanCopierModel.sentence()I -/
def ey294 : bY := (⟨"SpanCopierModel", "sentence", "()I"⟩, prog_15_method_130_code, (Option.some Jvm.ClassFile.FieldType.int))
theorem emp294 : dk_mp (ey294, 2) 0 := ⟨⟨bW_of (dk_tw_mem (n := 8151) rfl) rfl, bW_of (dk_tw_mem (n := 1015) rfl) rfl, by decide +kernel, by decide +kernel, by decide, by decide +kernel, by decide +kernel⟩, fun _ => ⟨bW_of (dk_tw_mem (n := 8149) rfl) rfl, bW_of (dk_tw_mem (n := 8150) rfl) rfl⟩, (fun h => absurd h (by decide)), (fun h => absurd h (by decide))⟩
/-- SpanCopierModel.holds(II)Z -/
def ey295 : bY := (⟨"SpanCopierModel", "holds", "(II)Z"⟩, prog_15_method_131_code, (Option.some Jvm.ClassFile.FieldType.boolean))
theorem emp295 : dk_mp (ey295, 8) 0 := ⟨⟨bW_of (dk_tw_mem (n := 8191) rfl) rfl, bW_of (dk_tw_mem (n := 1015) rfl) rfl, by decide +kernel, by decide +kernel, by decide, by decide +kernel, by decide +kernel⟩, fun _ => ⟨bW_of (dk_tw_mem (n := 8190) rfl) rfl, bW_of (dk_sel (j := 194) (n := _) (by rfl)) rfl⟩, (fun h => absurd h (by decide)), (fun h => absurd h (by decide))⟩
/-- SpanCopierModel.image(I)Z -/
def ey297 : bY := (⟨"SpanCopierModel", "image", "(I)Z"⟩, prog_15_method_133_code, (Option.some Jvm.ClassFile.FieldType.boolean))
theorem emp297 : dk_mp (ey297, 3) 0 := ⟨⟨bW_of (dk_tw_mem (n := 8195) rfl) rfl, bW_of (dk_tw_mem (n := 1015) rfl) rfl, by decide +kernel, by decide +kernel, by decide, by decide +kernel, by decide +kernel⟩, fun _ => ⟨bW_of (dk_tw_mem (n := 8193) rfl) rfl, bW_of (dk_tw_mem (n := 8194) rfl) rfl⟩, (fun h => absurd h (by decide)), (fun h => absurd h (by decide))⟩
/-- SpanCopierModel.restore(I)Z -/
def ey298 : bY := (⟨"SpanCopierModel", "restore", "(I)Z"⟩, prog_15_method_134_code, (Option.some Jvm.ClassFile.FieldType.boolean))
theorem emp298 : dk_mp (ey298, 3) 0 := ⟨⟨bW_of (dk_tw_mem (n := 8199) rfl) rfl, bW_of (dk_tw_mem (n := 1015) rfl) rfl, by decide +kernel, by decide +kernel, by decide, by decide +kernel, by decide +kernel⟩, fun _ => ⟨bW_of (dk_tw_mem (n := 8197) rfl) rfl, bW_of (dk_tw_mem (n := 8198) rfl) rfl⟩, (fun h => absurd h (by decide)), (fun h => absurd h (by decide))⟩
/-- Word.of(J)LSpanCopier.Word; -/
def ey106 : bY := (⟨"SpanCopier$Word", "of", "(J)LSpanCopier$Word;"⟩, prog_12_method_5_code, (Option.some (Jvm.ClassFile.FieldType.object "SpanCopier$Word")))
theorem emp106 : dk_mp (ey106, 3) 2 := ⟨⟨bW_of (dk_tw_mem (n := 2226) rfl) rfl, bW_of (dk_tw_mem (n := 1004) rfl) rfl, by decide +kernel, by decide +kernel, by decide, by decide +kernel, by decide +kernel⟩, (fun h => absurd h (by decide)), (fun h => absurd h (by decide)), fun _ => bW_of (dk_tw_mem (n := 2225) rfl) rfl⟩
/-- SpanCopier.unit(II)I -/
def ey146 : bY := (⟨"SpanCopier", "unit", "(II)I"⟩, prog_1_method_21_code, (Option.some Jvm.ClassFile.FieldType.int))
theorem emp146 : dk_mp (ey146, 4) 0 := ⟨⟨bW_of (dk_tw_mem (n := 5215) rfl) rfl, bW_of (dk_tw_mem (n := 1001) rfl) rfl, by decide +kernel, by decide +kernel, by decide, by decide +kernel, by decide +kernel⟩, fun _ => ⟨bW_of (dk_tw_mem (n := 5213) rfl) rfl, bW_of (dk_tw_mem (n := 5214) rfl) rfl⟩, (fun h => absurd h (by decide)), (fun h => absurd h (by decide))⟩
/-- SpanCopier.sum(I)I -/
def ey151 : bY := (⟨"SpanCopier", "sum", "(I)I"⟩, prog_1_method_26_code, (Option.some Jvm.ClassFile.FieldType.int))
theorem emp151 : dk_mp (ey151, 2) 0 := ⟨⟨bW_of (dk_tw_mem (n := 6044) rfl) rfl, bW_of (dk_tw_mem (n := 1001) rfl) rfl, by decide +kernel, by decide +kernel, by decide, by decide +kernel, by decide +kernel⟩, fun _ => ⟨bW_of (dk_tw_mem (n := 6042) rfl) rfl, bW_of (dk_tw_mem (n := 6043) rfl) rfl⟩, (fun h => absurd h (by decide)), (fun h => absurd h (by decide))⟩
/-- SpanCopierModel.<init>()V -/
def ey190 : bY := (⟨"SpanCopierModel", "<init>", "()V"⟩, prog_15_method_26_code, (Option.none : Option Jvm.ClassFile.FieldType))
theorem emp190 : dk_mp (ey190, 2) 1 := ⟨⟨bW_of (dk_tw_mem (n := 6062) rfl) rfl, bW_of (dk_tw_mem (n := 1015) rfl) rfl, by decide +kernel, by decide +kernel, by decide, by decide +kernel, by decide +kernel⟩, (fun h => absurd h (by decide)), fun _ => ⟨bW_of (dk_tw_mem (n := 6061) rfl) rfl, rfl⟩, (fun h => absurd h (by decide))⟩
/-- SpanCopierModel.drop(I)V -/
def ey221 : bY := (⟨"SpanCopierModel", "drop", "(I)V"⟩, prog_15_method_57_code, (Option.none : Option Jvm.ClassFile.FieldType))
theorem emp221 : dk_mp (ey221, 3) 0 := ⟨⟨bW_of (dk_tw_mem (n := 7108) rfl) rfl, bW_of (dk_tw_mem (n := 1015) rfl) rfl, by decide +kernel, by decide +kernel, by decide, by decide +kernel, by decide +kernel⟩, fun _ => ⟨bW_of (dk_tw_mem (n := 7107) rfl) rfl, bW_of (dk_sel (j := 139) (n := _) (by rfl)) rfl⟩, (fun h => absurd h (by decide)), (fun h => absurd h (by decide))⟩
