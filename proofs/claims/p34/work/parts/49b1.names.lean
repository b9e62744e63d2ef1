/-- Places.mark(II)V -/
def ey35 : bY := (⟨"SpanCopier$Places", "mark", "(II)V"⟩, prog_6_method_5_code, (Option.none : Option Jvm.ClassFile.FieldType))
theorem emp35 : dk_mp (ey35, 4) 0 := ⟨⟨bW_of (dk_tw_mem (n := 3208) rfl) rfl, bW_of (dk_tw_mem (n := 1009) rfl) rfl, by decide +kernel, by decide +kernel, by decide, by decide +kernel, by decide +kernel⟩, fun _ => ⟨bW_of (dk_tw_mem (n := 3207) rfl) rfl, bW_of (dk_sel (j := 42) (n := _) (by rfl)) rfl⟩, (fun h => absurd h (by decide)), (fun h => absurd h (by decide))⟩
/-- Places.unmark(II)Z -/
def ey36 : bY := (⟨"SpanCopier$Places", "unmark", "(II)Z"⟩, prog_6_method_6_code, (Option.some Jvm.ClassFile.FieldType.boolean))
theorem emp36 : dk_mp (ey36, 5) 0 := ⟨⟨bW_of (dk_tw_mem (n := 3237) rfl) rfl, bW_of (dk_tw_mem (n := 1009) rfl) rfl, by decide +kernel, by decide +kernel, by decide, by decide +kernel, by decide +kernel⟩, fun _ => ⟨bW_of (dk_tw_mem (n := 3236) rfl) rfl, bW_of (dk_sel (j := 48) (n := _) (by rfl)) rfl⟩, (fun h => absurd h (by decide)), (fun h => absurd h (by decide))⟩
/-- Places.nextFrom(I)I -/
def ey37 : bY := (⟨"SpanCopier$Places", "nextFrom", "(I)I"⟩, prog_6_method_7_code, (Option.some Jvm.ClassFile.FieldType.int))
theorem emp37 : dk_mp (ey37, 3) 0 := ⟨⟨bW_of (dk_tw_mem (n := 3219) rfl) rfl, bW_of (dk_tw_mem (n := 1009) rfl) rfl, by decide +kernel, by decide +kernel, by decide, by decide +kernel, by decide +kernel⟩, fun _ => ⟨bW_of (dk_tw_mem (n := 3218) rfl) rfl, bW_of (dk_sel (j := 44) (n := _) (by rfl)) rfl⟩, (fun h => absurd h (by decide)), (fun h => absurd h (by decide))⟩
/-- Places.endOf(I)I -/
def ey38 : bY := (⟨"SpanCopier$Places", "endOf", "(I)I"⟩, prog_6_method_8_code, (Option.some Jvm.ClassFile.FieldType.int))
theorem emp38 : dk_mp (ey38, 3) 0 := ⟨⟨bW_of (dk_tw_mem (n := 3223) rfl) rfl, bW_of (dk_tw_mem (n := 1009) rfl) rfl, by decide +kernel, by decide +kernel, by decide, by decide +kernel, by decide +kernel⟩, fun _ => ⟨bW_of (dk_tw_mem (n := 3222) rfl) rfl, bW_of (dk_sel (j := 45) (n := _) (by rfl)) rfl⟩, (fun h => absurd h (by decide)), (fun h => absurd h (by decide))⟩
/-- Places.startsSpan(I)Z -/
def ey39 : bY := (⟨"SpanCopier$Places", "startsSpan", "(I)Z"⟩, prog_6_method_9_code, (Option.some Jvm.ClassFile.FieldType.boolean))
theorem emp39 : dk_mp (ey39, 2) 0 := ⟨⟨bW_of (dk_tw_mem (n := 4174) rfl) rfl, bW_of (dk_tw_mem (n := 1009) rfl) rfl, by decide +kernel, by decide +kernel, by decide, by decide +kernel, by decide +kernel⟩, fun _ => ⟨bW_of (dk_tw_mem (n := 4173) rfl) rfl, bW_of (dk_sel (j := 79) (n := _) (by rfl)) rfl⟩, (fun h => absurd h (by decide)), (fun h => absurd h (by decide))⟩
/-- Places.countSpans()I -/
def ey40 : bY := (⟨"SpanCopier$Places", "countSpans", "()I"⟩, prog_6_method_10_code, (Option.some Jvm.ClassFile.FieldType.int))
theorem emp40 : dk_mp (ey40, 3) 0 := ⟨⟨bW_of (dk_tw_mem (n := 4170) rfl) rfl, bW_of (dk_tw_mem (n := 1009) rfl) rfl, by decide +kernel, by decide +kernel, by decide, by decide +kernel, by decide +kernel⟩, fun _ => ⟨bW_of (dk_tw_mem (n := 4169) rfl) rfl, bW_of (dk_sel (j := 78) (n := _) (by rfl)) rfl⟩, (fun h => absurd h (by decide)), (fun h => absurd h (by decide))⟩
/-- Places.edge(II)I -/
def ey41 : bY := (⟨"SpanCopier$Places", "edge", "(II)I"⟩, prog_6_method_11_code, (Option.some Jvm.ClassFile.FieldType.int))
theorem emp41 : dk_mp (ey41, 5) 0 := ⟨⟨bW_of (dk_tw_mem (n := 4191) rfl) rfl, bW_of (dk_tw_mem (n := 1009) rfl) rfl, by decide +kernel, by decide +kernel, by decide, by decide +kernel, by decide +kernel⟩, fun _ => ⟨bW_of (dk_tw_mem (n := 4190) rfl) rfl, bW_of (dk_sel (j := 80) (n := _) (by rfl)) rfl⟩, (fun h => absurd h (by decide)), (fun h => absurd h (by decide))⟩
/-- Link.<init>()V -/
def ey5 : bY := (⟨"SpanCopier$Link", "<init>", "()V"⟩, prog_4_method_1_code, (Option.none : Option Jvm.ClassFile.FieldType))
theorem emp5 : dk_mp (ey5, 1) 1 := ⟨⟨bW_of (dk_tw_mem (n := 1126) rfl) rfl, bW_of (dk_tw_mem (n := 1007) rfl) rfl, by decide +kernel, by decide +kernel, by decide, by decide +kernel, by decide +kernel⟩, (fun h => absurd h (by decide)), fun _ => ⟨bW_of (dk_tw_mem (n := 1125) rfl) rfl, rfl⟩, (fun h => absurd h (by decide))⟩
/-- Link.clear()V -/
def ey6 : bY := (⟨"SpanCopier$Link", "clear", "()V"⟩, prog_4_method_2_code, (Option.none : Option Jvm.ClassFile.FieldType))
theorem emp6 : dk_mp (ey6, 1) 0 := ⟨⟨bW_of (dk_tw_mem (n := 3081) rfl) rfl, bW_of (dk_tw_mem (n := 1007) rfl) rfl, by decide +kernel, by decide +kernel, by decide, by decide +kernel, by decide +kernel⟩, fun _ => ⟨bW_of (dk_tw_mem (n := 3080) rfl) rfl, bW_of (dk_sel (j := 20) (n := _) (by rfl)) rfl⟩, (fun h => absurd h (by decide)), (fun h => absurd h (by decide))⟩
/-- Link.goesOut(I)Z -/
def ey8 : bY := (⟨"SpanCopier$Link", "goesOut", "(I)Z"⟩, prog_4_method_4_code, (Option.some Jvm.ClassFile.FieldType.boolean))
theorem emp8 : dk_mp (ey8, 1) 2 := ⟨⟨bW_of (dk_tw_mem (n := 3196) rfl) rfl, bW_of (dk_tw_mem (n := 1007) rfl) rfl, by decide +kernel, by decide +kernel, by decide, by decide +kernel, by decide +kernel⟩, (fun h => absurd h (by decide)), (fun h => absurd h (by decide)), fun _ => bW_of (dk_tw_mem (n := 3195) rfl) rfl⟩
/-- Link.spanFrom(I)I -/
def ey9 : bY := (⟨"SpanCopier$Link", "spanFrom", "(I)I"⟩, prog_4_method_5_code, (Option.some Jvm.ClassFile.FieldType.int))
theorem emp9 : dk_mp (ey9, 1) 2 := ⟨⟨bW_of (dk_tw_mem (n := 4022) rfl) rfl, bW_of (dk_tw_mem (n := 1007) rfl) rfl, by decide +kernel, by decide +kernel, by decide, by decide +kernel, by decide +kernel⟩, (fun h => absurd h (by decide)), (fun h => absurd h (by decide)), fun _ => bW_of (dk_tw_mem (n := 4021) rfl) rfl⟩
/-- Link.spanTo(I)I -/
def ey10 : bY := (⟨"SpanCopier$Link", "spanTo", "(I)I"⟩, prog_4_method_6_code, (Option.some Jvm.ClassFile.FieldType.int))
theorem emp10 : dk_mp (ey10, 1) 2 := ⟨⟨bW_of (dk_tw_mem (n := 4025) rfl) rfl, bW_of (dk_tw_mem (n := 1007) rfl) rfl, by decide +kernel, by decide +kernel, by decide, by decide +kernel, by decide +kernel⟩, (fun h => absurd h (by decide)), (fun h => absurd h (by decide)), fun _ => bW_of (dk_tw_mem (n := 4024) rfl) rfl⟩
/-- Link.has(I)Z -/
def ey11 : bY := (⟨"SpanCopier$Link", "has", "(I)Z"⟩, prog_4_method_7_code, (Option.some Jvm.ClassFile.FieldType.boolean))
theorem emp11 : dk_mp (ey11, 2) 0 := ⟨⟨bW_of (dk_tw_mem (n := 3185) rfl) rfl, bW_of (dk_tw_mem (n := 1007) rfl) rfl, by decide +kernel, by decide +kernel, by decide, by decide +kernel, by decide +kernel⟩, fun _ => ⟨bW_of (dk_tw_mem (n := 3184) rfl) rfl, bW_of (dk_sel (j := 37) (n := _) (by rfl)) rfl⟩, (fun h => absurd h (by decide)), (fun h => absurd h (by decide))⟩
/-- Link.copyFrom(LSpanCopier.Link;)V -/
def ey7 : bY := (⟨"SpanCopier$Link", "copyFrom", "(LSpanCopier$Link;)V"⟩, prog_4_method_3_code, (Option.none : Option Jvm.ClassFile.FieldType))
theorem emp7 : dk_mp (ey7, 2) 0 := ⟨⟨bW_of (dk_tw_mem (n := 3124) rfl) rfl, bW_of (dk_tw_mem (n := 1007) rfl) rfl, by decide +kernel, by decide +kernel, by decide, by decide +kernel, by decide +kernel⟩, fun _ => ⟨bW_of (dk_tw_mem (n := 3123) rfl) rfl, bW_of (dk_sel (j := 27) (n := _) (by rfl)) rfl⟩, (fun h => absurd h (by decide)), (fun h => absurd h (by decide))⟩
/-- Link.get(II)I -/
def ey12 : bY := (⟨"SpanCopier$Link", "get", "(II)I"⟩, prog_4_method_8_code, (Option.some Jvm.ClassFile.FieldType.int))
theorem emp12 : dk_mp (ey12, 3) 0 := ⟨⟨bW_of (dk_tw_mem (n := 3181) rfl) rfl, bW_of (dk_tw_mem (n := 1007) rfl) rfl, by decide +kernel, by decide +kernel, by decide, by decide +kernel, by decide +kernel⟩, fun _ => ⟨bW_of (dk_tw_mem (n := 3180) rfl) rfl, bW_of (dk_sel (j := 36) (n := _) (by rfl)) rfl⟩, (fun h => absurd h (by decide)), (fun h => absurd h (by decide))⟩
/-- Link.send(III)V -/
def ey13 : bY := (⟨"SpanCopier$Link", "send", "(III)V"⟩, prog_4_method_9_code, (Option.none : Option Jvm.ClassFile.FieldType))
theorem emp13 : dk_mp (ey13, 5) 0 := ⟨⟨bW_of (dk_tw_mem (n := 3228) rfl) rfl, bW_of (dk_tw_mem (n := 1007) rfl) rfl, by decide +kernel, by decide +kernel, by decide, by decide +kernel, by decide +kernel⟩, fun _ => ⟨bW_of (dk_tw_mem (n := 3227) rfl) rfl, bW_of (dk_sel (j := 46) (n := _) (by rfl)) rfl⟩, (fun h => absurd h (by decide)), (fun h => absurd h (by decide))⟩
/-- Link.sendNak(LSpanCopier.Places;II)V -/
def ey14 : bY := (⟨"SpanCopier$Link", "sendNak", "(LSpanCopier$Places;II)V"⟩, prog_4_method_10_code, (Option.none : Option Jvm.ClassFile.FieldType))
theorem emp14 : dk_mp (ey14, 7) 0 := ⟨⟨bW_of (dk_tw_mem (n := 3215) rfl) rfl, bW_of (dk_tw_mem (n := 1007) rfl) rfl, by decide +kernel, by decide +kernel, by decide, by decide +kernel, by decide +kernel⟩, fun _ => ⟨bW_of (dk_tw_mem (n := 3214) rfl) rfl, bW_of (dk_sel (j := 43) (n := _) (by rfl)) rfl⟩, (fun h => absurd h (by decide)), (fun h => absurd h (by decide))⟩
/-- Link.remove(I)I -/
def ey16 : bY := (⟨"SpanCopier$Link", "remove", "(I)I"⟩, prog_4_method_12_code, (Option.some Jvm.ClassFile.FieldType.int))
theorem emp16 : dk_mp (ey16, 3) 0 := ⟨⟨bW_of (dk_tw_mem (n := 3193) rfl) rfl, bW_of (dk_tw_mem (n := 1007) rfl) rfl, by decide +kernel, by decide +kernel, by decide, by decide +kernel, by decide +kernel⟩, fun _ => ⟨bW_of (dk_tw_mem (n := 3192) rfl) rfl, bW_of (dk_sel (j := 39) (n := _) (by rfl)) rfl⟩, (fun h => absurd h (by decide)), (fun h => absurd h (by decide))⟩
/-- Link.take(I)V -/
def ey15 : bY := (⟨"SpanCopier$Link", "take", "(I)V"⟩, prog_4_method_11_code, (Option.none : Option Jvm.ClassFile.FieldType))
theorem emp15 : dk_mp (ey15, 2) 0 := ⟨⟨bW_of (dk_tw_mem (n := 3189) rfl) rfl, bW_of (dk_tw_mem (n := 1007) rfl) rfl, by decide +kernel, by decide +kernel, by decide, by decide +kernel, by decide +kernel⟩, fun _ => ⟨bW_of (dk_tw_mem (n := 3188) rfl) rfl, bW_of (dk_sel (j := 38) (n := _) (by rfl)) rfl⟩, (fun h => absurd h (by decide)), (fun h => absurd h (by decide))⟩
/-- Link.repeat(I)I -/
def ey17 : bY := (⟨"SpanCopier$Link", "repeat", "(I)I"⟩, prog_4_method_13_code, (Option.some Jvm.ClassFile.FieldType.int))
theorem emp17 : dk_mp (ey17, 2) 0 := ⟨⟨bW_of (dk_tw_mem (n := 4119) rfl) rfl, bW_of (dk_tw_mem (n := 1007) rfl) rfl, by decide +kernel, by decide +kernel, by decide, by decide +kernel, by decide +kernel⟩, fun _ => ⟨bW_of (dk_tw_mem (n := 4118) rfl) rfl, bW_of (dk_sel (j := 72) (n := _) (by rfl)) rfl⟩, (fun h => absurd h (by decide)), (fun h => absurd h (by decide))⟩
/-- Link.delay(II)I -/
def ey18 : bY := (⟨"SpanCopier$Link", "delay", "(II)I"⟩, prog_4_method_14_code, (Option.some Jvm.ClassFile.FieldType.int))
theorem emp18 : dk_mp (ey18, 3) 0 := ⟨⟨bW_of (dk_tw_mem (n := 4127) rfl) rfl, bW_of (dk_tw_mem (n := 1007) rfl) rfl, by decide +kernel, by decide +kernel, by decide, by decide +kernel, by decide +kernel⟩, fun _ => ⟨bW_of (dk_tw_mem (n := 4126) rfl) rfl, bW_of (dk_sel (j := 73) (n := _) (by rfl)) rfl⟩, (fun h => absurd h (by decide)), (fun h => absurd h (by decide))⟩
/-- Link.flip(I)I -/
def ey19 : bY := (⟨"SpanCopier$Link", "flip", "(I)I"⟩, prog_4_method_15_code, (Option.some Jvm.ClassFile.FieldType.int))
theorem emp19 : dk_mp (ey19, 2) 0 := ⟨⟨bW_of (dk_tw_mem (n := 4135) rfl) rfl, bW_of (dk_tw_mem (n := 1007) rfl) rfl, by decide +kernel, by decide +kernel, by decide, by decide +kernel, by decide +kernel⟩, fun _ => ⟨bW_of (dk_tw_mem (n := 4134) rfl) rfl, bW_of (dk_sel (j := 74) (n := _) (by rfl)) rfl⟩, (fun h => absurd h (by decide)), (fun h => absurd h (by decide))⟩
/-- Shelf.<init>()V -/
def ey67 : bY := (⟨"SpanCopier$Shelf", "<init>", "()V"⟩, prog_9_method_1_code, (Option.none : Option Jvm.ClassFile.FieldType))
theorem emp67 : dk_mp (ey67, 1) 1 := ⟨⟨bW_of (dk_tw_mem (n := 2004) rfl) rfl, bW_of (dk_tw_mem (n := 1011) rfl) rfl, by decide +kernel, by decide +kernel, by decide, by decide +kernel, by decide +kernel⟩, (fun h => absurd h (by decide)), fun _ => ⟨bW_of (dk_tw_mem (n := 2003) rfl) rfl, rfl⟩, (fun h => absurd h (by decide))⟩
/-- Shelf.clear(I)V -/
def ey68 : bY := (⟨"SpanCopier$Shelf", "clear", "(I)V"⟩, prog_9_method_2_code, (Option.none : Option Jvm.ClassFile.FieldType))
theorem emp68 : dk_mp (ey68, 2) 0 := ⟨⟨bW_of (dk_tw_mem (n := 3101) rfl) rfl, bW_of (dk_tw_mem (n := 1011) rfl) rfl, by decide +kernel, by decide +kernel, by decide, by decide +kernel, by decide +kernel⟩, fun _ => ⟨bW_of (dk_tw_mem (n := 3100) rfl) rfl, bW_of (dk_sel (j := 24) (n := _) (by rfl)) rfl⟩, (fun h => absurd h (by decide)), (fun h => absurd h (by decide))⟩
/-- Shelf.copyFrom(LSpanCopier.Shelf;)V -/
def ey69 : bY := (⟨"SpanCopier$Shelf", "copyFrom", "(LSpanCopier$Shelf;)V"⟩, prog_9_method_3_code, (Option.none : Option Jvm.ClassFile.FieldType))
theorem emp69 : dk_mp (ey69, 2) 0 := ⟨⟨bW_of (dk_tw_mem (n := 3144) rfl) rfl, bW_of (dk_tw_mem (n := 1011) rfl) rfl, by decide +kernel, by decide +kernel, by decide, by decide +kernel, by decide +kernel⟩, fun _ => ⟨bW_of (dk_tw_mem (n := 3143) rfl) rfl, bW_of (dk_sel (j := 31) (n := _) (by rfl)) rfl⟩, (fun h => absurd h (by decide)), (fun h => absurd h (by decide))⟩
/-- Shelf.entry(I)I -/
def ey70 : bY := (⟨"SpanCopier$Shelf", "entry", "(I)I"⟩, prog_9_method_4_code, (Option.some Jvm.ClassFile.FieldType.int))
theorem emp70 : dk_mp (ey70, 2) 0 := ⟨⟨bW_of (dk_tw_mem (n := 4216) rfl) rfl, bW_of (dk_tw_mem (n := 1011) rfl) rfl, by decide +kernel, by decide +kernel, by decide, by decide +kernel, by decide +kernel⟩, fun _ => ⟨bW_of (dk_tw_mem (n := 4215) rfl) rfl, bW_of (dk_sel (j := 82) (n := _) (by rfl)) rfl⟩, (fun h => absurd h (by decide)), (fun h => absurd h (by decide))⟩
/-- Shelf.tryAct(LSpanCopier.Order;I)Z -/
def ey72 : bY := (⟨"SpanCopier$Shelf", "tryAct", "(LSpanCopier$Order;I)Z"⟩, prog_9_method_6_code, (Option.some Jvm.ClassFile.FieldType.boolean))
theorem emp72 : dk_mp (ey72, 7) 0 := ⟨⟨bW_of (dk_tw_mem (n := 4091) rfl) rfl, bW_of (dk_tw_mem (n := 1011) rfl) rfl, by decide +kernel, by decide +kernel, by decide, by decide +kernel, by decide +kernel⟩, fun _ => ⟨bW_of (dk_tw_mem (n := 4090) rfl) rfl, bW_of (dk_sel (j := 68) (n := _) (by rfl)) rfl⟩, (fun h => absurd h (by decide)), (fun h => absurd h (by decide))⟩
/-- Shelf.goOn(LSpanCopier.Order;)Z -/
def ey71 : bY := (⟨"SpanCopier$Shelf", "goOn", "(LSpanCopier$Order;)Z"⟩, prog_9_method_5_code, (Option.some Jvm.ClassFile.FieldType.boolean))
theorem emp71 : dk_mp (ey71, 3) 0 := ⟨⟨bW_of (dk_tw_mem (n := 4087) rfl) rfl, bW_of (dk_tw_mem (n := 1011) rfl) rfl, by decide +kernel, by decide +kernel, by decide, by decide +kernel, by decide +kernel⟩, fun _ => ⟨bW_of (dk_tw_mem (n := 4086) rfl) rfl, bW_of (dk_sel (j := 67) (n := _) (by rfl)) rfl⟩, (fun h => absurd h (by decide)), (fun h => absurd h (by decide))⟩
/-- Sender.<init>()V -/
def ey42 : bY := (⟨"SpanCopier$Sender", "<init>", "()V"⟩, prog_7_method_1_code, (Option.none : Option Jvm.ClassFile.FieldType))
theorem emp42 : dk_mp (ey42, 1) 1 := ⟨⟨bW_of (dk_tw_mem (n := 1155) rfl) rfl, bW_of (dk_tw_mem (n := 1008) rfl) rfl, by decide +kernel, by decide +kernel, by decide, by decide +kernel, by decide +kernel⟩, (fun h => absurd h (by decide)), fun _ => ⟨bW_of (dk_tw_mem (n := 1154) rfl) rfl, rfl⟩, (fun h => absurd h (by decide))⟩
/-- Sender.clear()V -/
def ey43 : bY := (⟨"SpanCopier$Sender", "clear", "()V"⟩, prog_7_method_2_code, (Option.none : Option Jvm.ClassFile.FieldType))
theorem emp43 : dk_mp (ey43, 1) 0 := ⟨⟨bW_of (dk_tw_mem (n := 3085) rfl) rfl, bW_of (dk_tw_mem (n := 1008) rfl) rfl, by decide +kernel, by decide +kernel, by decide, by decide +kernel, by decide +kernel⟩, fun _ => ⟨bW_of (dk_tw_mem (n := 3084) rfl) rfl, bW_of (dk_sel (j := 21) (n := _) (by rfl)) rfl⟩, (fun h => absurd h (by decide)), (fun h => absurd h (by decide))⟩
/-- Sender.copyFrom(LSpanCopier.Sender;)V -/
def ey44 : bY := (⟨"SpanCopier$Sender", "copyFrom", "(LSpanCopier$Sender;)V"⟩, prog_7_method_3_code, (Option.none : Option Jvm.ClassFile.FieldType))
theorem emp44 : dk_mp (ey44, 2) 0 := ⟨⟨bW_of (dk_tw_mem (n := 3129) rfl) rfl, bW_of (dk_tw_mem (n := 1008) rfl) rfl, by decide +kernel, by decide +kernel, by decide, by decide +kernel, by decide +kernel⟩, fun _ => ⟨bW_of (dk_tw_mem (n := 3128) rfl) rfl, bW_of (dk_sel (j := 28) (n := _) (by rfl)) rfl⟩, (fun h => absurd h (by decide)), (fun h => absurd h (by decide))⟩
/-- Sender.isActive()Z -/
def ey45 : bY := (⟨"SpanCopier$Sender", "isActive", "()Z"⟩, prog_7_method_4_code, (Option.some Jvm.ClassFile.FieldType.boolean))
theorem emp45 : dk_mp (ey45, 1) 0 := ⟨⟨bW_of (dk_tw_mem (n := 4018) rfl) rfl, bW_of (dk_tw_mem (n := 1008) rfl) rfl, by decide +kernel, by decide +kernel, by decide, by decide +kernel, by decide +kernel⟩, fun _ => ⟨bW_of (dk_tw_mem (n := 4017) rfl) rfl, bW_of (dk_sel (j := 53) (n := _) (by rfl)) rfl⟩, (fun h => absurd h (by decide)), (fun h => absurd h (by decide))⟩
/-- Sender.isOver()Z -/
def ey46 : bY := (⟨"SpanCopier$Sender", "isOver", "()Z"⟩, prog_7_method_5_code, (Option.some Jvm.ClassFile.FieldType.boolean))
theorem emp46 : dk_mp (ey46, 1) 0 := ⟨⟨bW_of (dk_tw_mem (n := 5005) rfl) rfl, bW_of (dk_tw_mem (n := 1008) rfl) rfl, by decide +kernel, by decide +kernel, by decide, by decide +kernel, by decide +kernel⟩, fun _ => ⟨bW_of (dk_tw_mem (n := 5004) rfl) rfl, bW_of (dk_sel (j := 87) (n := _) (by rfl)) rfl⟩, (fun h => absurd h (by decide)), (fun h => absurd h (by decide))⟩
/-- Sender.meetNak(LSpanCopier.Link;)V -/
def ey48 : bY := (⟨"SpanCopier$Sender", "meetNak", "(LSpanCopier$Link;)V"⟩, prog_7_method_7_code, (Option.none : Option Jvm.ClassFile.FieldType))
theorem emp48 : dk_mp (ey48, 5) 0 := ⟨⟨bW_of (dk_tw_mem (n := 4014) rfl) rfl, bW_of (dk_tw_mem (n := 1008) rfl) rfl, by decide +kernel, by decide +kernel, by decide, by decide +kernel, by decide +kernel⟩, fun _ => ⟨bW_of (dk_tw_mem (n := 4013) rfl) rfl, bW_of (dk_sel (j := 52) (n := _) (by rfl)) rfl⟩, (fun h => absurd h (by decide)), (fun h => absurd h (by decide))⟩
/-- Sender.meetFin(LSpanCopier.Link;)V -/
def ey49 : bY := (⟨"SpanCopier$Sender", "meetFin", "(LSpanCopier$Link;)V"⟩, prog_7_method_8_code, (Option.none : Option Jvm.ClassFile.FieldType))
theorem emp49 : dk_mp (ey49, 2) 0 := ⟨⟨bW_of (dk_tw_mem (n := 4030) rfl) rfl, bW_of (dk_tw_mem (n := 1008) rfl) rfl, by decide +kernel, by decide +kernel, by decide, by decide +kernel, by decide +kernel⟩, fun _ => ⟨bW_of (dk_tw_mem (n := 4029) rfl) rfl, bW_of (dk_sel (j := 54) (n := _) (by rfl)) rfl⟩, (fun h => absurd h (by decide)), (fun h => absurd h (by decide))⟩
/-- Sender.sendEof(LSpanCopier.World;)V -/
def ey53 : bY := (⟨"SpanCopier$Sender", "sendEof", "(LSpanCopier$World;)V"⟩, prog_7_method_12_code, (Option.none : Option Jvm.ClassFile.FieldType))
theorem emp53 : dk_mp (ey53, 2) 0 := ⟨⟨bW_of (dk_tw_mem (n := 4050) rfl) rfl, bW_of (dk_tw_mem (n := 1008) rfl) rfl, by decide +kernel, by decide +kernel, by decide, by decide +kernel, by decide +kernel⟩, fun _ => ⟨bW_of (dk_tw_mem (n := 4049) rfl) rfl, bW_of (dk_sel (j := 58) (n := _) (by rfl)) rfl⟩, (fun h => absurd h (by decide)), (fun h => absurd h (by decide))⟩
/-- Sender.waitForAck(LSpanCopier.World;)V -/
def ey54 : bY := (⟨"SpanCopier$Sender", "waitForAck", "(LSpanCopier$World;)V"⟩, prog_7_method_13_code, (Option.none : Option Jvm.ClassFile.FieldType))
theorem emp54 : dk_mp (ey54, 2) 0 := ⟨⟨bW_of (dk_tw_mem (n := 4054) rfl) rfl, bW_of (dk_tw_mem (n := 1008) rfl) rfl, by decide +kernel, by decide +kernel, by decide, by decide +kernel, by decide +kernel⟩, fun _ => ⟨bW_of (dk_tw_mem (n := 4053) rfl) rfl, bW_of (dk_sel (j := 59) (n := _) (by rfl)) rfl⟩, (fun h => absurd h (by decide)), (fun h => absurd h (by decide))⟩
/-- Sender.sendNext(LSpanCopier.World;)V -/
def ey52 : bY := (⟨"SpanCopier$Sender", "sendNext", "(LSpanCopier$World;)V"⟩, prog_7_method_11_code, (Option.none : Option Jvm.ClassFile.FieldType))
theorem emp52 : dk_mp (ey52, 4) 0 := ⟨⟨bW_of (dk_tw_mem (n := 4046) rfl) rfl, bW_of (dk_tw_mem (n := 1008) rfl) rfl, by decide +kernel, by decide +kernel, by decide, by decide +kernel, by decide +kernel⟩, fun _ => ⟨bW_of (dk_tw_mem (n := 4045) rfl) rfl, bW_of (dk_sel (j := 57) (n := _) (by rfl)) rfl⟩, (fun h => absurd h (by decide)), (fun h => absurd h (by decide))⟩
/-- Sender.sendAgain(LSpanCopier.World;)V -/
def ey51 : bY := (⟨"SpanCopier$Sender", "sendAgain", "(LSpanCopier$World;)V"⟩, prog_7_method_10_code, (Option.none : Option Jvm.ClassFile.FieldType))
theorem emp51 : dk_mp (ey51, 4) 0 := ⟨⟨bW_of (dk_tw_mem (n := 4039) rfl) rfl, bW_of (dk_tw_mem (n := 1008) rfl) rfl, by decide +kernel, by decide +kernel, by decide, by decide +kernel, by decide +kernel⟩, fun _ => ⟨bW_of (dk_tw_mem (n := 4038) rfl) rfl, bW_of (dk_sel (j := 56) (n := _) (by rfl)) rfl⟩, (fun h => absurd h (by decide)), (fun h => absurd h (by decide))⟩
/-- Sender.act(LSpanCopier.World;)V -/
def ey50 : bY := (⟨"SpanCopier$Sender", "act", "(LSpanCopier$World;)V"⟩, prog_7_method_9_code, (Option.none : Option Jvm.ClassFile.FieldType))
theorem emp50 : dk_mp (ey50, 3) 0 := ⟨⟨bW_of (dk_tw_mem (n := 4035) rfl) rfl, bW_of (dk_tw_mem (n := 1008) rfl) rfl, by decide +kernel, by decide +kernel, by decide, by decide +kernel, by decide +kernel⟩, fun _ => ⟨bW_of (dk_tw_mem (n := 4034) rfl) rfl, bW_of (dk_sel (j := 55) (n := _) (by rfl)) rfl⟩, (fun h => absurd h (by decide)), (fun h => absurd h (by decide))⟩
