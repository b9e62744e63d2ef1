theorem ak_ck90 : ∀ e ∈ ai_k90, ak_ck ⟨"SpanCopier$World", "begin", "(LSpanCopier$Order;)V"⟩ prog_13_method_3_code (Option.none : Option Jvm.ClassFile.FieldType) e = true := by decide +kernel
theorem ak_ck91 : ∀ e ∈ ai_k91, ak_ck ⟨"SpanCopier$World", "copyFrom", "(LSpanCopier$World;)V"⟩ prog_13_method_2_code (Option.none : Option Jvm.ClassFile.FieldType) e = true := by decide +kernel
theorem ak_ck92 : ∀ e ∈ ai_k92, ak_ck ⟨"SpanCopier$World", "crashTaker", "()I"⟩ prog_13_method_11_code (Option.some Jvm.ClassFile.FieldType.int) e = true := by decide +kernel
theorem ak_ck93 : ∀ e ∈ ai_k93, ak_ck ⟨"SpanCopier$World", "draw", "(I)I"⟩ prog_13_method_9_code (Option.some Jvm.ClassFile.FieldType.int) e = true := by decide +kernel
theorem ak_ck94 : ∀ e ∈ ai_k94, ak_ck ⟨"SpanCopier$World", "drawWhatHappens", "()V"⟩ prog_13_method_8_code (Option.none : Option Jvm.ClassFile.FieldType) e = true := by decide +kernel
theorem ak_ck95 : ∀ e ∈ ai_k95, ak_ck ⟨"SpanCopier$World", "passTick", "()V"⟩ prog_13_method_7_code (Option.none : Option Jvm.ClassFile.FieldType) e = true := by decide +kernel
theorem ak_ck96 : ∀ e ∈ ai_k96, ak_ck ⟨"SpanCopier$World", "passTicks", "(I)I"⟩ prog_13_method_6_code (Option.some Jvm.ClassFile.FieldType.int) e = true := by decide +kernel
theorem ak_ck97 : ∀ e ∈ ai_k97, ak_ck ⟨"SpanCopier$World", "restart", "([B)V"⟩ prog_13_method_5_code (Option.none : Option Jvm.ClassFile.FieldType) e = true := by decide +kernel
theorem ak_ck98 : ∀ e ∈ ai_k98, ak_ck ⟨"SpanCopier$World", "sendPrompt", "()I"⟩ prog_13_method_10_code (Option.some Jvm.ClassFile.FieldType.int) e = true := by decide +kernel
theorem ak_ck99 : ∀ e ∈ ai_k99, ak_ck ⟨"SpanCopierModel", "<init>", "()V"⟩ prog_15_method_26_code (Option.none : Option Jvm.ClassFile.FieldType) e = true := by decide +kernel
theorem ak_ck100 : ∀ e ∈ ai_k100, ak_ck ⟨"SpanCopierModel", "act", "(IIIZ)I"⟩ prog_15_method_87_code (Option.some Jvm.ClassFile.FieldType.int) e = true := by decide +kernel
theorem ak_ck101 : ∀ e ∈ ai_k101, ak_ck ⟨"SpanCopierModel", "allCome", "()V"⟩ prog_15_method_65_code (Option.none : Option Jvm.ClassFile.FieldType) e = true := by decide +kernel
theorem ak_ck102 : ∀ e ∈ ai_k102, ak_ck ⟨"SpanCopierModel", "bad", "(I)Z"⟩ prog_15_method_22_code (Option.some Jvm.ClassFile.FieldType.boolean) e = true := by decide +kernel
theorem ak_ck103 : ∀ e ∈ ai_k103, ak_ck ⟨"SpanCopierModel", "begin", "(I)V"⟩ prog_15_method_25_code (Option.none : Option Jvm.ClassFile.FieldType) e = true := by decide +kernel
theorem ak_ck104 : ∀ e ∈ ai_k104, ak_ck ⟨"SpanCopierModel", "book", "(I)I"⟩ prog_15_method_119_code (Option.some Jvm.ClassFile.FieldType.int) e = true := by decide +kernel
theorem ak_ck105 : ∀ e ∈ ai_k105, ak_ck ⟨"SpanCopierModel", "come", "(I)V"⟩ prog_15_method_3_code (Option.none : Option Jvm.ClassFile.FieldType) e = true := by decide +kernel
theorem ak_ck106 : ∀ e ∈ ai_k106, ak_ck ⟨"SpanCopierModel", "comeBack", "([II)V"⟩ prog_15_method_79_code (Option.none : Option Jvm.ClassFile.FieldType) e = true := by decide +kernel
theorem ak_ck107 : ∀ e ∈ ai_k107, ak_ck ⟨"SpanCopierModel", "count", "(I)I"⟩ prog_15_method_135_code (Option.some Jvm.ClassFile.FieldType.int) e = true := by decide +kernel
theorem ak_ck108 : ∀ e ∈ ai_k108, ak_ck ⟨"SpanCopierModel", "crash", "()I"⟩ prog_15_method_93_code (Option.some Jvm.ClassFile.FieldType.int) e = true := by decide +kernel
theorem ak_ck109 : ∀ e ∈ ai_k109, ak_ck ⟨"SpanCopierModel", "doIf", "(III)V"⟩ prog_15_method_110_code (Option.none : Option Jvm.ClassFile.FieldType) e = true := by decide +kernel
theorem ak_ck110 : ∀ e ∈ ai_k110, ak_ck ⟨"SpanCopierModel", "draw", "(I)I"⟩ prog_15_method_109_code (Option.some Jvm.ClassFile.FieldType.int) e = true := by decide +kernel
theorem ak_ck111 : ∀ e ∈ ai_k111, ak_ck ⟨"SpanCopierModel", "drawTicks", "(II)I"⟩ prog_15_method_113_code (Option.some Jvm.ClassFile.FieldType.int) e = true := by decide +kernel
theorem ak_ck112 : ∀ e ∈ ai_k112, ak_ck ⟨"SpanCopierModel", "drawn", "(II)I"⟩ prog_15_method_114_code (Option.some Jvm.ClassFile.FieldType.int) e = true := by decide +kernel
theorem ak_ck113 : ∀ e ∈ ai_k113, ak_ck ⟨"SpanCopierModel", "drawsFirst", "()V"⟩ prog_15_method_112_code (Option.none : Option Jvm.ClassFile.FieldType) e = true := by decide +kernel
theorem ak_ck114 : ∀ e ∈ ai_k114, ak_ck ⟨"SpanCopierModel", "drawsUnit", "(I)V"⟩ prog_15_method_111_code (Option.none : Option Jvm.ClassFile.FieldType) e = true := by decide +kernel
theorem ak_ck115 : ∀ e ∈ ai_k115, ak_ck ⟨"SpanCopierModel", "end", "(I)Z"⟩ prog_15_method_5_code (Option.some Jvm.ClassFile.FieldType.boolean) e = true := by decide +kernel
theorem ak_ck116 : ∀ e ∈ ai_k116, ak_ck ⟨"SpanCopierModel", "fault", "()I"⟩ prog_15_method_41_code (Option.some Jvm.ClassFile.FieldType.int) e = true := by decide +kernel
theorem ak_ck117 : ∀ e ∈ ai_k117, ak_ck ⟨"SpanCopierModel", "feed", "(IIIII)I"⟩ prog_15_method_4_code (Option.some Jvm.ClassFile.FieldType.int) e = true := by decide +kernel
theorem ak_ck118 : ∀ e ∈ ai_k118, ak_ck ⟨"SpanCopierModel", "file", "()I"⟩ prog_15_method_82_code (Option.some Jvm.ClassFile.FieldType.int) e = true := by decide +kernel
