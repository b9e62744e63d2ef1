theorem ak_ck119 : ∀ e ∈ ai_k119, ak_ck ⟨"SpanCopierModel", "fileSum", "()I"⟩ prog_15_method_43_code (Option.some Jvm.ClassFile.FieldType.int) e = true := by decide +kernel
theorem ak_ck120 : ∀ e ∈ ai_k120, ak_ck ⟨"SpanCopierModel", "gap", "(II)I"⟩ prog_15_method_99_code (Option.some Jvm.ClassFile.FieldType.int) e = true := by decide +kernel
theorem ak_ck121 : ∀ e ∈ ai_k121, ak_ck ⟨"SpanCopierModel", "go", "()V"⟩ prog_15_method_16_code (Option.none : Option Jvm.ClassFile.FieldType) e = true := by decide +kernel
theorem ak_ck122 : ∀ e ∈ ai_k122, ak_ck ⟨"SpanCopierModel", "image", "(I)Z"⟩ prog_15_method_133_code (Option.some Jvm.ClassFile.FieldType.boolean) e = true := by decide +kernel
theorem ak_ck123 : ∀ e ∈ ai_k123, ak_ck ⟨"SpanCopierModel", "isBusy", "()Z"⟩ prog_15_method_61_code (Option.some Jvm.ClassFile.FieldType.boolean) e = true := by decide +kernel
theorem ak_ck124 : ∀ e ∈ ai_k124, ak_ck ⟨"SpanCopierModel", "isGap", "(I)Z"⟩ prog_15_method_45_code (Option.some Jvm.ClassFile.FieldType.boolean) e = true := by decide +kernel
theorem ak_ck125 : ∀ e ∈ ai_k125, ak_ck ⟨"SpanCopierModel", "isIn", "(III)Z"⟩ prog_15_method_7_code (Option.some Jvm.ClassFile.FieldType.boolean) e = true := by decide +kernel
theorem ak_ck126 : ∀ e ∈ ai_k126, ak_ck ⟨"SpanCopierModel", "isMarked", "(II)Z"⟩ prog_15_method_46_code (Option.some Jvm.ClassFile.FieldType.boolean) e = true := by decide +kernel
theorem ak_ck127 : ∀ e ∈ ai_k127, ak_ck ⟨"SpanCopierModel", "isSign", "(I)Z"⟩ prog_15_method_20_code (Option.some Jvm.ClassFile.FieldType.boolean) e = true := by decide +kernel
theorem ak_ck128 : ∀ e ∈ ai_k128, ak_ck ⟨"SpanCopierModel", "isUnit", "(I)Z"⟩ prog_15_method_51_code (Option.some Jvm.ClassFile.FieldType.boolean) e = true := by decide +kernel
theorem ak_ck129 : ∀ e ∈ ai_k129, ak_ck ⟨"SpanCopierModel", "isWord", "(I)Z"⟩ prog_15_method_19_code (Option.some Jvm.ClassFile.FieldType.boolean) e = true := by decide +kernel
theorem ak_ck130 : ∀ e ∈ ai_k130, ak_ck ⟨"SpanCopierModel", "journal", "(I)I"⟩ prog_15_method_104_code (Option.some Jvm.ClassFile.FieldType.int) e = true := by decide +kernel
theorem ak_ck131 : ∀ e ∈ ai_k131, ak_ck ⟨"SpanCopierModel", "late", "(II)I"⟩ prog_15_method_90_code (Option.some Jvm.ClassFile.FieldType.int) e = true := by decide +kernel
theorem ak_ck132 : ∀ e ∈ ai_k132, ak_ck ⟨"SpanCopierModel", "least", "(II)I"⟩ prog_15_method_10_code (Option.some Jvm.ClassFile.FieldType.int) e = true := by decide +kernel
theorem ak_ck133 : ∀ e ∈ ai_k133, ak_ck ⟨"SpanCopierModel", "lose", "(I)I"⟩ prog_15_method_88_code (Option.some Jvm.ClassFile.FieldType.int) e = true := by decide +kernel
theorem ak_ck134 : ∀ e ∈ ai_k134, ak_ck ⟨"SpanCopierModel", "need", "()I"⟩ prog_15_method_105_code (Option.some Jvm.ClassFile.FieldType.int) e = true := by decide +kernel
theorem ak_ck135 : ∀ e ∈ ai_k135, ak_ck ⟨"SpanCopierModel", "nextMark", "(IIZ)I"⟩ prog_15_method_47_code (Option.some Jvm.ClassFile.FieldType.int) e = true := by decide +kernel
theorem ak_ck136 : ∀ e ∈ ai_k136, ak_ck ⟨"SpanCopierModel", "now", "(I)I"⟩ prog_15_method_94_code (Option.some Jvm.ClassFile.FieldType.int) e = true := by decide +kernel
theorem ak_ck137 : ∀ e ∈ ai_k137, ak_ck ⟨"SpanCopierModel", "odds", "(II)I"⟩ prog_15_method_115_code (Option.some Jvm.ClassFile.FieldType.int) e = true := by decide +kernel
theorem ak_ck138 : ∀ e ∈ ai_k138, ak_ck ⟨"SpanCopierModel", "oneTick", "()V"⟩ prog_15_method_76_code (Option.none : Option Jvm.ClassFile.FieldType) e = true := by decide +kernel
theorem ak_ck139 : ∀ e ∈ ai_k139, ak_ck ⟨"SpanCopierModel", "order", "()I"⟩ prog_15_method_40_code (Option.some Jvm.ClassFile.FieldType.int) e = true := by decide +kernel
theorem ak_ck140 : ∀ e ∈ ai_k140, ak_ck ⟨"SpanCopierModel", "over", "()I"⟩ prog_15_method_107_code (Option.some Jvm.ClassFile.FieldType.int) e = true := by decide +kernel
theorem ak_ck141 : ∀ e ∈ ai_k141, ak_ck ⟨"SpanCopierModel", "overAs", "(I)I"⟩ prog_15_method_108_code (Option.some Jvm.ClassFile.FieldType.int) e = true := by decide +kernel
theorem ak_ck142 : ∀ e ∈ ai_k142, ak_ck ⟨"SpanCopierModel", "passTicks", "(I)I"⟩ prog_15_method_77_code (Option.some Jvm.ClassFile.FieldType.int) e = true := by decide +kernel
theorem ak_ck143 : ∀ e ∈ ai_k143, ak_ck ⟨"SpanCopierModel", "prompt", "()I"⟩ prog_15_method_92_code (Option.some Jvm.ClassFile.FieldType.int) e = true := by decide +kernel
theorem ak_ck144 : ∀ e ∈ ai_k144, ak_ck ⟨"SpanCopierModel", "readAnd", "()Z"⟩ prog_15_method_124_code (Option.some Jvm.ClassFile.FieldType.boolean) e = true := by decide +kernel
theorem ak_ck145 : ∀ e ∈ ai_k145, ak_ck ⟨"SpanCopierModel", "readOr", "()Z"⟩ prog_15_method_123_code (Option.some Jvm.ClassFile.FieldType.boolean) e = true := by decide +kernel
theorem ak_ck146 : ∀ e ∈ ai_k146, ak_ck ⟨"SpanCopierModel", "readSaid", "()Z"⟩ prog_15_method_125_code (Option.some Jvm.ClassFile.FieldType.boolean) e = true := by decide +kernel
theorem ak_ck147 : ∀ e ∈ ai_k147, ak_ck ⟨"SpanCopierModel", "refuse", "()I"⟩ prog_15_method_2_code (Option.some Jvm.ClassFile.FieldType.int) e = true := by decide +kernel
theorem ak_ck148 : ∀ e ∈ ai_k148, ak_ck ⟨"SpanCopierModel", "resend", "(II)I"⟩ prog_15_method_100_code (Option.some Jvm.ClassFile.FieldType.int) e = true := by decide +kernel
theorem ak_ck149 : ∀ e ∈ ai_k149, ak_ck ⟨"SpanCopierModel", "restore", "(I)Z"⟩ prog_15_method_134_code (Option.some Jvm.ClassFile.FieldType.boolean) e = true := by decide +kernel
theorem ak_ck150 : ∀ e ∈ ai_k150, ak_ck ⟨"SpanCopierModel", "said", "(I)I"⟩ prog_15_method_132_code (Option.some Jvm.ClassFile.FieldType.int) e = true := by decide +kernel
theorem ak_ck151 : ∀ e ∈ ai_k151, ak_ck ⟨"SpanCopierModel", "save", "([II)V"⟩ prog_15_method_78_code (Option.none : Option Jvm.ClassFile.FieldType) e = true := by decide +kernel
theorem ak_ck152 : ∀ e ∈ ai_k152, ak_ck ⟨"SpanCopierModel", "saveTaker", "()V"⟩ prog_15_method_29_code (Option.none : Option Jvm.ClassFile.FieldType) e = true := by decide +kernel
theorem ak_ck153 : ∀ e ∈ ai_k153, ak_ck ⟨"SpanCopierModel", "senderGoes", "()V"⟩ prog_15_method_68_code (Option.none : Option Jvm.ClassFile.FieldType) e = true := by decide +kernel
theorem ak_ck154 : ∀ e ∈ ai_k154, ak_ck ⟨"SpanCopierModel", "sentence", "()I"⟩ prog_15_method_130_code (Option.some Jvm.ClassFile.FieldType.int) e = true := by decide +kernel
theorem ak_ck155 : ∀ e ∈ ai_k155, ak_ck ⟨"SpanCopierModel", "snap", "()V"⟩ prog_15_method_80_code (Option.none : Option Jvm.ClassFile.FieldType) e = true := by decide +kernel
theorem ak_ck156 : ∀ e ∈ ai_k156, ak_ck ⟨"SpanCopierModel", "span", "(III)I"⟩ prog_15_method_98_code (Option.some Jvm.ClassFile.FieldType.int) e = true := by decide +kernel
theorem ak_ck157 : ∀ e ∈ ai_k157, ak_ck ⟨"SpanCopierModel", "spanEnd", "(III)I"⟩ prog_15_method_49_code (Option.some Jvm.ClassFile.FieldType.int) e = true := by decide +kernel
theorem ak_ck158 : ∀ e ∈ ai_k158, ak_ck ⟨"SpanCopierModel", "spansOf", "(I)I"⟩ prog_15_method_48_code (Option.some Jvm.ClassFile.FieldType.int) e = true := by decide +kernel
theorem ak_ck159 : ∀ e ∈ ai_k159, ak_ck ⟨"SpanCopierModel", "spoil", "(I)I"⟩ prog_15_method_91_code (Option.some Jvm.ClassFile.FieldType.int) e = true := by decide +kernel
theorem ak_ck160 : ∀ e ∈ ai_k160, ak_ck ⟨"SpanCopierModel", "startRead", "()V"⟩ prog_15_method_27_code (Option.none : Option Jvm.ClassFile.FieldType) e = true := by decide +kernel
