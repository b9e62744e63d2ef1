theorem ak_ck0 : ∀ e ∈ ai_k0, ak_ck ⟨"SpanCopier", "<init>", "()V"⟩ prog_1_method_1_code (Option.none : Option Jvm.ClassFile.FieldType) e = true := by decide +kernel
theorem ak_ck1 : ∀ e ∈ ai_k1, ak_ck ⟨"SpanCopier", "book", "(I)I"⟩ prog_1_method_36_code (Option.some Jvm.ClassFile.FieldType.int) e = true := by decide +kernel
theorem ak_ck2 : ∀ e ∈ ai_k2, ak_ck ⟨"SpanCopier", "closeText", "()V"⟩ prog_1_method_5_code (Option.none : Option Jvm.ClassFile.FieldType) e = true := by decide +kernel
theorem ak_ck3 : ∀ e ∈ ai_k3, ak_ck ⟨"SpanCopier", "count", "(I)I"⟩ prog_1_method_43_code (Option.some Jvm.ClassFile.FieldType.int) e = true := by decide +kernel
theorem ak_ck4 : ∀ e ∈ ai_k4, ak_ck ⟨"SpanCopier", "crash", "()I"⟩ prog_1_method_18_code (Option.some Jvm.ClassFile.FieldType.int) e = true := by decide +kernel
theorem ak_ck5 : ∀ e ∈ ai_k5, ak_ck ⟨"SpanCopier", "drawn", "(II)I"⟩ prog_1_method_33_code (Option.some Jvm.ClassFile.FieldType.int) e = true := by decide +kernel
theorem ak_ck6 : ∀ e ∈ ai_k6, ak_ck ⟨"SpanCopier", "end", "(I)Z"⟩ prog_1_method_3_code (Option.some Jvm.ClassFile.FieldType.boolean) e = true := by decide +kernel
theorem ak_ck7 : ∀ e ∈ ai_k7, ak_ck ⟨"SpanCopier", "fault", "()I"⟩ prog_1_method_6_code (Option.some Jvm.ClassFile.FieldType.int) e = true := by decide +kernel
theorem ak_ck8 : ∀ e ∈ ai_k8, ak_ck ⟨"SpanCopier", "feed", "(IIIII)I"⟩ prog_1_method_2_code (Option.some Jvm.ClassFile.FieldType.int) e = true := by decide +kernel
theorem ak_ck9 : ∀ e ∈ ai_k9, ak_ck ⟨"SpanCopier", "file", "()I"⟩ prog_1_method_7_code (Option.some Jvm.ClassFile.FieldType.int) e = true := by decide +kernel
theorem ak_ck10 : ∀ e ∈ ai_k10, ak_ck ⟨"SpanCopier", "gap", "(II)I"⟩ prog_1_method_23_code (Option.some Jvm.ClassFile.FieldType.int) e = true := by decide +kernel
theorem ak_ck11 : ∀ e ∈ ai_k11, ak_ck ⟨"SpanCopier", "image", "(I)Z"⟩ prog_1_method_41_code (Option.some Jvm.ClassFile.FieldType.boolean) e = true := by decide +kernel
theorem ak_ck12 : ∀ e ∈ ai_k12, ak_ck ⟨"SpanCopier", "journal", "(I)I"⟩ prog_1_method_28_code (Option.some Jvm.ClassFile.FieldType.int) e = true := by decide +kernel
theorem ak_ck13 : ∀ e ∈ ai_k13, ak_ck ⟨"SpanCopier", "keepLooked", "()V"⟩ prog_1_method_9_code (Option.none : Option Jvm.ClassFile.FieldType) e = true := by decide +kernel
theorem ak_ck14 : ∀ e ∈ ai_k14, ak_ck ⟨"SpanCopier", "keptIfAbove", "(I)I"⟩ prog_1_method_11_code (Option.some Jvm.ClassFile.FieldType.int) e = true := by decide +kernel
theorem ak_ck15 : ∀ e ∈ ai_k15, ak_ck ⟨"SpanCopier", "keptIfDone", "(I)I"⟩ prog_1_method_13_code (Option.some Jvm.ClassFile.FieldType.int) e = true := by decide +kernel
theorem ak_ck16 : ∀ e ∈ ai_k16, ak_ck ⟨"SpanCopier", "late", "(II)I"⟩ prog_1_method_15_code (Option.some Jvm.ClassFile.FieldType.int) e = true := by decide +kernel
theorem ak_ck17 : ∀ e ∈ ai_k17, ak_ck ⟨"SpanCopier", "lookBefore", "()V"⟩ prog_1_method_8_code (Option.none : Option Jvm.ClassFile.FieldType) e = true := by decide +kernel
theorem ak_ck18 : ∀ e ∈ ai_k18, ak_ck ⟨"SpanCopier", "lose", "(I)I"⟩ prog_1_method_12_code (Option.some Jvm.ClassFile.FieldType.int) e = true := by decide +kernel
theorem ak_ck19 : ∀ e ∈ ai_k19, ak_ck ⟨"SpanCopier", "need", "()I"⟩ prog_1_method_29_code (Option.some Jvm.ClassFile.FieldType.int) e = true := by decide +kernel
theorem ak_ck20 : ∀ e ∈ ai_k20, ak_ck ⟨"SpanCopier", "now", "(I)I"⟩ prog_1_method_20_code (Option.some Jvm.ClassFile.FieldType.int) e = true := by decide +kernel
theorem ak_ck21 : ∀ e ∈ ai_k21, ak_ck ⟨"SpanCopier", "odds", "(II)I"⟩ prog_1_method_34_code (Option.some Jvm.ClassFile.FieldType.int) e = true := by decide +kernel
theorem ak_ck22 : ∀ e ∈ ai_k22, ak_ck ⟨"SpanCopier", "order", "()I"⟩ prog_1_method_4_code (Option.some Jvm.ClassFile.FieldType.int) e = true := by decide +kernel
theorem ak_ck23 : ∀ e ∈ ai_k23, ak_ck ⟨"SpanCopier", "over", "()I"⟩ prog_1_method_30_code (Option.some Jvm.ClassFile.FieldType.int) e = true := by decide +kernel
theorem ak_ck24 : ∀ e ∈ ai_k24, ak_ck ⟨"SpanCopier", "overAs", "(I)I"⟩ prog_1_method_32_code (Option.some Jvm.ClassFile.FieldType.int) e = true := by decide +kernel
theorem ak_ck25 : ∀ e ∈ ai_k25, ak_ck ⟨"SpanCopier", "prompt", "()I"⟩ prog_1_method_17_code (Option.some Jvm.ClassFile.FieldType.int) e = true := by decide +kernel
theorem ak_ck26 : ∀ e ∈ ai_k26, ak_ck ⟨"SpanCopier", "resend", "(II)I"⟩ prog_1_method_24_code (Option.some Jvm.ClassFile.FieldType.int) e = true := by decide +kernel
theorem ak_ck27 : ∀ e ∈ ai_k27, ak_ck ⟨"SpanCopier", "restore", "(I)Z"⟩ prog_1_method_42_code (Option.some Jvm.ClassFile.FieldType.boolean) e = true := by decide +kernel
theorem ak_ck28 : ∀ e ∈ ai_k28, ak_ck ⟨"SpanCopier", "said", "(I)I"⟩ prog_1_method_40_code (Option.some Jvm.ClassFile.FieldType.int) e = true := by decide +kernel
theorem ak_ck29 : ∀ e ∈ ai_k29, ak_ck ⟨"SpanCopier", "sentence", "()I"⟩ prog_1_method_39_code (Option.some Jvm.ClassFile.FieldType.int) e = true := by decide +kernel
theorem ak_ck30 : ∀ e ∈ ai_k30, ak_ck ⟨"SpanCopier", "span", "(III)I"⟩ prog_1_method_22_code (Option.some Jvm.ClassFile.FieldType.int) e = true := by decide +kernel
theorem ak_ck31 : ∀ e ∈ ai_k31, ak_ck ⟨"SpanCopier", "spoil", "(I)I"⟩ prog_1_method_16_code (Option.some Jvm.ClassFile.FieldType.int) e = true := by decide +kernel
theorem ak_ck32 : ∀ e ∈ ai_k32, ak_ck ⟨"SpanCopier", "store", "()I"⟩ prog_1_method_27_code (Option.some Jvm.ClassFile.FieldType.int) e = true := by decide +kernel
theorem ak_ck33 : ∀ e ∈ ai_k33, ak_ck ⟨"SpanCopier", "sum", "(I)I"⟩ prog_1_method_26_code (Option.some Jvm.ClassFile.FieldType.int) e = true := by decide +kernel
theorem ak_ck34 : ∀ e ∈ ai_k34, ak_ck ⟨"SpanCopier", "taken", "(I)I"⟩ prog_1_method_25_code (Option.some Jvm.ClassFile.FieldType.int) e = true := by decide +kernel
theorem ak_ck35 : ∀ e ∈ ai_k35, ak_ck ⟨"SpanCopier", "tellJudged", "(IILSpanCopier$World;)V"⟩ prog_1_method_37_code (Option.none : Option Jvm.ClassFile.FieldType) e = true := by decide +kernel
theorem ak_ck36 : ∀ e ∈ ai_k36, ak_ck ⟨"SpanCopier", "ticks", "(I)I"⟩ prog_1_method_10_code (Option.some Jvm.ClassFile.FieldType.int) e = true := by decide +kernel
theorem ak_ck37 : ∀ e ∈ ai_k37, ak_ck ⟨"SpanCopier", "told", "(I)I"⟩ prog_1_method_38_code (Option.some Jvm.ClassFile.FieldType.int) e = true := by decide +kernel
theorem ak_ck38 : ∀ e ∈ ai_k38, ak_ck ⟨"SpanCopier", "trialWorld", "()LSpanCopier$World;"⟩ prog_1_method_31_code (Option.some (Jvm.ClassFile.FieldType.object "SpanCopier$World")) e = true := by decide +kernel
theorem ak_ck39 : ∀ e ∈ ai_k39, ak_ck ⟨"SpanCopier", "twice", "(I)I"⟩ prog_1_method_14_code (Option.some Jvm.ClassFile.FieldType.int) e = true := by decide +kernel
theorem ak_ck40 : ∀ e ∈ ai_k40, ak_ck ⟨"SpanCopier", "undo", "()I"⟩ prog_1_method_19_code (Option.some Jvm.ClassFile.FieldType.int) e = true := by decide +kernel
