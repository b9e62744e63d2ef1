theorem ak_ck161 : ∀ e ∈ ai_k161, ak_ck ⟨"SpanCopierModel", "startSo", "()V"⟩ prog_15_method_28_code (Option.none : Option Jvm.ClassFile.FieldType) e = true := by decide +kernel
theorem ak_ck162 : ∀ e ∈ ai_k162, ak_ck ⟨"SpanCopierModel", "stay", "(Z)V"⟩ prog_15_method_120_code (Option.none : Option Jvm.ClassFile.FieldType) e = true := by decide +kernel
theorem ak_ck163 : ∀ e ∈ ai_k163, ak_ck ⟨"SpanCopierModel", "store", "()I"⟩ prog_15_method_103_code (Option.some Jvm.ClassFile.FieldType.int) e = true := by decide +kernel
theorem ak_ck164 : ∀ e ∈ ai_k164, ak_ck ⟨"SpanCopierModel", "sum", "(I)I"⟩ prog_15_method_102_code (Option.some Jvm.ClassFile.FieldType.int) e = true := by decide +kernel
theorem ak_ck165 : ∀ e ∈ ai_k165, ak_ck ⟨"SpanCopierModel", "take", "()I"⟩ prog_15_method_6_code (Option.some Jvm.ClassFile.FieldType.int) e = true := by decide +kernel
theorem ak_ck166 : ∀ e ∈ ai_k166, ak_ck ⟨"SpanCopierModel", "taken", "(I)I"⟩ prog_15_method_101_code (Option.some Jvm.ClassFile.FieldType.int) e = true := by decide +kernel
theorem ak_ck167 : ∀ e ∈ ai_k167, ak_ck ⟨"SpanCopierModel", "takenSum", "()I"⟩ prog_15_method_44_code (Option.some Jvm.ClassFile.FieldType.int) e = true := by decide +kernel
theorem ak_ck168 : ∀ e ∈ ai_k168, ak_ck ⟨"SpanCopierModel", "takerGoes", "()V"⟩ prog_15_method_75_code (Option.none : Option Jvm.ClassFile.FieldType) e = true := by decide +kernel
theorem ak_ck169 : ∀ e ∈ ai_k169, ak_ck ⟨"SpanCopierModel", "thrown", "()I"⟩ prog_15_method_1_code (Option.some Jvm.ClassFile.FieldType.int) e = true := by decide +kernel
theorem ak_ck170 : ∀ e ∈ ai_k170, ak_ck ⟨"SpanCopierModel", "ticks", "(I)I"⟩ prog_15_method_83_code (Option.some Jvm.ClassFile.FieldType.int) e = true := by decide +kernel
theorem ak_ck171 : ∀ e ∈ ai_k171, ak_ck ⟨"SpanCopierModel", "told", "(I)I"⟩ prog_15_method_121_code (Option.some Jvm.ClassFile.FieldType.int) e = true := by decide +kernel
theorem ak_ck172 : ∀ e ∈ ai_k172, ak_ck ⟨"SpanCopierModel", "twice", "(I)I"⟩ prog_15_method_89_code (Option.some Jvm.ClassFile.FieldType.int) e = true := by decide +kernel
theorem ak_ck173 : ∀ e ∈ ai_k173, ak_ck ⟨"SpanCopierModel", "undo", "()I"⟩ prog_15_method_81_code (Option.some Jvm.ClassFile.FieldType.int) e = true := by decide +kernel
theorem ak_ck174 : ∀ e ∈ ai_k174, ak_ck ⟨"SpanCopierModel", "unit", "(II)I"⟩ prog_15_method_97_code (Option.some Jvm.ClassFile.FieldType.int) e = true := by decide +kernel
theorem ak_ck175 : ∀ e ∈ ai_k175, ak_ck ⟨"SpanCopierModel", "why", "(II)I"⟩ prog_15_method_84_code (Option.some Jvm.ClassFile.FieldType.int) e = true := by decide +kernel
theorem ak_ck176 : ∀ e ∈ ai_k176, ak_ck ⟨"java/lang/Math", "min", "(II)I"⟩ prog_20_method_69_code (Option.some Jvm.ClassFile.FieldType.int) e = true := by decide +kernel
theorem ak_ck177 : ∀ e ∈ ai_k177, ak_ck ⟨"java/util/Arrays", "fill", "([BB)V"⟩ prog_24_method_109_code (Option.none : Option Jvm.ClassFile.FieldType) e = true := by decide +kernel
theorem ak_ck178 : ∀ e ∈ ai_k178, ak_ck ⟨"java/util/Arrays", "fill", "([II)V"⟩ prog_24_method_103_code (Option.none : Option Jvm.ClassFile.FieldType) e = true := by decide +kernel
theorem ak_ck179_0 : ∀ e ∈ (ai_k179.drop 0).take 60, ak_ck ⟨"SpanCopierLaw", "law", "([I)Z"⟩ code ret e = true := by decide +kernel
theorem ak_ck179_1 : ∀ e ∈ (ai_k179.drop 60).take 60, ak_ck ⟨"SpanCopierLaw", "law", "([I)Z"⟩ code ret e = true := by decide +kernel
theorem ak_ck179_2 : ∀ e ∈ (ai_k179.drop 120).take 60, ak_ck ⟨"SpanCopierLaw", "law", "([I)Z"⟩ code ret e = true := by decide +kernel
theorem ak_ck179_3 : ∀ e ∈ (ai_k179.drop 180).take 60, ak_ck ⟨"SpanCopierLaw", "law", "([I)Z"⟩ code ret e = true := by decide +kernel
theorem ak_ck179_4 : ∀ e ∈ (ai_k179.drop 240).take 60, ak_ck ⟨"SpanCopierLaw", "law", "([I)Z"⟩ code ret e = true := by decide +kernel
theorem ak_ck179_5 : ∀ e ∈ (ai_k179.drop 300).take 60, ak_ck ⟨"SpanCopierLaw", "law", "([I)Z"⟩ code ret e = true := by decide +kernel
theorem ak_ck179_6 : ∀ e ∈ (ai_k179.drop 360).take 60, ak_ck ⟨"SpanCopierLaw", "law", "([I)Z"⟩ code ret e = true := by decide +kernel
theorem ak_ck179_7 : ∀ e ∈ (ai_k179.drop 420).take 60, ak_ck ⟨"SpanCopierLaw", "law", "([I)Z"⟩ code ret e = true := by decide +kernel
theorem ak_ck179_8 : ∀ e ∈ (ai_k179.drop 480).take 60, ak_ck ⟨"SpanCopierLaw", "law", "([I)Z"⟩ code ret e = true := by decide +kernel
theorem ak_ck179_9 : ∀ e ∈ (ai_k179.drop 540).take 60, ak_ck ⟨"SpanCopierLaw", "law", "([I)Z"⟩ code ret e = true := by decide +kernel
theorem ak_ck179_r : ∀ e ∈ ai_k179.drop 600, ak_ck ⟨"SpanCopierLaw", "law", "([I)Z"⟩ code ret e = true := by decide +kernel
theorem ak_ck179 : ∀ e ∈ ai_k179, ak_ck ⟨"SpanCopierLaw", "law", "([I)Z"⟩ code ret e = true := ak_parts 0 (n := 60) ak_ck179_0 ( ak_parts 60 (n := 60) ak_ck179_1 ( ak_parts 120 (n := 60) ak_ck179_2 ( ak_parts 180 (n := 60) ak_ck179_3 ( ak_parts 240 (n := 60) ak_ck179_4 ( ak_parts 300 (n := 60) ak_ck179_5 ( ak_parts 360 (n := 60) ak_ck179_6 ( ak_parts 420 (n := 60) ak_ck179_7 ( ak_parts 480 (n := 60) ak_ck179_8 ( ak_parts 540 (n := 60) ak_ck179_9 (ak_ck179_r))))))))))
