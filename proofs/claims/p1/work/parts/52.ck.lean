theorem ak_ck41 : ∀ e ∈ ai_k41, ak_ck ⟨"SpanCopier", "unit", "(II)I"⟩ prog_1_method_21_code (Option.some Jvm.ClassFile.FieldType.int) e = true := by decide +kernel
theorem ak_ck42 : ∀ e ∈ ai_k42, ak_ck ⟨"SpanCopier$Book", "<init>", "()V"⟩ prog_3_method_1_code (Option.none : Option Jvm.ClassFile.FieldType) e = true := by decide +kernel
theorem ak_ck43 : ∀ e ∈ ai_k43, ak_ck ⟨"SpanCopier$Book", "readLines", "(LSpanCopier$Tape;)Z"⟩ prog_3_method_2_code (Option.some Jvm.ClassFile.FieldType.boolean) e = true := by decide +kernel
theorem ak_ck44 : ∀ e ∈ ai_k44, ak_ck ⟨"SpanCopier$Link", "<init>", "()V"⟩ prog_4_method_1_code (Option.none : Option Jvm.ClassFile.FieldType) e = true := by decide +kernel
theorem ak_ck45 : ∀ e ∈ ai_k45, ak_ck ⟨"SpanCopier$Link", "clear", "()V"⟩ prog_4_method_2_code (Option.none : Option Jvm.ClassFile.FieldType) e = true := by decide +kernel
theorem ak_ck46 : ∀ e ∈ ai_k46, ak_ck ⟨"SpanCopier$Link", "copyFrom", "(LSpanCopier$Link;)V"⟩ prog_4_method_3_code (Option.none : Option Jvm.ClassFile.FieldType) e = true := by decide +kernel
theorem ak_ck47 : ∀ e ∈ ai_k47, ak_ck ⟨"SpanCopier$Link", "delay", "(II)I"⟩ prog_4_method_14_code (Option.some Jvm.ClassFile.FieldType.int) e = true := by decide +kernel
theorem ak_ck48 : ∀ e ∈ ai_k48, ak_ck ⟨"SpanCopier$Link", "flip", "(I)I"⟩ prog_4_method_15_code (Option.some Jvm.ClassFile.FieldType.int) e = true := by decide +kernel
theorem ak_ck49 : ∀ e ∈ ai_k49, ak_ck ⟨"SpanCopier$Link", "has", "(I)Z"⟩ prog_4_method_7_code (Option.some Jvm.ClassFile.FieldType.boolean) e = true := by decide +kernel
theorem ak_ck50 : ∀ e ∈ ai_k50, ak_ck ⟨"SpanCopier$Link", "remove", "(I)I"⟩ prog_4_method_12_code (Option.some Jvm.ClassFile.FieldType.int) e = true := by decide +kernel
theorem ak_ck51 : ∀ e ∈ ai_k51, ak_ck ⟨"SpanCopier$Link", "repeat", "(I)I"⟩ prog_4_method_13_code (Option.some Jvm.ClassFile.FieldType.int) e = true := by decide +kernel
theorem ak_ck52 : ∀ e ∈ ai_k52, ak_ck ⟨"SpanCopier$Order", "<init>", "()V"⟩ prog_5_method_1_code (Option.none : Option Jvm.ClassFile.FieldType) e = true := by decide +kernel
theorem ak_ck53 : ∀ e ∈ ai_k53, ak_ck ⟨"SpanCopier$Order", "readLines", "(LSpanCopier$Tape;)I"⟩ prog_5_method_3_code (Option.some Jvm.ClassFile.FieldType.int) e = true := by decide +kernel
theorem ak_ck54 : ∀ e ∈ ai_k54, ak_ck ⟨"SpanCopier$Order", "setting", "(I)I"⟩ prog_5_method_2_code (Option.some Jvm.ClassFile.FieldType.int) e = true := by decide +kernel
theorem ak_ck55 : ∀ e ∈ ai_k55, ak_ck ⟨"SpanCopier$Places", "<init>", "()V"⟩ prog_6_method_1_code (Option.none : Option Jvm.ClassFile.FieldType) e = true := by decide +kernel
theorem ak_ck56 : ∀ e ∈ ai_k56, ak_ck ⟨"SpanCopier$Places", "clear", "()V"⟩ prog_6_method_3_code (Option.none : Option Jvm.ClassFile.FieldType) e = true := by decide +kernel
theorem ak_ck57 : ∀ e ∈ ai_k57, ak_ck ⟨"SpanCopier$Places", "copyFrom", "(LSpanCopier$Places;)V"⟩ prog_6_method_2_code (Option.none : Option Jvm.ClassFile.FieldType) e = true := by decide +kernel
theorem ak_ck58 : ∀ e ∈ ai_k58, ak_ck ⟨"SpanCopier$Places", "countSpans", "()I"⟩ prog_6_method_10_code (Option.some Jvm.ClassFile.FieldType.int) e = true := by decide +kernel
theorem ak_ck59 : ∀ e ∈ ai_k59, ak_ck ⟨"SpanCopier$Places", "edge", "(II)I"⟩ prog_6_method_11_code (Option.some Jvm.ClassFile.FieldType.int) e = true := by decide +kernel
theorem ak_ck60 : ∀ e ∈ ai_k60, ak_ck ⟨"SpanCopier$Places", "has", "(I)Z"⟩ prog_6_method_4_code (Option.some Jvm.ClassFile.FieldType.boolean) e = true := by decide +kernel
theorem ak_ck61 : ∀ e ∈ ai_k61, ak_ck ⟨"SpanCopier$Places", "startsSpan", "(I)Z"⟩ prog_6_method_9_code (Option.some Jvm.ClassFile.FieldType.boolean) e = true := by decide +kernel
theorem ak_ck62 : ∀ e ∈ ai_k62, ak_ck ⟨"SpanCopier$Sender", "<init>", "()V"⟩ prog_7_method_1_code (Option.none : Option Jvm.ClassFile.FieldType) e = true := by decide +kernel
theorem ak_ck63 : ∀ e ∈ ai_k63, ak_ck ⟨"SpanCopier$Sender", "act", "(LSpanCopier$World;)V"⟩ prog_7_method_9_code (Option.none : Option Jvm.ClassFile.FieldType) e = true := by decide +kernel
theorem ak_ck64 : ∀ e ∈ ai_k64, ak_ck ⟨"SpanCopier$Sender", "clear", "()V"⟩ prog_7_method_2_code (Option.none : Option Jvm.ClassFile.FieldType) e = true := by decide +kernel
theorem ak_ck65 : ∀ e ∈ ai_k65, ak_ck ⟨"SpanCopier$Sender", "copyFrom", "(LSpanCopier$Sender;)V"⟩ prog_7_method_3_code (Option.none : Option Jvm.ClassFile.FieldType) e = true := by decide +kernel
theorem ak_ck66 : ∀ e ∈ ai_k66, ak_ck ⟨"SpanCopier$Sender", "isActive", "()Z"⟩ prog_7_method_4_code (Option.some Jvm.ClassFile.FieldType.boolean) e = true := by decide +kernel
theorem ak_ck67 : ∀ e ∈ ai_k67, ak_ck ⟨"SpanCopier$Sentence", "<init>", "()V"⟩ prog_8_method_1_code (Option.none : Option Jvm.ClassFile.FieldType) e = true := by decide +kernel
theorem ak_ck68 : ∀ e ∈ ai_k68, ak_ck ⟨"SpanCopier$Sentence", "isMeasure", "(LSpanCopier$Word;)Z"⟩ prog_8_method_6_code (Option.some Jvm.ClassFile.FieldType.boolean) e = true := by decide +kernel
theorem ak_ck69 : ∀ e ∈ ai_k69, ak_ck ⟨"SpanCopier$Sentence", "isSaid", "(LSpanCopier$Word;)Z"⟩ prog_8_method_5_code (Option.some Jvm.ClassFile.FieldType.boolean) e = true := by decide +kernel
theorem ak_ck70 : ∀ e ∈ ai_k70, ak_ck ⟨"SpanCopier$Sentence", "readAll", "(LSpanCopier$Tape;I)Z"⟩ prog_8_method_3_code (Option.some Jvm.ClassFile.FieldType.boolean) e = true := by decide +kernel
theorem ak_ck71 : ∀ e ∈ ai_k71, ak_ck ⟨"SpanCopier$Sentence", "readCond", "(LSpanCopier$Tape;I)Z"⟩ prog_8_method_2_code (Option.some Jvm.ClassFile.FieldType.boolean) e = true := by decide +kernel
theorem ak_ck72 : ∀ e ∈ ai_k72, ak_ck ⟨"SpanCopier$Sentence", "readOne", "(LSpanCopier$Tape;I)Z"⟩ prog_8_method_4_code (Option.some Jvm.ClassFile.FieldType.boolean) e = true := by decide +kernel
theorem ak_ck73 : ∀ e ∈ ai_k73, ak_ck ⟨"SpanCopier$Shelf", "<init>", "()V"⟩ prog_9_method_1_code (Option.none : Option Jvm.ClassFile.FieldType) e = true := by decide +kernel
theorem ak_ck74 : ∀ e ∈ ai_k74, ak_ck ⟨"SpanCopier$Shelf", "clear", "(I)V"⟩ prog_9_method_2_code (Option.none : Option Jvm.ClassFile.FieldType) e = true := by decide +kernel
theorem ak_ck75 : ∀ e ∈ ai_k75, ak_ck ⟨"SpanCopier$Shelf", "copyFrom", "(LSpanCopier$Shelf;)V"⟩ prog_9_method_3_code (Option.none : Option Jvm.ClassFile.FieldType) e = true := by decide +kernel
theorem ak_ck76 : ∀ e ∈ ai_k76, ak_ck ⟨"SpanCopier$Shelf", "entry", "(I)I"⟩ prog_9_method_4_code (Option.some Jvm.ClassFile.FieldType.int) e = true := by decide +kernel
theorem ak_ck77 : ∀ e ∈ ai_k77, ak_ck ⟨"SpanCopier$Taker", "<init>", "()V"⟩ prog_10_method_1_code (Option.none : Option Jvm.ClassFile.FieldType) e = true := by decide +kernel
theorem ak_ck78 : ∀ e ∈ ai_k78, ak_ck ⟨"SpanCopier$Taker", "act", "(LSpanCopier$World;)V"⟩ prog_10_method_14_code (Option.none : Option Jvm.ClassFile.FieldType) e = true := by decide +kernel
theorem ak_ck79 : ∀ e ∈ ai_k79, ak_ck ⟨"SpanCopier$Taker", "byteAt", "(I)I"⟩ prog_10_method_6_code (Option.some Jvm.ClassFile.FieldType.int) e = true := by decide +kernel
theorem ak_ck80 : ∀ e ∈ ai_k80, ak_ck ⟨"SpanCopier$Taker", "clear", "()V"⟩ prog_10_method_2_code (Option.none : Option Jvm.ClassFile.FieldType) e = true := by decide +kernel
theorem ak_ck81 : ∀ e ∈ ai_k81, ak_ck ⟨"SpanCopier$Taker", "copyFrom", "(LSpanCopier$Taker;)V"⟩ prog_10_method_3_code (Option.none : Option Jvm.ClassFile.FieldType) e = true := by decide +kernel
theorem ak_ck82 : ∀ e ∈ ai_k82, ak_ck ⟨"SpanCopier$Taker", "hasByte", "(I)Z"⟩ prog_10_method_5_code (Option.some Jvm.ClassFile.FieldType.boolean) e = true := by decide +kernel
theorem ak_ck83 : ∀ e ∈ ai_k83, ak_ck ⟨"SpanCopier$Taker", "sumOfBytes", "()I"⟩ prog_10_method_7_code (Option.some Jvm.ClassFile.FieldType.int) e = true := by decide +kernel
theorem ak_ck84 : ∀ e ∈ ai_k84, ak_ck ⟨"SpanCopier$Tape", "<init>", "()V"⟩ prog_11_method_1_code (Option.none : Option Jvm.ClassFile.FieldType) e = true := by decide +kernel
theorem ak_ck85 : ∀ e ∈ ai_k85, ak_ck ⟨"SpanCopier$Tape", "fail", "(I)Z"⟩ prog_11_method_4_code (Option.some Jvm.ClassFile.FieldType.boolean) e = true := by decide +kernel
theorem ak_ck86 : ∀ e ∈ ai_k86, ak_ck ⟨"SpanCopier$Tape", "open", "(I)V"⟩ prog_11_method_3_code (Option.none : Option Jvm.ClassFile.FieldType) e = true := by decide +kernel
theorem ak_ck87 : ∀ e ∈ ai_k87, ak_ck ⟨"SpanCopier$Tape", "put", "(I)V"⟩ prog_11_method_2_code (Option.none : Option Jvm.ClassFile.FieldType) e = true := by decide +kernel
theorem ak_ck88 : ∀ e ∈ ai_k88, ak_ck ⟨"SpanCopier$Tape", "step", "()V"⟩ prog_11_method_6_code (Option.none : Option Jvm.ClassFile.FieldType) e = true := by decide +kernel
theorem ak_ck89 : ∀ e ∈ ai_k89, ak_ck ⟨"SpanCopier$World", "<init>", "()V"⟩ prog_13_method_1_code (Option.none : Option Jvm.ClassFile.FieldType) e = true := by decide +kernel
