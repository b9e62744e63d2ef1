theorem ak_ck180 : ∀ e ∈ ai_k180, ak_ck ⟨"SpanCopierLaw", "unit", "(LSpanCopier;II[J)I"⟩ method_3_code (Option.some Jvm.ClassFile.FieldType.int) e = true := by decide +kernel
theorem ak_ck181 : ∀ e ∈ ai_k181, ak_ck ⟨"SpanCopierLaw", "sum", "(LSpanCopier;I[J)I"⟩ method_4_code (Option.some Jvm.ClassFile.FieldType.int) e = true := by decide +kernel
